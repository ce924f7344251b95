abbrev absL (x : Int64) : Int64 := if 0 < x then x else -x
abbrev maxL (x y : Int64) : Int64 := if y < x then x else y
abbrev absI (x : Int32) : Int32 := if 0 ≤ x then x else 0 - x
abbrev minI (x y : Int32) : Int32 := if y < x then y else x
def F_J9_floorMod_7cf53 (z : Nat) (a0 : Int32) (a1 : Int32) : Option (Int32) :=
(if a1 = 0 then none else ((some (a0 - a0 / a1 * a1)).bind fun v2 => (if 0 ≤ (a0 ^^^ a1) then
some v2
else
(if v2 = 0 then
some v2
else
some (v2 + a1)))))
def F_J9_floorMod_f86c9 (z : Nat) (a0 : Int64) (a1 : Int64) : Option (Int64) :=
(if a1 = 0 then none else ((some (a0 - a0 / a1 * a1)).bind fun v2 => (if (0 : Int64) ≤ (a0 ^^^ a1) then
some v2
else
(if v2 = (0 : Int64) then
some v2
else
some (v2 + a1)))))
def F_J9_floorDiv_f86c9 (z : Nat) (a0 : Int64) (a1 : Int64) : Option (Int64) :=
(if a1 = 0 then none else ((some (a0 / a1)).bind fun v2 => (if (0 : Int64) ≤ (a0 ^^^ a1) then
some v2
else
(if (v2 * a1) = a0 then
some v2
else
some (v2 - (1 : Int64))))))
def F_J13_signum_95d88 (z : Nat) (a0 : Int64) : Option (Int32) :=
some (Int64.toInt32 ((a0 >>> (Int32.toInt64 (63 : Int32) &&& 63)) ||| ((Int64.toUInt64 (-a0) >>> (Int64.toUInt64 (Int32.toInt64 (63 : Int32)) &&& Int64.toUInt64 63)).toInt64)))
def F_X7_isIn (z : Nat) (a0 : Int64) (a1 : Int64) (a2 : Int64) : Option (Int32) :=
(if a0 < a1 then
some (0 : Int32)
else
(if a2 < a0 then
some (0 : Int32)
else
some (1 : Int32)))
def F_X7_size (z : Nat) (a0 : Int64) : Option (Int64) :=
(if (0 : Int64) ≤ a0 then
some a0
else
some (-a0))
def G_X7_common_12 (z : Nat) : Nat → Int64 → Int64 → Option (Int64)
  | 0 => fun _ _ => none
  | n + 1 => fun x4 x6 =>
(if x6 = (0 : Int64) then
some x4
else
(if x6 = 0 then none else ((some (x4 - x4 / x6 * x6)).bind fun v3 => ((G_X7_common_12 z n) x6 v3))))
def F_X7_common (z : Nat) (a0 : Int64) (a1 : Int64) : Option (Int64) :=
((F_X7_size z a0).bind fun r1 => ((F_X7_size z a1).bind fun r2 => (G_X7_common_12 z z r1 r2)))
def G_X7_down_26 (z : Nat) (x2 : Int64) (x4 : Int64) (t0 : Int32) : Option (Int64) :=
(if (0 : Int64) ≤ x2 then
(if t0 = (0 : Int32) then
some x4
else
some (x4 - (1 : Int64)))
else
(if t0 = (1 : Int32) then
some x4
else
some (x4 - (1 : Int64))))
def F_X7_down (z : Nat) (a0 : Int64) (a1 : Int64) : Option (Int64) :=
(if a1 = 0 then none else ((some (a0 / a1)).bind fun v2 => (if a1 = 0 then none else (if (a0 - a0 / a1 * a1) = (0 : Int64) then
some v2
else
(if a1 = 0 then none else (if (0 : Int64) ≤ (a0 - a0 / a1 * a1) then
(G_X7_down_26 z a1 v2 (0 : Int32))
else
(G_X7_down_26 z a1 v2 (1 : Int32))))))))
def F_X7_rest (z : Nat) (a0 : Int64) (a1 : Int64) : Option (Int64) :=
((F_X7_down z a0 a1).bind fun r1 => some (a0 - (a1 * r1)))
def G_X7_twelve_107 (z : Nat) (x0 : Int64) (x2 : Int64) (x8 : Int64) (x14 : Int64) (t0 : Int64) : Option (Int64) :=
((F_X7_rest z x0 x2).bind fun r1 => (if t0 = (1 : Int64) then
some ((((x2 * x8) - (((3 : Int64) * t0) * x2)) + r1) + x14)
else
some ((((x2 * x8) - (((3 : Int64) * t0) * x2)) + r1) + (-x14))))
def G_X7_twelve_30 (z : Nat) : Nat → Int64 → Int64 → Int64 → Int64 → Int64 → Int64 → Int64 → Int64 → Option (Int64)
  | 0 => fun _ _ _ _ _ _ _ _ => none
  | n + 1 => fun x0 x2 x4 x6 x8 x10 x12 x14 =>
(if x4 = (0 : Int64) then
(if (0 : Int64) ≤ x10 then
(G_X7_twelve_107 z x0 x2 x8 x14 (0 : Int64))
else
(G_X7_twelve_107 z x0 x2 x8 x14 (1 : Int64)))
else
(if x4 = 0 then none else ((some (x6 / x4)).bind fun v4 => ((some (x8 + (x10 * v4))).bind fun v5 => ((some ((v4 * x12) + x14)).bind fun v6 => (if x4 = 0 then none else ((some (x6 - x6 / x4 * x4)).bind fun v8 => ((some (-x10)).bind fun v9 => ((G_X7_twelve_30 z n) x0 x2 v8 x4 v5 v9 v6 x12)))))))))
def F_X7_twelve (z : Nat) (a0 : Int64) (a1 : Int64) : Option (Int64) :=
((F_X7_rest z a0 a1).bind fun r1 => (if a1 = (1 : Int64) then
some (0 : Int64)
else
(G_X7_twelve_30 z z a0 a1 r1 a1 (0 : Int64) (1 : Int64) (1 : Int64) (0 : Int64))))
def G_X7_inverse_3 (z : Nat) : Nat → Int64 → Int64 → Int64 → Option (Int64)
  | 0 => fun _ _ _ => none
  | n + 1 => fun x0 x2 x4 =>
(if x2 ≤ x4 then
some (0 : Int64)
else
(if x2 = 0 then none else (if x2 = 0 then none else (if ((x0 * x4) - (x0 * x4) / x2 * x2) = ((1 : Int64) - (1 : Int64) / x2 * x2) then
some x4
else
((some (x4 + (1 : Int64))).bind fun v5 => ((G_X7_inverse_3 z n) x0 x2 v5))))))
def F_X7_inverse (z : Nat) (a0 : Int64) (a1 : Int64) : Option (Int64) :=
(G_X7_inverse_3 z z a0 a1 (0 : Int64))
def F_X7_isThousand (z : Nat) (a0 : Int32) : Option (Int32) :=
((F_X7_isIn z (Int32.toInt64 a0) (1 : Int64) (1000 : Int64)).bind fun r1 => (if nb r1 = true then some r1 else none))
def G_X7_chained_49 (z : Nat) (k13 : Int64 → Int32 → Int32 → Int64 → Int64 → Int32 → Option (Int32)) (x2 : Int64) (x4 : Int32) (x5 : Int32) (x6 : Int64) (x8 : Int64) (x10 : Int32) (t0 : Int64) : Option (Int32) :=
(if x10 = x4 then
some (Int64.toInt32 t0)
else
((some (x10 + (1 : Int32))).bind fun v2 => (if x5 = 0 then
(if x6 = 0 then none else ((some (x8 - x8 / x6 * x6)).bind fun v5 => (k13 x2 x4 x5 v5 x6 v2)))
else
((some ((t0 * x6) - x8)).bind fun v6 => (k13 x2 x4 x5 v6 x6 v2)))))
def G_X7_chained_13 (z : Nat) : Nat → Int64 → Int32 → Int32 → Int64 → Int64 → Int32 → Option (Int32)
  | 0 => fun _ _ _ _ _ _ => none
  | n + 1 => fun x2 x4 x5 x6 x8 x10 =>
(if x6 = (0 : Int64) then
(if x4 = (-1 : Int32) then
some x10
else
some (-1 : Int32))
else
(if x2 ≤ (1 : Int64) then
(if x4 = (-1 : Int32) then
some x10
else
some (-1 : Int32))
else
(if x5 = 0 then
(if x6 = 0 then none else (G_X7_chained_49 z (G_X7_chained_13 z n) x2 x4 x5 x6 x8 x10 (x8 / x6)))
else
(if x6 = 0 then none else (G_X7_chained_49 z (G_X7_chained_13 z n) x2 x4 x5 x6 x8 x10 (((x8 + x6) - (1 : Int64)) / x6))))))
def F_X7_chained (z : Nat) (a0 : Int64) (a1 : Int64) (a2 : Int32) (a3 : Int32) : Option (Int32) :=
((F_X7_rest z a0 a1).bind fun r1 => (G_X7_chained_13 z z a1 a2 a3 r1 a1 (0 : Int32)))
def G_X7_floors_67 (z : Nat) (k17 : Int64 → Int64 → Int64 → Int64 → Int64 → Option (Int64)) (x10 : Int64) (x12 : Int64) (x14 : Int64) (x16 : Int64) (t0 : Int64) (t1 : Int64) (t2 : Int64) : Option (Int64) :=
(if x14 = 0 then none else ((some (t2 + ((t1 * t0) + ((x12 / x14) * x16)))).bind fun v2 => (if x14 = 0 then none else ((some (x10 - x10 / x14 * x14)).bind fun v4 => (if x14 = 0 then none else ((some (x12 - x12 / x14 * x14)).bind fun v6 => ((some ((v4 * x16) + v6)).bind fun v7 => (if x14 ≤ v7 then
(if x14 = 0 then none else ((some (v7 / x14)).bind fun v10 => (if x14 = 0 then none else ((some (v7 - v7 / x14 * x14)).bind fun v12 => (k17 v2 x14 v12 v4 v10)))))
else
some v2))))))))
def G_X7_floors_17 (z : Nat) : Nat → Int64 → Int64 → Int64 → Int64 → Int64 → Option (Int64)
  | 0 => fun _ _ _ _ _ => none
  | n + 1 => fun x8 x10 x12 x14 x16 =>
(if x16 ≤ (0 : Int64) then
some x8
else
(if x14 = 0 then none else (if (x16 - x16 / (2 : Int64) * (2 : Int64)) = (0 : Int64) then
(G_X7_floors_67 z (G_X7_floors_17 z n) x10 x12 x14 x16 ((x16 / (2 : Int64)) * (x16 - (1 : Int64))) (x10 / x14) x8)
else
(G_X7_floors_67 z (G_X7_floors_17 z n) x10 x12 x14 x16 (((x16 - (1 : Int64)) / (2 : Int64)) * x16) (x10 / x14) x8))))
def F_X7_floors (z : Nat) (a0 : Int64) (a1 : Int64) (a2 : Int64) (a3 : Int64) : Option (Int64) :=
(G_X7_floors_17 z z (0 : Int64) a0 a1 a2 a3)
def F_X7_below (z : Nat) (a0 : Int64) (a1 : Int64) (a2 : Int64) : Option (Int64) :=
(if (0 : Int64) ≤ a2 then
(if a0 = 0 then none else ((some ((a2 / a0) + (1 : Int64))).bind fun v3 => (if a0 = 0 then none else ((F_X7_floors z a0 (a2 - a2 / a0 * a0) a1 v3).bind fun r5 => some (r5 + v3)))))
else
some (0 : Int64))
def F_X7_isTriangle (z : Nat) (a0 : Int32) (a1 : Int32) (a2 : Int32) : Option (Int32) :=
((F_X7_isIn z (Int32.toInt64 a0) (1 : Int64) (1000000 : Int64)).bind fun r1 => (if r1 = 0 then
some (0 : Int32)
else
((F_X7_isIn z (Int32.toInt64 a1) (1 : Int64) (1000000 : Int64)).bind fun r3 => (if r3 = 0 then
some (0 : Int32)
else
((F_X7_isIn z (Int32.toInt64 a2) (0 : Int64) (1000000000 : Int64)).bind fun r5 => (if r5 = 0 then
some (0 : Int32)
else
some (1 : Int32)))))))
def F_X7_isEntry (z : Nat) (a0 : Int64) : Option (Int32) :=
((F_X7_isIn z a0 (-1000000000 : Int64) (1000000000 : Int64)).bind fun r1 => (if nb r1 = true then some r1 else none))
def F_X7_isMatrix (z : Nat) (a0 : Int32) (a1 : Int32) (a2 : Int32) (a3 : Int32) : Option (Int32) :=
((F_X7_isEntry z (Int32.toInt64 a0)).bind fun r1 => (if r1 = 0 then
some (0 : Int32)
else
((F_X7_isEntry z (Int32.toInt64 a1)).bind fun r3 => (if r3 = 0 then
some (0 : Int32)
else
((F_X7_isEntry z (Int32.toInt64 a2)).bind fun r5 => (if r5 = 0 then
some (0 : Int32)
else
((F_X7_isEntry z (Int32.toInt64 a3)).bind fun r7 => (if r7 = 0 then
some (0 : Int32)
else
(if (((Int32.toInt64 a0) * (Int32.toInt64 a3)) - ((Int32.toInt64 a1) * (Int32.toInt64 a2))) = (1 : Int64) then
some (1 : Int32)
else
some (0 : Int32))))))))))
def F_X7_signOf (z : Nat) (a0 : Int64) : Option (Int64) :=
(if a0 ≤ (0 : Int64) then
(if (0 : Int64) ≤ a0 then
some (0 : Int64)
else
some (-1 : Int64))
else
some (1 : Int64))
def F_X7_isRing (z : Nat) (a0 : Int32) (a1 : Int32) : Option (Int32) :=
((F_X7_isIn z (Int32.toInt64 a0) (2 : Int64) (1000 : Int64)).bind fun r1 => (if r1 = 0 then
some (0 : Int32)
else
((F_X7_common z (Int32.toInt64 a0) (Int32.toInt64 a1)).bind fun r3 => (if r3 = (1 : Int64) then
some (1 : Int32)
else
some (0 : Int32)))))
def F_X7_areSame (z : Nat) (a0 : Int64) (a1 : Int64) (a2 : Int64) : Option (Int32) :=
(if a1 = a2 then
some (1 : Int32)
else
(if a0 = 0 then none else (if ((a1 * a2) - (a1 * a2) / a0 * a0) = (1 : Int64) then
some (1 : Int32)
else
some (0 : Int32))))
def G_X7_ringOf_50 (z : Nat) (x0 : Int32) (x4 : Int64) (t0 : Int64) : Option (Int32) :=
(if t0 ≤ ((Int32.toInt64 x0) - x4) then
some (Int64.toInt32 t0)
else
some (Int64.toInt32 ((Int32.toInt64 x0) - x4)))
def G_X7_ringOf_29 (z : Nat) (x0 : Int32) (x2 : Int64) (x4 : Int64) (t0 : Int64) : Option (Int32) :=
(if t0 ≤ ((Int32.toInt64 x0) - x2) then
(G_X7_ringOf_50 z x0 x4 t0)
else
(G_X7_ringOf_50 z x0 x4 ((Int32.toInt64 x0) - x2)))
def F_X7_ringOf (z : Nat) (a0 : Int32) (a1 : Int32) : Option (Int32) :=
((F_X7_rest z (Int32.toInt64 a1) (Int32.toInt64 a0)).bind fun r1 => ((F_X7_inverse z r1 (Int32.toInt64 a0)).bind fun r2 => (if r2 ≤ r1 then
(G_X7_ringOf_29 z a0 r1 r2 r2)
else
(G_X7_ringOf_29 z a0 r1 r2 r1))))
def F_X6_lies (z : Nat) (a0 : Int64) (a1 : Int64) (a2 : Int64) : Option (Int32) :=
(if a0 < a1 then
some (0 : Int32)
else
(if a2 < a0 then
some (0 : Int32)
else
some (1 : Int32)))
def G_X5_divisor_15 (z : Nat) : Nat → Int64 → Int64 → Int32 → Option (Int64)
  | 0 => fun _ _ _ => none
  | n + 1 => fun x4 x6 x8 =>
(if (200 : Int32) ≤ x8 then
some (maxL x4 (1 : Int64))
else
(if x6 = (0 : Int64) then
some (maxL x4 (1 : Int64))
else
(if x6 = 0 then none else ((some (x4 - x4 / x6 * x6)).bind fun v4 => ((some (x8 + (1 : Int32))).bind fun v5 => ((G_X5_divisor_15 z n) x6 v4 v5))))))
def F_X5_divisor (z : Nat) (a0 : Int64) (a1 : Int64) : Option (Int64) :=
((some (absL a0)).bind fun v1 => ((some (absL a1)).bind fun v2 => (G_X5_divisor_15 z z v1 v2 (0 : Int32))))
def G_X5_inverse_27 (z : Nat) : Nat → Int64 → Int64 → Int64 → Int64 → Int64 → Int32 → Option (Int64)
  | 0 => fun _ _ _ _ _ _ => none
  | n + 1 => fun x2 x4 x6 x8 x10 x12 =>
(if (200 : Int32) ≤ x12 then
((F_J9_floorMod_f86c9 z x8 x2).bind fun r2 => some r2)
else
(if x6 = (0 : Int64) then
((F_J9_floorMod_f86c9 z x8 x2).bind fun r4 => some r4)
else
(if x6 = 0 then none else ((some (x4 / x6)).bind fun v6 => ((some (x4 - (v6 * x6))).bind fun v7 => ((some (x8 - (v6 * x10))).bind fun v8 => ((some (x12 + (1 : Int32))).bind fun v9 => ((G_X5_inverse_27 z n) x2 x6 v7 x10 v8 v9))))))))
def F_X5_inverse (z : Nat) (a0 : Int64) (a1 : Int64) : Option (Int64) :=
(if (1 : Int64) ≤ a1 then
((F_J9_floorMod_f86c9 z a0 a1).bind fun r2 => (G_X5_inverse_27 z z a1 a1 r2 (0 : Int64) (1 : Int64) (0 : Int32)))
else
some (0 : Int64))
def G_X5_twelfths_127 (z : Nat) (x4 : Int64) (x8 : Int64) (x10 : Int64) (x12 : Int64) (x14 : Int64) (x16 : Int64) (t0 : Int64) : Option (Int64) :=
some (x4 + (x8 * ((x16 * (x12 - t0)) - (x10 * x14))))
def G_X5_twelfths_113 (z : Nat) (x4 : Int64) (x8 : Int64) (x10 : Int64) (x12 : Int64) (x14 : Int64) (x16 : Int64) : Option (Int64) :=
(if (0 : Int64) ≤ x10 then
(G_X5_twelfths_127 z x4 x8 x10 x12 x14 x16 (0 : Int64))
else
(G_X5_twelfths_127 z x4 x8 x10 x12 x14 x16 (3 : Int64)))
def G_X5_twelfths_37 (z : Nat) : Nat → Int64 → Int64 → Int64 → Int64 → Int64 → Int64 → Int64 → Int32 → Option (Int64)
  | 0 => fun _ _ _ _ _ _ _ _ => none
  | n + 1 => fun x4 x6 x8 x10 x12 x14 x16 x18 =>
(if (200 : Int32) ≤ x18 then
(G_X5_twelfths_113 z x4 x8 x10 x12 x14 x16)
else
(if x6 = (0 : Int64) then
(G_X5_twelfths_113 z x4 x8 x10 x12 x14 x16)
else
(if x6 = 0 then none else ((some (x8 / x6)).bind fun v4 => (if x6 = 0 then none else ((some (x8 - x8 / x6 * x6)).bind fun v6 => ((some (x12 + (x10 * v4))).bind fun v7 => ((some (-x10)).bind fun v8 => ((some ((v4 * x16) + x14)).bind fun v9 => ((some (x18 + (1 : Int32))).bind fun v10 => ((G_X5_twelfths_37 z n) x4 v6 x6 v8 v7 x16 v9 v10)))))))))))
def F_X5_twelfths (z : Nat) (a0 : Int64) (a1 : Int64) : Option (Int64) :=
(if (1 : Int64) ≤ a1 then
((F_J9_floorMod_f86c9 z a0 a1).bind fun r2 => (G_X5_twelfths_37 z z r2 r2 a1 (1 : Int64) (0 : Int64) (0 : Int64) (1 : Int64) (0 : Int32)))
else
some (0 : Int64))
def G_X5_floorSum_20 (z : Nat) : Nat → Int64 → Int64 → Int64 → Int64 → Int64 → Int32 → Option (Int64)
  | 0 => fun _ _ _ _ _ _ => none
  | n + 1 => fun x8 x10 x12 x14 x16 x18 =>
(if (200 : Int32) ≤ x18 then
some x8
else
(if x14 ≤ (0 : Int64) then
some x8
else
((F_J9_floorDiv_f86c9 z x10 x14).bind fun r3 => ((F_J9_floorDiv_f86c9 z x12 x14).bind fun r4 => ((some (x8 + ((((x16 * (x16 - (1 : Int64))) / (2 : Int64)) * r3) + (x16 * r4)))).bind fun v5 => ((F_J9_floorMod_f86c9 z x10 x14).bind fun r6 => ((F_J9_floorMod_f86c9 z x12 x14).bind fun r7 => ((some ((r6 * x16) + r7)).bind fun v8 => (if x14 ≤ v8 then
(if x14 = 0 then none else ((some (v8 / x14)).bind fun v11 => (if x14 = 0 then none else ((some (v8 - v8 / x14 * x14)).bind fun v13 => ((some (x18 + (1 : Int32))).bind fun v14 => ((G_X5_floorSum_20 z n) v5 x14 v13 r6 v11 v14))))))
else
some v5)))))))))
def F_X5_floorSum (z : Nat) (a0 : Int64) (a1 : Int64) (a2 : Int64) (a3 : Int64) : Option (Int64) :=
(G_X5_floorSum_20 z z (0 : Int64) a0 a1 a2 a3 (0 : Int32))
def F_X5_pointsBelow (z : Nat) (a0 : Int64) (a1 : Int64) (a2 : Int64) : Option (Int64) :=
(if a0 < (1 : Int64) then
some (0 : Int64)
else
(if a1 < (1 : Int64) then
some (0 : Int64)
else
(if (0 : Int64) ≤ a2 then
(if a0 = 0 then none else ((some ((a2 / a0) + (1 : Int64))).bind fun v5 => (if a0 = 0 then none else ((F_X5_floorSum z a0 (a2 - a2 / a0 * a0) a1 v5).bind fun r7 => some (v5 + r7)))))
else
some (0 : Int64))))
def F_X6_areThree (z : Nat) (a0 : Int32) (a1 : Int32) (a2 : Int32) : Option (Int32) :=
((F_X6_lies z (Int32.toInt64 a0) (1 : Int64) (1000 : Int64)).bind fun r1 => (if r1 = 0 then
some (0 : Int32)
else
((F_X6_lies z (Int32.toInt64 a1) (1 : Int64) (1000 : Int64)).bind fun r3 => (if r3 = 0 then
some (0 : Int32)
else
((F_X6_lies z (Int32.toInt64 a2) (1 : Int64) (1000 : Int64)).bind fun r5 => (if r5 = 0 then
some (0 : Int32)
else
((F_X5_divisor z (Int32.toInt64 a0) (Int32.toInt64 a1)).bind fun r7 => (if r7 = (1 : Int64) then
((F_X5_divisor z (Int32.toInt64 a1) (Int32.toInt64 a2)).bind fun r9 => (if r9 = (1 : Int64) then
((F_X5_divisor z (Int32.toInt64 a0) (Int32.toInt64 a2)).bind fun r11 => (if r11 = (1 : Int64) then
some (1 : Int32)
else
some (0 : Int32)))
else
some (0 : Int32)))
else
some (0 : Int32)))))))))
def F_X6_isTriangle (z : Nat) (a0 : Int32) (a1 : Int32) (a2 : Int32) : Option (Int32) :=
((F_X6_lies z (Int32.toInt64 a0) (1 : Int64) (1000000 : Int64)).bind fun r1 => (if r1 = 0 then
some (0 : Int32)
else
((F_X6_lies z (Int32.toInt64 a1) (1 : Int64) (1000000 : Int64)).bind fun r3 => (if r3 = 0 then
some (0 : Int32)
else
((F_X6_lies z (Int32.toInt64 a2) (0 : Int64) (1000000000 : Int64)).bind fun r5 => (if r5 = 0 then
some (0 : Int32)
else
some (1 : Int32)))))))
def G_X6_firstWithGreatestSum_7 (z : Nat) : Nat → Int32 → Int32 → Int64 → Int32 → Option (Int32)
  | 0 => fun _ _ _ _ => none
  | n + 1 => fun x0 x1 x2 x4 =>
(if x0 ≤ x4 then
some x1
else
((F_X5_divisor z (Int32.toInt64 x4) (Int32.toInt64 x0)).bind fun r2 => (if r2 = (1 : Int64) then
((F_X5_twelfths z (Int32.toInt64 x4) (Int32.toInt64 x0)).bind fun r5 => (if x1 = (-1 : Int32) then
((some (x4 + (1 : Int32))).bind fun v7 => ((G_X6_firstWithGreatestSum_7 z n) x0 x4 r5 v7))
else
(if r5 ≤ x2 then
((some (x4 + (1 : Int32))).bind fun v9 => ((G_X6_firstWithGreatestSum_7 z n) x0 x1 x2 v9))
else
((some (x4 + (1 : Int32))).bind fun v10 => ((G_X6_firstWithGreatestSum_7 z n) x0 x4 r5 v10)))))
else
((some (x4 + (1 : Int32))).bind fun v4 => ((G_X6_firstWithGreatestSum_7 z n) x0 x1 x2 v4)))))
def F_X6_firstWithGreatestSum (z : Nat) (a0 : Int32) : Option (Int32) :=
(G_X6_firstWithGreatestSum_7 z z a0 (-1 : Int32) (0 : Int64) (0 : Int32))
def F_X0_isRing (z : Nat) (a0 : Int32) (a1 : Int32) : Option (Int32) :=
((F_X6_lies z (Int32.toInt64 a0) (2 : Int64) (1000 : Int64)).bind fun r1 => (if r1 = 0 then
some (0 : Int32)
else
((F_X5_divisor z (Int32.toInt64 a1) (Int32.toInt64 a0)).bind fun r3 => (if r3 = (1 : Int64) then
some (1 : Int32)
else
some (0 : Int32)))))
def F_X0_match (z : Nat) (a0 : Int32) (a1 : Int32) (a2 : Int32) : Option (Int32) :=
(if a1 = a2 then
some (1 : Int32)
else
(if a0 ≤ 0 then
some (0 : Int32)
else
(if a0 = 0 then none else (if ((a1 * a2) - (a1 * a2) / a0 * a0) = (1 : Int32) then
some (1 : Int32)
else
some (0 : Int32)))))
def F_X0_leastOf (z : Nat) (a0 : Int32) (a1 : Int32) : Option (Int32) :=
(if (1 : Int32) ≤ a0 then
((F_J9_floorMod_7cf53 z a1 a0).bind fun r2 => ((F_X5_inverse z (Int32.toInt64 a1) (Int32.toInt64 a0)).bind fun r3 => ((some (Int64.toInt32 r3)).bind fun v4 => some (minI (minI r2 (a0 - r2)) (minI v4 (a0 - v4))))))
else
some (-1 : Int32))
def F_X2_isMatrix (z : Nat) (a0 : Int64) (a1 : Int64) (a2 : Int64) (a3 : Int64) : Option (Int32) :=
((F_X6_lies z a0 (-1000000000 : Int64) (1000000000 : Int64)).bind fun r1 => (if r1 = 0 then
some (0 : Int32)
else
((F_X6_lies z a1 (-1000000000 : Int64) (1000000000 : Int64)).bind fun r3 => (if r3 = 0 then
some (0 : Int32)
else
((F_X6_lies z a2 (-1000000000 : Int64) (1000000000 : Int64)).bind fun r5 => (if r5 = 0 then
some (0 : Int32)
else
((F_X6_lies z a3 (-1000000000 : Int64) (1000000000 : Int64)).bind fun r7 => (if r7 = 0 then
some (0 : Int32)
else
(if ((a0 * a3) - (a1 * a2)) = (1 : Int64) then
some (1 : Int32)
else
some (0 : Int32))))))))))
