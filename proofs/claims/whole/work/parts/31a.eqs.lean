/-! the loops' steps as equations -/
theorem e_X7_common_12 (z : Nat) (n : Nat) (x4 : Int64) (x6 : Int64) : G_X7_common_12 z (n + 1) x4 x6 =
(if x6 = (0 : Int64) then
some x4
else
(if x6 = 0 then none else ((some (x4 - x4 / x6 * x6)).bind fun v3 => ((G_X7_common_12 z n) x6 v3)))) := rfl
theorem e_X7_twelve_30 (z : Nat) (n : Nat) (x0 : Int64) (x2 : Int64) (x4 : Int64) (x6 : Int64) (x8 : Int64) (x10 : Int64) (x12 : Int64) (x14 : Int64) : G_X7_twelve_30 z (n + 1) x0 x2 x4 x6 x8 x10 x12 x14 =
(if x4 = (0 : Int64) then
(if (0 : Int64) ≤ x10 then
(G_X7_twelve_107 z x0 x2 x8 x14 (0 : Int64))
else
(G_X7_twelve_107 z x0 x2 x8 x14 (1 : Int64)))
else
(if x4 = 0 then none else ((some (x6 / x4)).bind fun v4 => ((some (x8 + (x10 * v4))).bind fun v5 => ((some ((v4 * x12) + x14)).bind fun v6 => (if x4 = 0 then none else ((some (x6 - x6 / x4 * x4)).bind fun v8 => ((some (-x10)).bind fun v9 => ((G_X7_twelve_30 z n) x0 x2 v8 x4 v5 v9 v6 x12))))))))) := rfl
theorem e_X7_inverse_3 (z : Nat) (n : Nat) (x0 : Int64) (x2 : Int64) (x4 : Int64) : G_X7_inverse_3 z (n + 1) x0 x2 x4 =
(if x2 ≤ x4 then
some (0 : Int64)
else
(if x2 = 0 then none else (if x2 = 0 then none else (if ((x0 * x4) - (x0 * x4) / x2 * x2) = ((1 : Int64) - (1 : Int64) / x2 * x2) then
some x4
else
((some (x4 + (1 : Int64))).bind fun v5 => ((G_X7_inverse_3 z n) x0 x2 v5)))))) := rfl
theorem e_X7_chained_13 (z : Nat) (n : Nat) (x2 : Int64) (x4 : Int32) (x5 : Int32) (x6 : Int64) (x8 : Int64) (x10 : Int32) : G_X7_chained_13 z (n + 1) x2 x4 x5 x6 x8 x10 =
(if x6 = (0 : Int64) then
(if x4 = (-1 : Int32) then
some x10
else
some (-1 : Int32))
else
(if x2 ≤ (1 : Int64) then
(if x4 = (-1 : Int32) then
some x10
else
some (-1 : Int32))
else
(if x5 = 0 then
(if x6 = 0 then none else (G_X7_chained_49 z (G_X7_chained_13 z n) x2 x4 x5 x6 x8 x10 (x8 / x6)))
else
(if x6 = 0 then none else (G_X7_chained_49 z (G_X7_chained_13 z n) x2 x4 x5 x6 x8 x10 (((x8 + x6) - (1 : Int64)) / x6)))))) := rfl
theorem e_X7_floors_17 (z : Nat) (n : Nat) (x8 : Int64) (x10 : Int64) (x12 : Int64) (x14 : Int64) (x16 : Int64) : G_X7_floors_17 z (n + 1) x8 x10 x12 x14 x16 =
(if x16 ≤ (0 : Int64) then
some x8
else
(if x14 = 0 then none else (if (x16 - x16 / (2 : Int64) * (2 : Int64)) = (0 : Int64) then
(G_X7_floors_67 z (G_X7_floors_17 z n) x10 x12 x14 x16 ((x16 / (2 : Int64)) * (x16 - (1 : Int64))) (x10 / x14) x8)
else
(G_X7_floors_67 z (G_X7_floors_17 z n) x10 x12 x14 x16 (((x16 - (1 : Int64)) / (2 : Int64)) * x16) (x10 / x14) x8)))) := rfl
theorem e_X5_divisor_15 (z : Nat) (n : Nat) (x4 : Int64) (x6 : Int64) (x8 : Int32) : G_X5_divisor_15 z (n + 1) x4 x6 x8 =
(if (200 : Int32) ≤ x8 then
some (maxL x4 (1 : Int64))
else
(if x6 = (0 : Int64) then
some (maxL x4 (1 : Int64))
else
(if x6 = 0 then none else ((some (x4 - x4 / x6 * x6)).bind fun v4 => ((some (x8 + (1 : Int32))).bind fun v5 => ((G_X5_divisor_15 z n) x6 v4 v5)))))) := rfl
theorem e_X5_inverse_27 (z : Nat) (n : Nat) (x2 : Int64) (x4 : Int64) (x6 : Int64) (x8 : Int64) (x10 : Int64) (x12 : Int32) : G_X5_inverse_27 z (n + 1) x2 x4 x6 x8 x10 x12 =
(if (200 : Int32) ≤ x12 then
((F_J9_floorMod_f86c9 z x8 x2).bind fun r2 => some r2)
else
(if x6 = (0 : Int64) then
((F_J9_floorMod_f86c9 z x8 x2).bind fun r4 => some r4)
else
(if x6 = 0 then none else ((some (x4 / x6)).bind fun v6 => ((some (x4 - (v6 * x6))).bind fun v7 => ((some (x8 - (v6 * x10))).bind fun v8 => ((some (x12 + (1 : Int32))).bind fun v9 => ((G_X5_inverse_27 z n) x2 x6 v7 x10 v8 v9)))))))) := rfl
theorem e_X5_twelfths_37 (z : Nat) (n : Nat) (x4 : Int64) (x6 : Int64) (x8 : Int64) (x10 : Int64) (x12 : Int64) (x14 : Int64) (x16 : Int64) (x18 : Int32) : G_X5_twelfths_37 z (n + 1) x4 x6 x8 x10 x12 x14 x16 x18 =
(if (200 : Int32) ≤ x18 then
(G_X5_twelfths_113 z x4 x8 x10 x12 x14 x16)
else
(if x6 = (0 : Int64) then
(G_X5_twelfths_113 z x4 x8 x10 x12 x14 x16)
else
(if x6 = 0 then none else ((some (x8 / x6)).bind fun v4 => (if x6 = 0 then none else ((some (x8 - x8 / x6 * x6)).bind fun v6 => ((some (x12 + (x10 * v4))).bind fun v7 => ((some (-x10)).bind fun v8 => ((some ((v4 * x16) + x14)).bind fun v9 => ((some (x18 + (1 : Int32))).bind fun v10 => ((G_X5_twelfths_37 z n) x4 v6 x6 v8 v7 x16 v9 v10))))))))))) := rfl
theorem e_X5_floorSum_20 (z : Nat) (n : Nat) (x8 : Int64) (x10 : Int64) (x12 : Int64) (x14 : Int64) (x16 : Int64) (x18 : Int32) : G_X5_floorSum_20 z (n + 1) x8 x10 x12 x14 x16 x18 =
(if (200 : Int32) ≤ x18 then
some x8
else
(if x14 ≤ (0 : Int64) then
some x8
else
((F_J9_floorDiv_f86c9 z x10 x14).bind fun r3 => ((F_J9_floorDiv_f86c9 z x12 x14).bind fun r4 => ((some (x8 + ((((x16 * (x16 - (1 : Int64))) / (2 : Int64)) * r3) + (x16 * r4)))).bind fun v5 => ((F_J9_floorMod_f86c9 z x10 x14).bind fun r6 => ((F_J9_floorMod_f86c9 z x12 x14).bind fun r7 => ((some ((r6 * x16) + r7)).bind fun v8 => (if x14 ≤ v8 then
(if x14 = 0 then none else ((some (v8 / x14)).bind fun v11 => (if x14 = 0 then none else ((some (v8 - v8 / x14 * x14)).bind fun v13 => ((some (x18 + (1 : Int32))).bind fun v14 => ((G_X5_floorSum_20 z n) v5 x14 v13 r6 v11 v14))))))
else
some v5))))))))) := rfl
theorem e_X6_firstWithGreatestSum_7 (z : Nat) (n : Nat) (x0 : Int32) (x1 : Int32) (x2 : Int64) (x4 : Int32) : G_X6_firstWithGreatestSum_7 z (n + 1) x0 x1 x2 x4 =
(if x0 ≤ x4 then
some x1
else
((F_X5_divisor z (Int32.toInt64 x4) (Int32.toInt64 x0)).bind fun r2 => (if r2 = (1 : Int64) then
((F_X5_twelfths z (Int32.toInt64 x4) (Int32.toInt64 x0)).bind fun r5 => (if x1 = (-1 : Int32) then
((some (x4 + (1 : Int32))).bind fun v7 => ((G_X6_firstWithGreatestSum_7 z n) x0 x4 r5 v7))
else
(if r5 ≤ x2 then
((some (x4 + (1 : Int32))).bind fun v9 => ((G_X6_firstWithGreatestSum_7 z n) x0 x1 x2 v9))
else
((some (x4 + (1 : Int32))).bind fun v10 => ((G_X6_firstWithGreatestSum_7 z n) x0 x4 r5 v10)))))
else
((some (x4 + (1 : Int32))).bind fun v4 => ((G_X6_firstWithGreatestSum_7 z n) x0 x1 x2 v4))))) := rfl
theorem e_X7_above_49 (z : Nat) (n : Nat) (x1 : Int32) (x3 : Int32) (x4 : Int64) (x6 : Int64) (x8 : Int64) (x10 : Int32) (S : MS) : G_X7_above_49 z (n + 1) x1 x3 x4 x6 x8 x10 S =
(if x3 < x10 then
some (x8, S)
else
((F_X7_laysSum z (Int32.toInt64 x1) (Int32.toInt64 x10) S).bind fun S2 => (if ((mg_up S2) * x6) ≤ (x4 * (mg_under S2)) then
((some (x8 + (0 : Int64))).bind fun v4 => ((some (x10 + (1 : Int32))).bind fun v5 => ((G_X7_above_49 z n) x1 x3 x4 x6 v4 v5 S2)))
else
((some (x8 + (1 : Int64))).bind fun v6 => ((some (x10 + (1 : Int32))).bind fun v7 => ((G_X7_above_49 z n) x1 x3 x4 x6 v6 v7 S2)))))) := rfl
theorem e_X7_alike_45 (z : Nat) (n : Nat) (x2 : Int32) (x3 : Int32) (x4 : Int64) (x6 : Int64) (x8 : Int32) (x9 : Int32) (S : MS) : G_X7_alike_45 z (n + 1) x2 x3 x4 x6 x8 x9 S =
(if x2 ≤ x9 then
(if x3 = (-1 : Int32) then
some (x8, S)
else
some ((-1 : Int32), S))
else
((F_X7_common z (Int32.toInt64 x9) (Int32.toInt64 x2)).bind fun r3 => (if r3 = (1 : Int64) then
((F_X7_laysSum z (Int32.toInt64 x9) (Int32.toInt64 x2) S).bind fun S5 => (bd2 (F_X7_isLike z x4 x6 S5) fun r6 S7 => (if r6 = 0 then
((some (x9 + (1 : Int32))).bind fun v12 => ((G_X7_alike_45 z n) x2 x3 x4 x6 x8 v12 S7))
else
(if x8 = x3 then
some (x9, S7)
else
((some (x8 + (1 : Int32))).bind fun v10 => ((some (x9 + (1 : Int32))).bind fun v11 => ((G_X7_alike_45 z n) x2 x3 x4 x6 v10 v11 S7)))))))
else
((some (x9 + (1 : Int32))).bind fun v13 => ((G_X7_alike_45 z n) x2 x3 x4 x6 x8 v13 S))))) := rfl
theorem e_X7_sorts_127 (z : Nat) (k40 : Int32 → Int32 → Int32 → Int32 → Int64 → Int32 → MS → Option (Int32 × MS)) (n : Nat) (x1 : Int32) (x2 : Int32) (x3 : Int32) (x4 : Int32) (x5 : Int64) (x7 : Int32) (x8 : Int64) (x11 : Int32) (x12 : Int32) (S : MS) : G_X7_sorts_127 z k40 (n + 1) x1 x2 x3 x4 x5 x7 x8 x11 x12 S =
(if x3 ≤ x12 then
(if x11 = 0 then
(if ib x3 1000 = true then ((some (ms_row S (vp_updL (mg_row S) (Int32.toNatClampNeg x3) x8))).bind fun S4 => ((some (x3 + (1 : Int32))).bind fun v5 => ((some (x7 + (1 : Int32))).bind fun v6 => (k40 x1 x2 v5 x4 x5 v6 S4)))) else none)
else
((some (x7 + (1 : Int32))).bind fun v7 => (k40 x1 x2 x3 x4 x5 v7 S)))
else
(if x11 = 0 then
(if ib x12 1000 = true then (if (mg_row S (Int32.toNatClampNeg x12)) = x8 then
((some (x12 + (1 : Int32))).bind fun v13 => ((G_X7_sorts_127 z k40 n) x1 x2 x3 x4 x5 x7 x8 (1 : Int32) v13 S))
else
((some (x12 + (1 : Int32))).bind fun v12 => ((G_X7_sorts_127 z k40 n) x1 x2 x3 x4 x5 x7 x8 (0 : Int32) v12 S))) else none)
else
((some (x12 + (1 : Int32))).bind fun v9 => ((G_X7_sorts_127 z k40 n) x1 x2 x3 x4 x5 x7 x8 (1 : Int32) v9 S)))) := rfl
theorem e_X7_sorts_40 (z : Nat) (n : Nat) (x1 : Int32) (x2 : Int32) (x3 : Int32) (x4 : Int32) (x5 : Int64) (x7 : Int32) (S : MS) : G_X7_sorts_40 z (n + 1) x1 x2 x3 x4 x5 x7 S =
(if x1 ≤ x7 then
(if x2 = 0 then
some (x3, S)
else
some (x4, S))
else
((F_X7_common z (Int32.toInt64 x7) (Int32.toInt64 x1)).bind fun r3 => (if r3 = (1 : Int64) then
((F_X7_twelve z (Int32.toInt64 x7) (Int32.toInt64 x1)).bind fun r5 => (if x4 = (-1 : Int32) then
(G_X7_sorts_86 z (G_X7_sorts_40 z n) x1 x2 x3 x4 x5 x7 r5 S)
else
(if r5 ≤ x5 then
(if (0 : Int32) = 0 then
(G_X7_sorts_105 z (G_X7_sorts_40 z n) x1 x2 x3 x5 x7 r5 (0 : Int32) x4 S)
else
(G_X7_sorts_105 z (G_X7_sorts_40 z n) x1 x2 x3 x5 x7 r5 (0 : Int32) x7 S))
else
(G_X7_sorts_86 z (G_X7_sorts_40 z n) x1 x2 x3 x4 x5 x7 r5 S))))
else
((some (x7 + (1 : Int32))).bind fun v9 => ((G_X7_sorts_40 z n) x1 x2 x3 x4 x5 v9 S))))) := rfl
theorem e_X7_steps_68 (z : Nat) (n : Nat) (x1 : Int32) (x2 : Int32) (x3 : Int32) (x4 : Int32) (x5 : Int64) (x7 : Int32) (S : MS) : G_X7_steps_68 z (n + 1) x1 x2 x3 x4 x5 x7 S =
(if x4 ≤ x7 then
some (x5, S)
else
((F_X7_down z (((Int32.toInt64 x1) * (Int32.toInt64 x7)) + (Int32.toInt64 x2)) (Int32.toInt64 x3)).bind fun r2 => ((some (x5 + r2)).bind fun v3 => ((some (x7 + (1 : Int32))).bind fun v4 => ((G_X7_steps_68 z n) x1 x2 x3 x4 v3 v4 S))))) := rfl
theorem e_X7_pyramid_73 (z : Nat) (k51 : Int32 → Int32 → Int32 → Int64 → Int32 → MS → Option (Int64 × MS)) (n : Nat) (x1 : Int32) (x2 : Int32) (x3 : Int32) (x4 : Int64) (x6 : Int32) (x7 : Int64) (x9 : Int32) (S : MS) : G_X7_pyramid_73 z k51 (n + 1) x1 x2 x3 x4 x6 x7 x9 S =
(if x7 < (((Int32.toInt64 x9) * (Int32.toInt64 x2)) * (Int32.toInt64 x3)) then
((some (x6 + (1 : Int32))).bind fun v2 => (k51 x1 x2 x3 x4 v2 S))
else
(if ((Int32.toInt64 x1) * (Int32.toInt64 x3)) = 0 then none else ((some (x4 + (((x7 - (((Int32.toInt64 x9) * (Int32.toInt64 x2)) * (Int32.toInt64 x3))) / ((Int32.toInt64 x1) * (Int32.toInt64 x3))) + (1 : Int64)))).bind fun v4 => ((some (x9 + (1 : Int32))).bind fun v5 => ((G_X7_pyramid_73 z k51 n) x1 x2 x3 v4 x6 x7 v5 S))))) := rfl
theorem e_X7_pyramid_51 (z : Nat) (n : Nat) (x1 : Int32) (x2 : Int32) (x3 : Int32) (x4 : Int64) (x6 : Int32) (S : MS) : G_X7_pyramid_51 z (n + 1) x1 x2 x3 x4 x6 S =
(if x3 < x6 then
some (x4, S)
else
((some (((Int32.toInt64 (x3 - x6)) * (Int32.toInt64 x1)) * (Int32.toInt64 x2))).bind fun v2 => (G_X7_pyramid_73 z (G_X7_pyramid_51 z n) z x1 x2 x3 x4 x6 v2 (0 : Int32) S))) := rfl
theorem e_X7_word_40 (z : Nat) (n : Nat) (x1 : Int32) (x2 : Int64) (x4 : Int64) (x6 : Int64) (x8 : Int64) (x10 : Int32) (S : MS) : G_X7_word_40 z (n + 1) x1 x2 x4 x6 x8 x10 S =
(if x6 = (0 : Int64) then
(if x1 = x10 then
some (x4 * x8, S)
else
(if x1 = (-1 : Int32) then
some ((Int32.toInt64 x10) + (1 : Int64), S)
else
some ((-4000000000000000000 : Int64), S)))
else
((F_X7_down z (((2 : Int64) * x2) + x6) ((2 : Int64) * x6)).bind fun r4 => (if x1 = x10 then
some (r4, S)
else
((some (x10 + (1 : Int32))).bind fun v6 => ((some (x2 - (r4 * x6))).bind fun v7 => ((some (x4 - (r4 * x8))).bind fun v8 => ((some (-v7)).bind fun v9 => ((some (-v8)).bind fun v10 => ((G_X7_word_40 z n) x1 x6 x8 v9 v10 v6 S))))))))) := rfl
theorem e_X7_laysRings_4 (z : Nat) (n : Nat) (x1 : Int32) (x2 : Int32) (x3 : Int32) (S : MS) : G_X7_laysRings_4 z (n + 1) x1 x2 x3 S =
(if x1 ≤ x3 then
some (x2, S)
else
((F_X7_common z (Int32.toInt64 x1) (Int32.toInt64 x3)).bind fun r2 => (if r2 = (1 : Int64) then
((F_X7_ringOf z x1 x3).bind fun r5 => (if r5 = x3 then
(if ib x2 1000 = true then ((some (ms_row S (vp_updL (mg_row S) (Int32.toNatClampNeg x2) (Int32.toInt64 x3)))).bind fun S8 => ((some (x2 + (1 : Int32))).bind fun v9 => ((some (x3 + (1 : Int32))).bind fun v10 => ((G_X7_laysRings_4 z n) x1 v9 v10 S8)))) else none)
else
((some (x3 + (1 : Int32))).bind fun v11 => ((G_X7_laysRings_4 z n) x1 x2 v11 S))))
else
((some (x3 + (1 : Int32))).bind fun v4 => ((G_X7_laysRings_4 z n) x1 x2 v4 S))))) := rfl
theorem e_X7_twins_62 (z : Nat) (k33 : Int32 → Int32 → Int32 → Int32 → Int32 → MS → Option (Int32 × MS)) (n : Nat) (x1 : Int32) (x2 : Int32) (x3 : Int32) (x4 : Int32) (x5 : Int32) (x6 : Int64) (x8 : Int32) (S : MS) : G_X7_twins_62 z k33 (n + 1) x1 x2 x3 x4 x5 x6 x8 S =
(if x3 ≤ x8 then
((some (x5 + (1 : Int32))).bind fun v2 => (k33 x1 x2 x3 x4 v2 S))
else
(if ib x8 1000 = true then ((F_X7_twelve z (mg_row S (Int32.toNatClampNeg x8)) (Int32.toInt64 x1)).bind fun r4 => ((F_X7_size z r4).bind fun r5 => (if r5 = x6 then
(if x4 = x2 then
(if ib x5 1000 = true then (if ib x8 1000 = true then some (Int64.toInt32 (((1000 : Int64) * (mg_row S (Int32.toNatClampNeg x5))) + (mg_row S (Int32.toNatClampNeg x8))), S) else none) else none)
else
((some (x4 + (1 : Int32))).bind fun v8 => ((some (x8 + (1 : Int32))).bind fun v9 => ((G_X7_twins_62 z k33 n) x1 x2 x3 v8 x5 x6 v9 S))))
else
((some (x8 + (1 : Int32))).bind fun v12 => ((G_X7_twins_62 z k33 n) x1 x2 x3 x4 x5 x6 v12 S))))) else none)) := rfl
theorem e_X7_twins_33 (z : Nat) (n : Nat) (x1 : Int32) (x2 : Int32) (x3 : Int32) (x4 : Int32) (x5 : Int32) (S : MS) : G_X7_twins_33 z (n + 1) x1 x2 x3 x4 x5 S =
(if x3 ≤ x5 then
(if x2 = (-1 : Int32) then
some (x4, S)
else
some ((-1 : Int32), S))
else
(if ib x5 1000 = true then ((F_X7_twelve z (mg_row S (Int32.toNatClampNeg x5)) (Int32.toInt64 x1)).bind fun r4 => ((F_X7_size z r4).bind fun r5 => ((some (x5 + (1 : Int32))).bind fun v6 => (G_X7_twins_62 z (G_X7_twins_33 z n) z x1 x2 x3 x4 x5 r5 v6 S)))) else none)) := rfl
theorem e_X7_put_3 (z : Nat) (n : Nat) (x1 : Int32) (x2 : Int32) (S : MS) : G_X7_put_3 z (n + 1) x1 x2 S =
(if x2 < 0 then
some S
else
(if ib (mg_taped S) 300 = true then ((some (ms_tape S (upd (mg_tape S) (Int32.toNatClampNeg (mg_taped S)) (vp_nar .byte ((Int32.toInt8 (x1 >>> (x2 &&& 31))).toInt32))))).bind fun S3 => ((some ((mg_taped S3) + (1 : Int32))).bind fun v4 => ((some (ms_taped S3 v4)).bind fun S5 => ((some (x2 + (-8 : Int32))).bind fun v6 => ((G_X7_put_3 z n) x1 v6 S5))))) else none)) := rfl
theorem e_X7_here_0 (z : Nat) (n : Nat) (S : MS) : G_X7_here_0 z (n + 1) S =
(if (mg_length S) ≤ (mg_at S) then
(G_X7_here_52 z S)
else
(if ib (mg_at S) 300 = true then (if (mg_tape S (Int32.toNatClampNeg (mg_at S))) = (32 : Int32) then
((some ((mg_at S) + (1 : Int32))).bind fun v4 => ((some (ms_at S v4)).bind fun S5 => ((G_X7_here_0 z n) S5)))
else
(if ib (mg_at S) 300 = true then (if (mg_tape S (Int32.toNatClampNeg (mg_at S))) = (10 : Int32) then
((some ((mg_at S) + (1 : Int32))).bind fun v8 => ((some (ms_at S v8)).bind fun S9 => ((G_X7_here_0 z n) S9)))
else
(G_X7_here_52 z S)) else none)) else none)) := rfl
theorem e_X7_number_24 (z : Nat) (n : Nat) (x1 : Int64) (S : MS) : G_X7_number_24 z (n + 1) x1 S =
(if (mg_length S) ≤ (mg_at S) then
(G_X7_number_109 z x1 S)
else
(if ib (mg_at S) 300 = true then ((F_X7_isIn z (Int32.toInt64 (mg_tape S (Int32.toNatClampNeg (mg_at S)))) (48 : Int64) (57 : Int64)).bind fun r3 => (if r3 = 0 then
(G_X7_number_109 z x1 S)
else
(if (9 : Int32) ≤ ((mg_at S) - (mg_from S)) then
((some ((mg_at S) + (1 : Int32))).bind fun v6 => ((some (ms_at S v6)).bind fun S7 => ((G_X7_number_24 z n) x1 S7)))
else
(if ib (mg_at S) 300 = true then ((some ((((10 : Int64) * x1) + (Int32.toInt64 (mg_tape S (Int32.toNatClampNeg (mg_at S))))) - (48 : Int64))).bind fun v9 => ((some ((mg_at S) + (1 : Int32))).bind fun v10 => ((some (ms_at S v10)).bind fun S11 => ((G_X7_number_24 z n) v9 S11)))) else none)))) else none)) := rfl
theorem e_X7_laysWord_7 (z : Nat) (fs : MS → Option MS) (n : Nat) (x1 : Int32) (x2 : Int32) (S : MS) : G_X7_laysWord_7 z fs (n + 1) x1 x2 S =
(if (mg_length S) ≤ (mg_at S) then
(G_X7_laysWord_85 z fs x1 x2 S)
else
(if ib (mg_at S) 300 = true then ((F_X7_isIn z (Int32.toInt64 (mg_tape S (Int32.toNatClampNeg (mg_at S)))) (97 : Int64) (122 : Int64)).bind fun r3 => (if r3 = 0 then
(G_X7_laysWord_85 z fs x1 x2 S)
else
(if (4 : Int32) ≤ ((mg_at S) - x1) then
((some ((mg_at S) + (1 : Int32))).bind fun v6 => ((some (ms_at S v6)).bind fun S7 => ((G_X7_laysWord_7 z fs n) x1 (0 : Int32) S7)))
else
(if ib (mg_at S) 300 = true then ((some ((((32 : Int32) * x2) + (mg_tape S (Int32.toNatClampNeg (mg_at S)))) - (96 : Int32))).bind fun v9 => ((some ((mg_at S) + (1 : Int32))).bind fun v10 => ((some (ms_at S v10)).bind fun S11 => ((G_X7_laysWord_7 z fs n) x1 v9 S11)))) else none)))) else none)) := rfl
theorem e_X7_term_4 (z : Nat) (fs : MS → Option MS) (n : Nat) (S : MS) : G_X7_term_4 z fs (n + 1) S =
(if (mg_fault S) = 0 then
(bd2 (F_X7_here z S) fun r2 S3 => (if r2 = (42 : Int32) then
((some (mg_at S3)).bind fun v5 => ((some ((mg_at S3) + (1 : Int32))).bind fun v6 => ((some (ms_at S3 v6)).bind fun S7 => ((F_X7_factor z fs S7).bind fun S8 => ((F_X7_joins z (42 : Int32) v5 S8).bind fun S9 => ((G_X7_term_4 z fs n) S9))))))
else
some S3))
else
some S) := rfl
theorem e_X7_sum__4 (z : Nat) (fs : MS → Option MS) (n : Nat) (S : MS) : G_X7_sum__4 z fs (n + 1) S =
(if (mg_fault S) = 0 then
(bd2 (F_X7_here z S) fun r2 S3 => (if r2 = (43 : Int32) then
(G_X7_sum__29 z fs (G_X7_sum__4 z fs n) S3)
else
(bd2 (F_X7_here z S3) fun r5 S6 => (if r5 = (45 : Int32) then
(G_X7_sum__29 z fs (G_X7_sum__4 z fs n) S6)
else
some S6))))
else
some S) := rfl
theorem e_X5_sink_23 (z : Nat) (n : Nat) (x2 : Int32) (x3 : Int64) (x5 : Int32) (S : CS) : G_X5_sink_23 z (n + 1) x2 x3 x5 S =
(if x5 < x2 then
(if ib x5 500 = true then ((some (cs_values S (vp_updL (cg_values S) (Int32.toNatClampNeg x5) x3))).bind fun S3 => some S3) else none)
else
(if ib (x5 - x2) 500 = true then (if (cg_values S (Int32.toNatClampNeg (x5 - x2))) ≤ x3 then
(if ib x5 500 = true then ((some (cs_values S (vp_updL (cg_values S) (Int32.toNatClampNeg x5) x3))).bind fun S7 => some S7) else none)
else
(if ib (x5 - x2) 500 = true then (if ib x5 500 = true then ((some (cs_values S (vp_updL (cg_values S) (Int32.toNatClampNeg x5) (cg_values S (Int32.toNatClampNeg (x5 - x2)))))).bind fun S10 => ((some (x5 - x2)).bind fun v11 => ((G_X5_sink_23 z n) x2 x3 v11 S10))) else none) else none)) else none)) := rfl
theorem e_X5_unlike_23 (z : Nat) (k17 : Int32 → Int32 → CS → Option (Int32 × CS)) (n : Nat) (x1 : Int32) (x2 : Int32) (x3 : Int32) (S : CS) : G_X5_unlike_23 z k17 (n + 1) x1 x2 x3 S =
(if x1 ≤ x3 then
((some (x2 / (2 : Int32))).bind fun v2 => (k17 x1 v2 S))
else
((F_X5_sink z x3 x2 S).bind fun S3 => ((some (x3 + (1 : Int32))).bind fun v4 => ((G_X5_unlike_23 z k17 n) x1 x2 v4 S3)))) := rfl
theorem e_X5_unlike_51 (z : Nat) (n : Nat) (x1 : Int32) (x2 : Int32) (x3 : Int32) (S : CS) : G_X5_unlike_51 z (n + 1) x1 x2 x3 S =
(if x1 ≤ x3 then
some (x2, S)
else
(if ib x3 500 = true then (if ib (x3 - (1 : Int32)) 500 = true then (if (cg_values S (Int32.toNatClampNeg x3)) = (cg_values S (Int32.toNatClampNeg (x3 - (1 : Int32)))) then
((some (x3 + (1 : Int32))).bind fun v5 => ((G_X5_unlike_51 z n) x1 x2 v5 S))
else
((some (x2 + (1 : Int32))).bind fun v6 => ((some (x3 + (1 : Int32))).bind fun v7 => ((G_X5_unlike_51 z n) x1 v6 v7 S)))) else none) else none)) := rfl
theorem e_X5_unlike_17 (z : Nat) (n : Nat) (x1 : Int32) (x2 : Int32) (S : CS) : G_X5_unlike_17 z (n + 1) x1 x2 S =
(if x2 ≤ 0 then
(G_X5_unlike_51 z z x1 (1 : Int32) (1 : Int32) S)
else
(G_X5_unlike_23 z (G_X5_unlike_17 z n) z x1 x2 x2 S)) := rfl
theorem e_X2_partOfWord_30 (z : Nat) (n : Nat) (x1 : Int32) (x2 : Int64) (x4 : Int64) (x6 : Int64) (x8 : Int64) (x10 : Int32) (S : CS) : G_X2_partOfWord_30 z (n + 1) x1 x2 x4 x6 x8 x10 S =
(if (200 : Int32) ≤ x10 then
(G_X2_partOfWord_113 z x1 x4 x8 x10 S)
else
(if x6 = (0 : Int64) then
(G_X2_partOfWord_113 z x1 x4 x8 x10 S)
else
((F_J9_floorDiv_f86c9 z (((2 : Int64) * x2) + x6) ((2 : Int64) * x6)).bind fun r3 => (if x10 = x1 then
some (r3, S)
else
((some ((r3 * x6) - x2)).bind fun v5 => ((some ((r3 * x8) - x4)).bind fun v6 => ((some (x10 + (1 : Int32))).bind fun v7 => ((G_X2_partOfWord_30 z n) x1 x6 x8 v5 v6 v7 S)))))))) := rfl
theorem e_X0_gather_7 (z : Nat) (n : Nat) (x1 : Int32) (x2 : Int32) (S : CS) : G_X0_gather_7 z (n + 1) x1 x2 S =
(if (x1 / (2 : Int32)) < x2 then
some S
else
(if (500 : Int32) ≤ (cg_cmany S) then
((some (x2 + (1 : Int32))).bind fun v3 => ((G_X0_gather_7 z n) x1 v3 S))
else
(if (500 : Int32) ≤ (cg_cmany S) then
((some (x2 + (1 : Int32))).bind fun v5 => ((G_X0_gather_7 z n) x1 v5 S))
else
((F_X0_isRing z x1 x2).bind fun r6 => (if r6 = 0 then
((some (x2 + (1 : Int32))).bind fun v8 => ((G_X0_gather_7 z n) x1 v8 S))
else
((F_X0_leastOf z x1 x2).bind fun r9 => (if r9 = x2 then
(if ib (cg_cmany S) 500 = true then ((some (cs_numbers S (upd (cg_numbers S) (Int32.toNatClampNeg (cg_cmany S)) x2))).bind fun S13 => ((F_X5_twelfths z (Int32.toInt64 x2) (Int32.toInt64 x1)).bind fun r14 => (if ib (cg_cmany S13) 500 = true then ((some (cs_sizes S13 (vp_updL (cg_sizes S13) (Int32.toNatClampNeg (cg_cmany S13)) (absL r14)))).bind fun S16 => ((some ((cg_cmany S16) + (1 : Int32))).bind fun v17 => ((some (cs_cmany S16 v17)).bind fun S18 => ((some (x2 + (1 : Int32))).bind fun v19 => ((G_X0_gather_7 z n) x1 v19 S18))))) else none))) else none)
else
((some (x2 + (1 : Int32))).bind fun v11 => ((G_X0_gather_7 z n) x1 v11 S))))))))) := rfl
theorem e_X0_twinsAt_38 (z : Nat) (k26 : Int32 → Int32 → Int32 → Int32 → CS → Option (Int32 × CS)) (n : Nat) (x1 : Int32) (x2 : Int32) (x3 : Int32) (x4 : Int32) (x5 : Int32) (S : CS) : G_X0_twinsAt_38 z k26 (n + 1) x1 x2 x3 x4 x5 S =
(if x3 ≤ x5 then
((some (x4 + (1 : Int32))).bind fun v2 => (k26 x1 x2 x3 v2 S))
else
(if ib x4 500 = true then (if ib x5 500 = true then (if (cg_sizes S (Int32.toNatClampNeg x4)) = (cg_sizes S (Int32.toNatClampNeg x5)) then
(if x2 = x1 then
(if ib x4 500 = true then (if ib x5 500 = true then some (((1000 : Int32) * (cg_numbers S (Int32.toNatClampNeg x4))) + (cg_numbers S (Int32.toNatClampNeg x5)), S) else none) else none)
else
((some (x2 + (1 : Int32))).bind fun v8 => ((some (x5 + (1 : Int32))).bind fun v9 => ((G_X0_twinsAt_38 z k26 n) x1 v8 x3 x4 v9 S))))
else
((some (x5 + (1 : Int32))).bind fun v6 => ((G_X0_twinsAt_38 z k26 n) x1 x2 x3 x4 v6 S))) else none) else none)) := rfl
theorem e_X0_twinsAt_26 (z : Nat) (n : Nat) (x1 : Int32) (x2 : Int32) (x3 : Int32) (x4 : Int32) (S : CS) : G_X0_twinsAt_26 z (n + 1) x1 x2 x3 x4 S =
(if x3 ≤ x4 then
(if x1 = (-1 : Int32) then
some (x2, S)
else
some ((-1 : Int32), S))
else
((some (x4 + (1 : Int32))).bind fun v3 => (G_X0_twinsAt_38 z (G_X0_twinsAt_26 z n) z x1 x2 x3 x4 v3 S))) := rfl
theorem e_X6_above_43 (z : Nat) (n : Nat) (x1 : Int32) (x2 : Int32) (x3 : Int32) (x4 : Int64) (x6 : Int64) (x8 : Int32) (S : CS) : G_X6_above_43 z (n + 1) x1 x2 x3 x4 x6 x8 S =
(if x3 < x8 then
some (x6, S)
else
((F_X5_twelfths z (Int32.toInt64 x1) (Int32.toInt64 x8)).bind fun r2 => (if (r2 * (Int32.toInt64 x2)) ≤ (x4 * (Int32.toInt64 x8)) then
((some (x8 + (1 : Int32))).bind fun v4 => ((G_X6_above_43 z n) x1 x2 x3 x4 x6 v4 S))
else
((some (x6 + (1 : Int64))).bind fun v5 => ((some (x8 + (1 : Int32))).bind fun v6 => ((G_X6_above_43 z n) x1 x2 x3 x4 v5 v6 S)))))) := rfl
theorem e_X6_chain_39 (z : Nat) (n : Nat) (x3 : Int32) (x4 : Int32) (x5 : Int32) (x6 : Int32) (S : CS) : G_X6_chain_39 z (n + 1) x3 x4 x5 x6 S =
(if (200 : Int32) ≤ x6 then
(if x3 = (-1 : Int32) then
some (x6, S)
else
some ((-1 : Int32), S))
else
(if x4 = 0 then
(if x3 = (-1 : Int32) then
some (x6, S)
else
some ((-1 : Int32), S))
else
(if x6 = x3 then
(if x4 = 0 then none else some (x5 / x4, S))
else
(if x4 = 0 then none else ((some (x5 - x5 / x4 * x4)).bind fun v7 => ((some (x6 + (1 : Int32))).bind fun v8 => ((G_X6_chain_39 z n) x3 v7 x4 v8 S))))))) := rfl
theorem e_X6_minus_39 (z : Nat) (n : Nat) (x3 : Int32) (x4 : Int32) (x5 : Int32) (x6 : Int32) (S : CS) : G_X6_minus_39 z (n + 1) x3 x4 x5 x6 S =
(if (10000 : Int32) ≤ x6 then
(if x3 = (-1 : Int32) then
some (x6, S)
else
some ((-1 : Int32), S))
else
(if x4 = 0 then
(if x3 = (-1 : Int32) then
some (x6, S)
else
some ((-1 : Int32), S))
else
(if x4 = 0 then none else ((some (((x5 + x4) - (1 : Int32)) / x4)).bind fun v6 => (if x6 = x3 then
some (v6, S)
else
((some ((v6 * x4) - x5)).bind fun v8 => ((some (x6 + (1 : Int32))).bind fun v9 => ((G_X6_minus_39 z n) x3 v8 x4 v9 S)))))))) := rfl
theorem e_X6_alike_29 (z : Nat) (n : Nat) (x2 : Int32) (x3 : Int32) (x4 : Int64) (x6 : Int32) (x7 : Int32) (S : CS) : G_X6_alike_29 z (n + 1) x2 x3 x4 x6 x7 S =
(if x2 ≤ x7 then
(if x3 = (-1 : Int32) then
some (x6, S)
else
some ((-1 : Int32), S))
else
((F_X5_divisor z (Int32.toInt64 x7) (Int32.toInt64 x2)).bind fun r3 => (if r3 = (1 : Int64) then
((F_X5_twelfths z (Int32.toInt64 x7) (Int32.toInt64 x2)).bind fun r6 => (if r6 = x4 then
(if x6 = x3 then
some (x7, S)
else
((some (x6 + (1 : Int32))).bind fun v10 => ((some (x7 + (1 : Int32))).bind fun v11 => ((G_X6_alike_29 z n) x2 x3 x4 v10 v11 S))))
else
((some (x7 + (1 : Int32))).bind fun v8 => ((G_X6_alike_29 z n) x2 x3 x4 x6 v8 S))))
else
((some (x7 + (1 : Int32))).bind fun v5 => ((G_X6_alike_29 z n) x2 x3 x4 x6 v5 S))))) := rfl
theorem e_X6_unlikeSums_4 (z : Nat) (n : Nat) (x1 : Int32) (x2 : Int32) (x3 : Int32) (S : CS) : G_X6_unlikeSums_4 z (n + 1) x1 x2 x3 S =
(if x1 ≤ x3 then
(bd2 (F_X5_unlike z x2 S) fun r2 S3 => some (r2, S3))
else
(if (500 : Int32) ≤ x2 then
((some (x3 + (1 : Int32))).bind fun v5 => ((G_X6_unlikeSums_4 z n) x1 x2 v5 S))
else
((F_X5_divisor z (Int32.toInt64 x3) (Int32.toInt64 x1)).bind fun r6 => (if r6 = (1 : Int64) then
((F_X5_twelfths z (Int32.toInt64 x3) (Int32.toInt64 x1)).bind fun r9 => (if ib x2 500 = true then ((some (cs_values S (vp_updL (cg_values S) (Int32.toNatClampNeg x2) r9))).bind fun S11 => ((some (x2 + (1 : Int32))).bind fun v12 => ((some (x3 + (1 : Int32))).bind fun v13 => ((G_X6_unlikeSums_4 z n) x1 v12 v13 S11)))) else none))
else
((some (x3 + (1 : Int32))).bind fun v8 => ((G_X6_unlikeSums_4 z n) x1 x2 v8 S)))))) := rfl
theorem e_X6_pyramid_46 (z : Nat) (n : Nat) (x1 : Int32) (x2 : Int32) (x3 : Int32) (x4 : Int64) (x6 : Int32) (S : CS) : G_X6_pyramid_46 z (n + 1) x1 x2 x3 x4 x6 S =
(if x1 < x6 then
some (x4, S)
else
((F_X5_pointsBelow z ((Int32.toInt64 x1) * (Int32.toInt64 x3)) ((Int32.toInt64 x1) * (Int32.toInt64 x2)) (((Int32.toInt64 x6) * (Int32.toInt64 x2)) * (Int32.toInt64 x3))).bind fun r2 => ((some (x4 + r2)).bind fun v3 => ((some (x6 + (1 : Int32))).bind fun v4 => ((G_X6_pyramid_46 z n) x1 x2 x3 v3 v4 S))))) := rfl
theorem e_X6_feedOne_3 (z : Nat) (n : Nat) (x1 : Int32) (x2 : Int32) (S : CS) : G_X6_feedOne_3 z (n + 1) x1 x2 S =
(if x2 < 0 then
some S
else
(if (cg_tapeLength S) < 0 then
((some (x2 + (-8 : Int32))).bind fun v3 => ((G_X6_feedOne_3 z n) x1 v3 S))
else
(if (300 : Int32) ≤ (cg_tapeLength S) then
((some (x2 + (-8 : Int32))).bind fun v5 => ((G_X6_feedOne_3 z n) x1 v5 S))
else
(if ib (cg_tapeLength S) 300 = true then ((some (cs_tape S (upd (cg_tape S) (Int32.toNatClampNeg (cg_tapeLength S)) (vp_nar .byte ((Int32.toInt8 ((Int32.toUInt32 x1 >>> (Int32.toUInt32 x2 &&& Int32.toUInt32 31)).toInt32)).toInt32))))).bind fun S7 => ((some ((cg_tapeLength S7) + (1 : Int32))).bind fun v8 => ((some (cs_tapeLength S7 v8)).bind fun S9 => ((some (x2 + (-8 : Int32))).bind fun v10 => ((G_X6_feedOne_3 z n) x1 v10 S9))))) else none)))) := rfl
theorem e_X4_pastRun_5 (z : Nat) (n : Nat) (x2 : Int32) (x3 : Int32) (x4 : Int32) (S : CS) : G_X4_pastRun_5 z (n + 1) x2 x3 x4 S =
(if (300 : Int32) ≤ x4 then
some (x3, S)
else
(bd2 (F_X4_sortAt z x3 S) fun r2 S3 => (if r2 = x2 then
((some (x3 + (1 : Int32))).bind fun v5 => ((some (x4 + (1 : Int32))).bind fun v6 => ((G_X4_pastRun_5 z n) x2 v5 v6 S3)))
else
some (x3, S3)))) := rfl
theorem e_X4_readDigits_4 (z : Nat) (n : Nat) (x1 : Int32) (x2 : Int32) (x3 : Int32) (S : CS) : G_X4_readDigits_4 z (n + 1) x1 x2 x3 S =
(if (9 : Int32) ≤ x3 then
some (x2, S)
else
(bd2 (F_X4_sortAt z (x1 + x3) S) fun r2 S3 => (if r2 = (3 : Int32) then
(bd2 (F_X4_byteAt z (x1 + x3) S3) fun r5 S6 => ((some ((((10 : Int32) * x2) + r5) - (48 : Int32))).bind fun v7 => ((some (x3 + (1 : Int32))).bind fun v8 => ((G_X4_readDigits_4 z n) x1 v7 v8 S6))))
else
some (x2, S3)))) := rfl
theorem e_X4_isWord_20 (z : Nat) (w : Nat) (n : Nat) (x2 : Int32) (x4 : Int32) (x5 : Int32) (S : CS) : G_X4_isWord_20 z w (n + 1) x2 x4 x5 S =
(if x4 = 0 then
(if nb x4 = true then some (x4, S) else none)
else
(if (nI (lenS.getD w 0)) ≤ x5 then
(if nb x4 = true then some (x4, S) else none)
else
(bd2 (F_X4_byteAt z (x2 + x5) S) fun r5 S6 => (if ib x5 (lenS.getD w 0) = true then (if r5 = (chS w x5) then
((some (x5 + (1 : Int32))).bind fun v10 => ((G_X4_isWord_20 z w n) x2 (1 : Int32) v10 S6))
else
((some (x5 + (1 : Int32))).bind fun v9 => ((G_X4_isWord_20 z w n) x2 (0 : Int32) v9 S6))) else none)))) := rfl
theorem e_X4_cut_27 (z : Nat) (n : Nat) (x2 : Int32) (x3 : Int32) (S : CS) : G_X4_cut_27 z (n + 1) x2 x3 S =
(if (300 : Int32) ≤ x3 then
((F_X4_put z (-1 : Int32) (cg_tlength S) S).bind fun S2 => some S2)
else
(if (cg_tlength S) ≤ x2 then
((F_X4_put z (-1 : Int32) (cg_tlength S) S).bind fun S4 => some S4)
else
(bd2 (F_X4_sortAt z x2 S) fun r5 S6 => (if r5 = 0 then
(G_X4_cut_67 z (G_X4_cut_27 z n) x2 x3 r5 (x2 + (1 : Int32)) S6)
else
(bd2 (F_X4_pastRun z x2 r5 S6) fun r8 S9 => (G_X4_cut_67 z (G_X4_cut_27 z n) x2 x3 r5 r8 S9)))))) := rfl
theorem e_X3_readTerm_8 (z : Nat) (fs : (Nat → Int32 → CS → Option ((Int64 × Int64) × CS × Nat))) (nq : Nat) (n : Nat) (x1 : Int32) (y2 : (Int64 × Int64)) (x3 : Int32) (S : CS) : G_X3_readTerm_8 z fs (nq + 1) n x1 y2 x3 S =
(if (300 : Int32) ≤ x3 then
some (y2, S, n)
else
(if (cg_token S) = (42 : Int32) then
((some (cg_at S)).bind fun v3 => ((F_X3_advance z S).bind fun S4 => (bd3 (F_X3_readFactor z fs n x1 S4) fun u5 S6 n7 => (if n7 + 1 ≤ 620 then ((F_X1_product z y2 u5).bind fun u11 => ((some (n7 + 1)).bind fun n14 => (bd2 (F_X3_bounded z u11 v3 S6) fun u15 S16 => ((some (x3 + (1 : Int32))).bind fun v19 => ((G_X3_readTerm_8 z fs nq) n14 x1 u15 v19 S16))))) else none))))
else
some (y2, S, n))) := rfl
theorem e_X3_readSum_8 (z : Nat) (fs : (Nat → Int32 → CS → Option ((Int64 × Int64) × CS × Nat))) (nq : Nat) (n : Nat) (x1 : Int32) (y2 : (Int64 × Int64)) (x3 : Int32) (S : CS) : G_X3_readSum_8 z fs (nq + 1) n x1 y2 x3 S =
(if (300 : Int32) ≤ x3 then
some (y2, S, n)
else
(if (cg_token S) = (43 : Int32) then
(G_X3_readSum_33 z fs (G_X3_readSum_8 z fs nq) n x1 y2 x3 S)
else
(if (cg_token S) = (45 : Int32) then
(G_X3_readSum_33 z fs (G_X3_readSum_8 z fs nq) n x1 y2 x3 S)
else
some (y2, S, n)))) := rfl
