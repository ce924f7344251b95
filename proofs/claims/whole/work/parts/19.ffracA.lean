def F_X1_init (z : Nat) (a0 a1 : Int64) : Option (Int64 × Int64) :=
((F_X5_divisor z a0 a1).bind fun r1 => (if r1 = 0 then none else some (a0 / r1, a1 / r1)))
def F_X1_part (z : Nat) (u0 : (Int64 × Int64)) (a0 : Int32) : Option (Int64) :=
(if a0 = 0 then
some (u0.1)
else
some (u0.2))
def F_X1_isWithin (z : Nat) (u0 : (Int64 × Int64)) (a0 : Int64) : Option (Int32) :=
(if a0 < (absL (u0.1)) then
some ((0 : Int32))
else
(if a0 < (u0.2) then
some ((0 : Int32))
else
some ((1 : Int32))))
def F_X1_ofSawSum (z : Nat) (a0 : Int64) (a1 : Int64) : Option ((Int64 × Int64)) :=
((F_X5_twelfths z a0 a1).bind fun r3 => ((F_X1_init z r3 ((12 : Int64) * a1)).bind fun u4 => some (u4)))
def F_X1_sawOf (z : Nat) (u0 : (Int64 × Int64)) : Option ((Int64 × Int64)) :=
(if (1 : Int64) < (u0.2) then
((F_J9_floorMod_f86c9 z (u0.1) (u0.2)).bind fun r4 => ((F_X1_init z (((2 : Int64) * r4) - (u0.2)) ((2 : Int64) * (u0.2))).bind fun u5 => some (u5)))
else
((F_X1_init z (0 : Int64) (1 : Int64)).bind fun u10 => some (u10)))
def F_X1_opposite (z : Nat) (u0 : (Int64 × Int64)) : Option ((Int64 × Int64)) :=
((F_X1_init z (-(u0.1)) (u0.2)).bind fun u3 => some (u3))
def F_X1_plus (z : Nat) (u0 : (Int64 × Int64)) (w0 : (Int64 × Int64)) : Option ((Int64 × Int64)) :=
((F_X1_init z (((u0.1) * (w0.2)) + ((w0.1) * (u0.2))) ((u0.2) * (w0.2))).bind fun u3 => some (u3))
def F_X1_product (z : Nat) (u0 : (Int64 × Int64)) (w0 : (Int64 × Int64)) : Option ((Int64 × Int64)) :=
((F_X1_init z ((u0.1) * (w0.1)) ((u0.2) * (w0.2))).bind fun u3 => some (u3))
def F_X6_saw (z : Nat) (a0 : Int32) (a1 : Int32) (a2 : Int32) : Option (Int64) :=
((F_X6_lies z (Int32.toInt64 a0) (-1000000000 : Int64) (1000000000 : Int64)).bind fun r1 => (if r1 = 0 then
some ((-4000000000000000000 : Int64))
else
((F_X6_lies z (Int32.toInt64 a1) (-1000000000 : Int64) (1000000000 : Int64)).bind fun r3 => (if r3 = 0 then
some ((-4000000000000000000 : Int64))
else
(if a1 = 0 then
some ((-4000000000000000000 : Int64))
else
(if 0 ≤ a1 then
((F_X1_init z (Int32.toInt64 a0) (Int32.toInt64 (absI a1))).bind fun u9 => ((F_X1_sawOf z u9).bind fun u12 => ((F_X1_part z u12 a2).bind fun r15 => some (r15))))
else
((F_X1_init z (Int32.toInt64 (-a0)) (Int32.toInt64 (absI a1))).bind fun u16 => ((F_X1_sawOf z u16).bind fun u19 => ((F_X1_part z u19 a2).bind fun r22 => some (r22))))))))))
def F_X6_sum (z : Nat) (a0 : Int32) (a1 : Int32) (a2 : Int32) : Option (Int64) :=
((F_X6_lies z (Int32.toInt64 a1) (1 : Int64) (1000000000 : Int64)).bind fun r1 => (if r1 = 0 then
some ((-4000000000000000000 : Int64))
else
((F_X1_ofSawSum z (Int32.toInt64 a0) (Int32.toInt64 a1)).bind fun u3 => ((F_X1_part z u3 a2).bind fun r6 => some (r6)))))
def F_X6_both (z : Nat) (a0 : Int32) (a1 : Int32) (a2 : Int32) : Option (Int64) :=
((F_X6_lies z (Int32.toInt64 a0) (1 : Int64) (30000 : Int64)).bind fun r1 => (if r1 = 0 then
some ((-4000000000000000000 : Int64))
else
((F_X6_lies z (Int32.toInt64 a1) (1 : Int64) (30000 : Int64)).bind fun r3 => (if r3 = 0 then
some ((-4000000000000000000 : Int64))
else
((F_X5_twelfths z (Int32.toInt64 a0) (Int32.toInt64 a1)).bind fun r5 => ((F_X5_twelfths z (Int32.toInt64 a1) (Int32.toInt64 a0)).bind fun r6 => ((some ((r5 * (Int32.toInt64 a0)) + (r6 * (Int32.toInt64 a1)))).bind fun v7 => ((F_X1_init z v7 (((12 : Int64) * (Int32.toInt64 a0)) * (Int32.toInt64 a1))).bind fun u10 => ((F_X1_part z u10 a2).bind fun r13 => some (r13))))))))))
def F_X6_three (z : Nat) (a0 : Int32) (a1 : Int32) (a2 : Int32) (a3 : Int32) : Option (Int64) :=
((F_X6_areThree z a0 a1 a2).bind fun r1 => (if r1 = 0 then
some ((-4000000000000000000 : Int64))
else
((F_X5_inverse z (Int32.toInt64 a1) (Int32.toInt64 a2)).bind fun r3 => ((F_X5_twelfths z ((Int32.toInt64 a0) * r3) (Int32.toInt64 a2)).bind fun r4 => ((F_X5_inverse z (Int32.toInt64 a2) (Int32.toInt64 a0)).bind fun r5 => ((F_X5_twelfths z ((Int32.toInt64 a1) * r5) (Int32.toInt64 a0)).bind fun r6 => ((F_X5_inverse z (Int32.toInt64 a0) (Int32.toInt64 a1)).bind fun r7 => ((F_X5_twelfths z ((Int32.toInt64 a2) * r7) (Int32.toInt64 a1)).bind fun r8 => ((some ((((r4 * (Int32.toInt64 a0)) * (Int32.toInt64 a1)) + ((r6 * (Int32.toInt64 a1)) * (Int32.toInt64 a2))) + ((r8 * (Int32.toInt64 a0)) * (Int32.toInt64 a2)))).bind fun v9 => ((F_X1_init z v9 ((((12 : Int64) * (Int32.toInt64 a0)) * (Int32.toInt64 a1)) * (Int32.toInt64 a2))).bind fun u12 => ((F_X1_part z u12 a3).bind fun r15 => some (r15))))))))))))
def F_X6_told (z : Nat) (lt : (Int64 × Int64)) (a0 : Int32) : Option (Int64) :=
((F_X1_part z lt a0).bind fun r1 => some (r1))
