def G_X4_isWord_20 (z : Nat) (w : Nat) : Nat → Int32 → Int32 → Int32 → CS → Option (Int32 × CS)
  | 0 => fun _ _ _ _ => none
  | n + 1 => fun x2 x4 x5 S =>
(if x4 = 0 then
(if nb x4 = true then some (x4, S) else none)
else
(if (nI (lenS.getD w 0)) ≤ x5 then
(if nb x4 = true then some (x4, S) else none)
else
(bd2 (F_X4_byteAt z (x2 + x5) S) fun r5 S6 => (if ib x5 (lenS.getD w 0) = true then (if r5 = (chS w x5) then
((some (x5 + (1 : Int32))).bind fun v10 => ((G_X4_isWord_20 z w n) x2 (1 : Int32) v10 S6))
else
((some (x5 + (1 : Int32))).bind fun v9 => ((G_X4_isWord_20 z w n) x2 (0 : Int32) v9 S6))) else none))))
def F_X4_isWord (z : Nat) (w : Nat) (a1 : Int32) (a2 : Int32) (S : CS) : Option (Int32 × CS) :=
(if (a2 - a1) = (nI (lenS.getD w 0)) then
(G_X4_isWord_20 z w z a1 (1 : Int32) (0 : Int32) S)
else
(G_X4_isWord_20 z w z a1 (0 : Int32) (0 : Int32) S))
def F_X4_wordOf (z : Nat) (a0 : Int32) (a1 : Int32) (S : CS) : Option (Int32 × CS) :=
(bd2 (F_X4_isWord z 0 a0 a1 S) fun r1 S2 => (if r1 = 0 then
(bd2 (F_X4_isWord z 1 a0 a1 S2) fun r4 S5 => (if r4 = 0 then
(bd2 (F_X4_isWord z 2 a0 a1 S5) fun r7 S8 => (if r7 = 0 then
some ((-6 : Int32), S8)
else
some ((-5 : Int32), S8)))
else
some ((-3 : Int32), S5)))
else
some ((-4 : Int32), S2)))
def F_X4_kindOf (z : Nat) (a0 : Int32) (a1 : Int32) (a2 : Int32) (S : CS) : Option (Int32 × CS) :=
(if a0 = (2 : Int32) then
(bd2 (F_X4_wordOf z a1 a2 S) fun r2 S3 => some (r2, S3))
else
(if a0 = (3 : Int32) then
(if (a2 - a1) ≤ (9 : Int32) then
some ((-2 : Int32), S)
else
some ((-6 : Int32), S))
else
(bd2 (F_X4_byteAt z a1 S) fun r6 S7 => some (r6, S7))))
def G_X4_cut_67 (z : Nat) (k27 : Int32 → Int32 → CS → Option (CS)) (x2 : Int32) (x3 : Int32) (x4 : Int32) (t0 : Int32) (S : CS) : Option (CS) :=
(bd2 (F_X4_kindOf z x4 x2 t0 S) fun r1 S2 => ((F_X4_put z r1 x2 S2).bind fun S3 => (bd2 (F_X4_pastRun z t0 (1 : Int32) S3) fun r4 S5 => ((some (x3 + (1 : Int32))).bind fun v6 => (k27 r4 v6 S5)))))
def G_X4_cut_27 (z : Nat) : Nat → Int32 → Int32 → CS → Option (CS)
  | 0 => fun _ _ _ => none
  | n + 1 => fun x2 x3 S =>
(if (300 : Int32) ≤ x3 then
((F_X4_put z (-1 : Int32) (cg_tlength S) S).bind fun S2 => some S2)
else
(if (cg_tlength S) ≤ x2 then
((F_X4_put z (-1 : Int32) (cg_tlength S) S).bind fun S4 => some S4)
else
(bd2 (F_X4_sortAt z x2 S) fun r5 S6 => (if r5 = 0 then
(G_X4_cut_67 z (G_X4_cut_27 z n) x2 x3 r5 (x2 + (1 : Int32)) S6)
else
(bd2 (F_X4_pastRun z x2 r5 S6) fun r8 S9 => (G_X4_cut_67 z (G_X4_cut_27 z n) x2 x3 r5 r8 S9))))))
def F_X4_cut (z : Nat) (a0 : Int32) (S : CS) : Option (CS) :=
((some (minI a0 (300 : Int32))).bind fun v1 => ((some (cs_tlength S v1)).bind fun S2 => ((some (cs_tmany S2 (0 : Int32))).bind fun S3 => (bd2 (F_X4_pastRun z (0 : Int32) (1 : Int32) S3) fun r4 S5 => (G_X4_cut_27 z z r4 (0 : Int32) S5)))))
