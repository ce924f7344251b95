def F_X3_bounded (z : Nat) (w0 : (Int64 × Int64)) (a1 : Int32) (S : CS) : Option ((Int64 × Int64) × CS) :=
((F_X1_isWithin z w0 (1000000000 : Int64)).bind fun r1 => (if r1 = 0 then
(if (cg_exceeded S) = 0 then
(bd2 (F_X4_placeAt z a1 S) fun r4 S5 => ((some ((3 : Int32) + ((8 : Int32) * r4))).bind fun v6 => ((some (cs_exceeded S5 v6)).bind fun S7 => some (((0, 1) : Int64 × Int64), S7))))
else
some (((0, 1) : Int64 × Int64), S))
else
some (w0, S)))
def F_X3_readSawSum (z : Nat) (a0 : Int32) (S : CS) : Option ((Int64 × Int64) × CS) :=
((some ((cg_sawSums S) + (1 : Int32))).bind fun v1 => ((some (cs_sawSums S v1)).bind fun S2 => (bd2 (F_X3_goesIn z a0 S2) fun r3 S4 => (if r3 = 0 then
some (((0, 1) : Int64 × Int64), S4)
else
(bd2 (F_X3_readWhole z (0 : Int32) S4) fun r6 S7 => ((F_X3_pass z (44 : Int32) S7).bind fun S8 => (bd2 (F_X3_readWhole z (1 : Int32) S8) fun r9 S10 => ((F_X3_pass z (41 : Int32) S10).bind fun S11 => ((F_X1_ofSawSum z r6 r9).bind fun u12 => some (u12, S11))))))))))
def F_X3_readNumbers (z : Nat)  (S : CS) : Option ((Int64 × Int64) × CS) :=
(bd2 (F_X3_readNumber z (0 : Int32) (0 : Int32) S) fun r1 S2 => (if (cg_token S2) = (47 : Int32) then
((some (cg_at S2)).bind fun v4 => ((F_X3_advance z S2).bind fun S5 => (bd2 (F_X3_readNumber z (0 : Int32) (1 : Int32) S5) fun r8 S9 => ((F_X1_init z r1 r8).bind fun u10 => (bd2 (F_X3_bounded z u10 v4 S9) fun u13 S14 => some (u13, S14))))))
else
((F_X1_init z r1 (1 : Int64)).bind fun u19 => some (u19, S2))))
def F_X3_readBrackets (z : Nat) (fs : (Nat → Int32 → CS → Option ((Int64 × Int64) × CS × Nat))) (n0 : Nat) (a0 : Int32) (S : CS) : Option ((Int64 × Int64) × CS × Nat) :=
(bd2 (F_X3_goesIn z a0 S) fun r1 S2 => (if r1 = 0 then
some (((0, 1) : Int64 × Int64), S2, n0)
else
(bd3 (fs n0 (a0 + (1 : Int32)) S2) fun u4 S5 n6 => ((F_X3_pass z (41 : Int32) S5).bind fun S9 => some (u4, S9, n6)))))
def F_X3_readUnit (z : Nat) (fs : (Nat → Int32 → CS → Option ((Int64 × Int64) × CS × Nat))) (n0 : Nat) (a0 : Int32) (S : CS) : Option ((Int64 × Int64) × CS × Nat) :=
((some (cg_at S)).bind fun v1 => (if (cg_token S) = (-5 : Int32) then
((F_X3_advance z S).bind fun S3 => (if n0 + 1 ≤ 620 then ((some (n0 + 1)).bind fun n7 => (bd2 (F_X2_companion z S3) fun r8 S9 => ((F_X1_init z r8 (1 : Int64)).bind fun u10 => (bd2 (F_X3_bounded z u10 v1 S9) fun u13 S14 => some (u13, S14, n7))))) else none))
else
(if (cg_token S) = (-4 : Int32) then
((F_X3_advance z S).bind fun S18 => (if n0 + 1 ≤ 620 then (bd2 (F_X3_readSawSum z a0 S18) fun u20 S21 => ((some (n0 + 1)).bind fun n24 => (bd2 (F_X3_bounded z u20 v1 S21) fun u25 S26 => some (u25, S26, n24)))) else none))
else
(if (cg_token S) = (-3 : Int32) then
((F_X3_advance z S).bind fun S30 => (bd3 (F_X3_readBrackets z fs n0 a0 S30) fun u31 S32 n33 => (if n33 + 1 ≤ 620 then ((F_X1_sawOf z u31).bind fun u37 => ((some (n33 + 1)).bind fun n40 => (bd2 (F_X3_bounded z u37 v1 S32) fun u41 S42 => some (u41, S42, n40)))) else none)))
else
(if (cg_token S) = (-2 : Int32) then
(if n0 + 1 ≤ 620 then (bd2 (F_X3_readNumbers z S) fun u47 S48 => ((some (n0 + 1)).bind fun n51 => some (u47, S48, n51))) else none)
else
(if (cg_token S) = (40 : Int32) then
(bd3 (F_X3_readBrackets z fs n0 a0 S) fun u53 S54 n55 => some (u53, S54, n55))
else
((F_X3_refuse z (1 : Int32) S).bind fun S58 => some (((0, 1) : Int64 × Int64), S58, n0))))))))
def F_X3_readFactor (z : Nat) (fs : (Nat → Int32 → CS → Option ((Int64 × Int64) × CS × Nat))) (n0 : Nat) (a0 : Int32) (S : CS) : Option ((Int64 × Int64) × CS × Nat) :=
(if (cg_token S) = (45 : Int32) then
((F_X3_advance z S).bind fun S2 => (bd3 (F_X3_readUnit z fs n0 a0 S2) fun u3 S4 n5 => (if n5 + 1 ≤ 620 then ((F_X1_opposite z u3).bind fun u9 => ((some (n5 + 1)).bind fun n12 => some (u9, S4, n12))) else none)))
else
(bd3 (F_X3_readUnit z fs n0 a0 S) fun u13 S14 n15 => some (u13, S14, n15)))
def G_X3_readTerm_8 (z : Nat) (fs : (Nat → Int32 → CS → Option ((Int64 × Int64) × CS × Nat))) : Nat → Nat → Int32 → (Int64 × Int64) → Int32 → CS → Option ((Int64 × Int64) × CS × Nat)
  | 0 => fun _ _ _ _ _ => none
  | nq + 1 => fun n x1 y2 x3 S =>
(if (300 : Int32) ≤ x3 then
some (y2, S, n)
else
(if (cg_token S) = (42 : Int32) then
((some (cg_at S)).bind fun v3 => ((F_X3_advance z S).bind fun S4 => (bd3 (F_X3_readFactor z fs n x1 S4) fun u5 S6 n7 => (if n7 + 1 ≤ 620 then ((F_X1_product z y2 u5).bind fun u11 => ((some (n7 + 1)).bind fun n14 => (bd2 (F_X3_bounded z u11 v3 S6) fun u15 S16 => ((some (x3 + (1 : Int32))).bind fun v19 => ((G_X3_readTerm_8 z fs nq) n14 x1 u15 v19 S16))))) else none))))
else
some (y2, S, n)))
def F_X3_readTerm (z : Nat) (fs : (Nat → Int32 → CS → Option ((Int64 × Int64) × CS × Nat))) (n0 : Nat) (a0 : Int32) (S : CS) : Option ((Int64 × Int64) × CS × Nat) :=
(bd3 (F_X3_readFactor z fs n0 a0 S) fun u1 S2 n3 => (G_X3_readTerm_8 z fs z n3 a0 u1 (0 : Int32) S2))
def G_X3_readSum_33 (z : Nat) (fs : (Nat → Int32 → CS → Option ((Int64 × Int64) × CS × Nat))) (k8 : Nat → Int32 → (Int64 × Int64) → Int32 → CS → Option ((Int64 × Int64) × CS × Nat)) (n : Nat) (x1 : Int32) (y2 : (Int64 × Int64)) (x3 : Int32) (S : CS) : Option ((Int64 × Int64) × CS × Nat) :=
(if (cg_token S) = (45 : Int32) then
((some (cg_at S)).bind fun v35 => ((F_X3_advance z S).bind fun S36 => (bd3 (F_X3_readTerm z fs n x1 S36) fun u37 S38 n39 => (if (1 : Int32) = 0 then
(if n39 + 1 ≤ 620 then ((F_X1_plus z y2 u37).bind fun u44 => ((some (n39 + 1)).bind fun n47 => (bd2 (F_X3_bounded z u44 v35 S38) fun u48 S49 => ((some (x3 + (1 : Int32))).bind fun v52 => (k8 n47 x1 u48 v52 S49))))) else none)
else
(if n39 + 1 ≤ 620 then ((F_X1_opposite z u37).bind fun u54 => ((some (n39 + 1)).bind fun n57 => (if n57 + 1 ≤ 620 then ((F_X1_plus z y2 u54).bind fun u59 => ((some (n57 + 1)).bind fun n62 => (bd2 (F_X3_bounded z u59 v35 S38) fun u63 S64 => ((some (x3 + (1 : Int32))).bind fun v67 => (k8 n62 x1 u63 v67 S64))))) else none))) else none)))))
else
((some (cg_at S)).bind fun v2 => ((F_X3_advance z S).bind fun S3 => (bd3 (F_X3_readTerm z fs n x1 S3) fun u4 S5 n6 => (if (0 : Int32) = 0 then
(if n6 + 1 ≤ 620 then ((F_X1_plus z y2 u4).bind fun u11 => ((some (n6 + 1)).bind fun n14 => (bd2 (F_X3_bounded z u11 v2 S5) fun u15 S16 => ((some (x3 + (1 : Int32))).bind fun v19 => (k8 n14 x1 u15 v19 S16))))) else none)
else
(if n6 + 1 ≤ 620 then ((F_X1_opposite z u4).bind fun u21 => ((some (n6 + 1)).bind fun n24 => (if n24 + 1 ≤ 620 then ((F_X1_plus z y2 u21).bind fun u26 => ((some (n24 + 1)).bind fun n29 => (bd2 (F_X3_bounded z u26 v2 S5) fun u30 S31 => ((some (x3 + (1 : Int32))).bind fun v34 => (k8 n29 x1 u30 v34 S31))))) else none))) else none))))))
def G_X3_readSum_8 (z : Nat) (fs : (Nat → Int32 → CS → Option ((Int64 × Int64) × CS × Nat))) : Nat → Nat → Int32 → (Int64 × Int64) → Int32 → CS → Option ((Int64 × Int64) × CS × Nat)
  | 0 => fun _ _ _ _ _ => none
  | nq + 1 => fun n x1 y2 x3 S =>
(if (300 : Int32) ≤ x3 then
some (y2, S, n)
else
(if (cg_token S) = (43 : Int32) then
(G_X3_readSum_33 z fs (G_X3_readSum_8 z fs nq) n x1 y2 x3 S)
else
(if (cg_token S) = (45 : Int32) then
(G_X3_readSum_33 z fs (G_X3_readSum_8 z fs nq) n x1 y2 x3 S)
else
some (y2, S, n))))
def F_X3_readSumb (z : Nat) (fs : (Nat → Int32 → CS → Option ((Int64 × Int64) × CS × Nat))) (n0 : Nat) (a0 : Int32) (S : CS) : Option ((Int64 × Int64) × CS × Nat) :=
(bd3 (F_X3_readTerm z fs n0 a0 S) fun u1 S2 n3 => (G_X3_readSum_8 z fs z n3 a0 u1 (0 : Int32) S2))
def F_X3_readSum (z : Nat) : Nat → Nat → Int32 → CS → Option ((Int64 × Int64) × CS × Nat)
  | 0 => fun _ _ _ => none
  | d + 1 => fun n a S => F_X3_readSumb z (F_X3_readSum z d) n a S
def F_X3_workOut (z : Nat) (n0 : Nat) (a0 : Int32) (S : CS) : Option ((Int64 × Int64) × CS × Nat) :=
((F_X4_cut z a0 S).bind fun S1 => ((some (cs_at S1 (0 : Int32))).bind fun S2 => (bd2 (F_X4_kindAt z (0 : Int32) S2) fun r3 S4 => ((some (cs_token S4 r3)).bind fun S5 => ((some (cs_refused S5 (0 : Int32))).bind fun S6 => ((some (cs_exceeded S6 (0 : Int32))).bind fun S7 => ((some (cs_sawSums S7 (0 : Int32))).bind fun S8 => (bd3 (F_X3_readSum z 12 n0 (0 : Int32) S8) fun u9 S10 n11 => (if (cg_token S10) = (-1 : Int32) then
some (u9, S10, n11)
else
((F_X3_refuse z (1 : Int32) S10).bind fun S15 => some (u9, S15, n11)))))))))))
def F_X6_tell (z : Nat) (n0 : Nat) (lt : (Int64 × Int64)) (S : CS) : Option (Int32 × CS × (Int64 × Int64) × Nat) :=
(bd3 (F_X3_workOut z n0 (cg_tapeLength S) S) fun u1 S2 n3 => ((some (cs_tapeLength S2 (0 : Int32))).bind fun S6 => (bd2 (F_X3_fault z S6) fun r7 S8 => (if r7 = 0 then
((some ((cg_sumsTold S8) + (1 : Int32))).bind fun v10 => ((some (cs_sumsTold S8 v10)).bind fun S11 => ((some (cg_sawSums S11)).bind fun v12 => ((some (cs_inLatest S11 v12)).bind fun S13 => some (r7, S13, u1, n3)))))
else
some (r7, S8, lt, n3)))))
