def G_X7_laysWord_202 (z : Nat) (fs : MS → Option MS) (x1 : Int32) (x3 : Int64) (x5 : Int64) (S : MS) : Option (MS) :=
((F_X7_closes z S).bind fun S1 => (if (mg_fault S1) = 0 then
((some ((mg_oftenNow S1) + (1 : Int32))).bind fun v3 => ((some (ms_oftenNow S1 v3)).bind fun S4 => ((F_X7_laysSum z x3 x5 S4).bind fun S5 => ((F_X7_piles z x1 S5).bind fun S6 => some S6))))
else
some S1))
def G_X7_laysWord_85 (z : Nat) (fs : MS → Option MS) (x1 : Int32) (x2 : Int32) (S : MS) : Option (MS) :=
(if x2 = (19511 : Int32) then
((F_X7_opens z S).bind fun S18 => ((fs S18).bind fun S19 => ((F_X7_closes z S19).bind fun S20 => (if (mg_fault S20) = 0 then
((some ((mg_piled S20) - (1 : Int32))).bind fun v22 => ((some (ms_piled S20 v22)).bind fun S23 => (if ib (mg_piled S23) 300 = true then (if ib (mg_piled S23) 300 = true then ((F_X7_laysSaw z (mg_tops S23 (Int32.toNatClampNeg (mg_piled S23))) (mg_bottoms S23 (Int32.toNatClampNeg (mg_piled S23))) S23).bind fun S26 => ((F_X7_piles z x1 S26).bind fun S27 => some S27)) else none) else none)))
else
some S20))))
else
(if x2 = (19 : Int32) then
((F_X7_opens z S).bind fun S9 => (bd2 (F_X7_whole z S9) fun r10 S11 => ((F_X7_sign z (44 : Int32) S11).bind fun S12 => (bd2 (F_X7_whole z S12) fun r13 S14 => (if (mg_fault S14) = 0 then
(if (0 : Int64) < r13 then
(G_X7_laysWord_202 z fs x1 r10 r13 S14)
else
((F_X7_fails z (2 : Int32) (mg_from S14) S14).bind fun S17 => (G_X7_laysWord_202 z fs x1 r10 r13 S17)))
else
(G_X7_laysWord_202 z fs x1 r10 r13 S14))))))
else
(if x2 = (16649 : Int32) then
(bd2 (F_X7_phi z S) fun r5 S6 => ((F_X7_lays z r5 (1 : Int64) S6).bind fun S7 => ((F_X7_piles z x1 S7).bind fun S8 => some S8)))
else
((F_X7_fails z (1 : Int32) x1 S).bind fun S4 => some S4))))
def G_X7_laysWord_7 (z : Nat) (fs : MS → Option MS) : Nat → Int32 → Int32 → MS → Option (MS)
  | 0 => fun _ _ _ => none
  | n + 1 => fun x1 x2 S =>
(if (mg_length S) ≤ (mg_at S) then
(G_X7_laysWord_85 z fs x1 x2 S)
else
(if ib (mg_at S) 300 = true then ((F_X7_isIn z (Int32.toInt64 (mg_tape S (Int32.toNatClampNeg (mg_at S)))) (97 : Int64) (122 : Int64)).bind fun r3 => (if r3 = 0 then
(G_X7_laysWord_85 z fs x1 x2 S)
else
(if (4 : Int32) ≤ ((mg_at S) - x1) then
((some ((mg_at S) + (1 : Int32))).bind fun v6 => ((some (ms_at S v6)).bind fun S7 => ((G_X7_laysWord_7 z fs n) x1 (0 : Int32) S7)))
else
(if ib (mg_at S) 300 = true then ((some ((((32 : Int32) * x2) + (mg_tape S (Int32.toNatClampNeg (mg_at S)))) - (96 : Int32))).bind fun v9 => ((some ((mg_at S) + (1 : Int32))).bind fun v10 => ((some (ms_at S v10)).bind fun S11 => ((G_X7_laysWord_7 z fs n) x1 v9 S11)))) else none)))) else none))
def F_X7_laysWord (z : Nat) (fs : MS → Option MS)  (S : MS) : Option (MS) :=
((some (mg_at S)).bind fun v1 => (G_X7_laysWord_7 z fs z v1 (0 : Int32) S))
def F_X7_unit (z : Nat) (fs : MS → Option MS)  (S : MS) : Option (MS) :=
(if (mg_fault S) = 0 then
(bd2 (F_X7_here z S) fun r2 S3 => ((F_X7_isIn z (Int32.toInt64 r2) (48 : Int64) (57 : Int64)).bind fun r4 => (if r4 = 0 then
((F_X7_isIn z (Int32.toInt64 r2) (97 : Int64) (122 : Int64)).bind fun r6 => (if r6 = 0 then
(if r2 = (40 : Int32) then
((F_X7_opens z S3).bind fun S10 => ((fs S10).bind fun S11 => ((F_X7_closes z S11).bind fun S12 => some S12)))
else
((F_X7_fails z (1 : Int32) (mg_at S3) S3).bind fun S9 => some S9))
else
((F_X7_laysWord z fs S3).bind fun S13 => some S13)))
else
((F_X7_laysDivided z S3).bind fun S14 => some S14))))
else
some S)
def G_X7_factor_29 (z : Nat) (fs : MS → Option MS) (x1 : Int32) (t0 : Int32) (t1 : Int32) (S : MS) : Option (MS) :=
((some (t1 + t0)).bind fun v1 => ((some (ms_at S v1)).bind fun S2 => ((F_X7_unit z fs S2).bind fun S3 => (if x1 = 0 then
some S3
else
(if (mg_fault S3) = 0 then
(if ib ((mg_piled S3) - (1 : Int32)) 300 = true then (if ib ((mg_piled S3) - (1 : Int32)) 300 = true then ((some (ms_tops S3 (vp_updL (mg_tops S3) (Int32.toNatClampNeg ((mg_piled S3) - (1 : Int32))) (-(mg_tops S3 (Int32.toNatClampNeg ((mg_piled S3) - (1 : Int32)))))))).bind fun S8 => some S8) else none) else none)
else
some S3)))))
def G_X7_factor_14 (z : Nat) (fs : MS → Option MS) (t0 : Int32) (S : MS) : Option (MS) :=
(if t0 = 0 then
(G_X7_factor_29 z fs t0 (0 : Int32) (mg_at S) S)
else
(G_X7_factor_29 z fs t0 (1 : Int32) (mg_at S) S))
def F_X7_factor (z : Nat) (fs : MS → Option MS)  (S : MS) : Option (MS) :=
(bd2 (F_X7_here z S) fun r1 S2 => (if r1 = (45 : Int32) then
(G_X7_factor_14 z fs (1 : Int32) S2)
else
(G_X7_factor_14 z fs (0 : Int32) S2)))
def G_X7_term_4 (z : Nat) (fs : MS → Option MS) : Nat → MS → Option (MS)
  | 0 => fun _ => none
  | n + 1 => fun S =>
(if (mg_fault S) = 0 then
(bd2 (F_X7_here z S) fun r2 S3 => (if r2 = (42 : Int32) then
((some (mg_at S3)).bind fun v5 => ((some ((mg_at S3) + (1 : Int32))).bind fun v6 => ((some (ms_at S3 v6)).bind fun S7 => ((F_X7_factor z fs S7).bind fun S8 => ((F_X7_joins z (42 : Int32) v5 S8).bind fun S9 => ((G_X7_term_4 z fs n) S9))))))
else
some S3))
else
some S)
def F_X7_term (z : Nat) (fs : MS → Option MS)  (S : MS) : Option (MS) :=
((F_X7_factor z fs S).bind fun S1 => (G_X7_term_4 z fs z S1))
def G_X7_sum__29 (z : Nat) (fs : MS → Option MS) (k4 : MS → Option (MS))  (S : MS) : Option (MS) :=
((some (mg_at S)).bind fun v1 => (bd2 (F_X7_here z S) fun r2 S3 => ((some ((mg_at S3) + (1 : Int32))).bind fun v4 => ((some (ms_at S3 v4)).bind fun S5 => ((F_X7_term z fs S5).bind fun S6 => ((F_X7_joins z r2 v1 S6).bind fun S7 => (k4 S7)))))))
def G_X7_sum__4 (z : Nat) (fs : MS → Option MS) : Nat → MS → Option (MS)
  | 0 => fun _ => none
  | n + 1 => fun S =>
(if (mg_fault S) = 0 then
(bd2 (F_X7_here z S) fun r2 S3 => (if r2 = (43 : Int32) then
(G_X7_sum__29 z fs (G_X7_sum__4 z fs n) S3)
else
(bd2 (F_X7_here z S3) fun r5 S6 => (if r5 = (45 : Int32) then
(G_X7_sum__29 z fs (G_X7_sum__4 z fs n) S6)
else
some S6))))
else
some S)
def F_X7_sumb (z : Nat) (fs : MS → Option MS)  (S : MS) : Option (MS) :=
((F_X7_term z fs S).bind fun S1 => (G_X7_sum__4 z fs z S1))
def F_X7_sum_ (z : Nat) : Nat → MS → Option MS
  | 0 => fun _ => none
  | d + 1 => fun S => F_X7_sumb z (F_X7_sum_ z d) S
def G_X7_tell_100 (z : Nat)  (S : MS) : Option (Int32 × MS) :=
(if (mg_fault S) = 0 then
(if ib (0 : Int32) 300 = true then ((some (mg_tops S (Int32.toNatClampNeg (0 : Int32)))).bind fun v3 => ((some (ms_toldUp S v3)).bind fun S4 => (if ib (0 : Int32) 300 = true then ((some (mg_bottoms S4 (Int32.toNatClampNeg (0 : Int32)))).bind fun v6 => ((some (ms_toldUnder S4 v6)).bind fun S7 => ((some ((mg_sums S7) + (1 : Int32))).bind fun v8 => ((some (ms_sums S7 v8)).bind fun S9 => ((some (mg_oftenNow S9)).bind fun v10 => ((some (ms_often S9 v10)).bind fun S11 => some ((0 : Int32), S11))))))) else none))) else none)
else
some (mg_fault S, S))
def G_X7_tell_76 (z : Nat)  (S : MS) : Option (Int32 × MS) :=
(if (mg_fault S) = 0 then
(if (mg_beyond S) = (-1 : Int32) then
(G_X7_tell_100 z S)
else
((F_X7_fails z (3 : Int32) (mg_beyond S) S).bind fun S3 => (G_X7_tell_100 z S3)))
else
(G_X7_tell_100 z S))
def F_X7_tell (z : Nat)  (S : MS) : Option (Int32 × MS) :=
((some (ms_thrown S (0 : Int32))).bind fun S1 => ((some (mg_taped S1)).bind fun v2 => ((some (ms_length S1 v2)).bind fun S3 => ((some (ms_taped S3 (0 : Int32))).bind fun S4 => ((some (ms_fault S4 (0 : Int32))).bind fun S5 => ((some (ms_beyond S5 (-1 : Int32))).bind fun S6 => ((some (ms_at S6 (0 : Int32))).bind fun S7 => ((some (ms_open S7 (0 : Int32))).bind fun S8 => ((some (ms_piled S8 (0 : Int32))).bind fun S9 => ((some (ms_oftenNow S9 (0 : Int32))).bind fun S10 => ((F_X7_sum_ z 12 S10).bind fun S11 => (if (mg_fault S11) = 0 then
(bd2 (F_X7_here z S11) fun r13 S14 => (if r13 = (-1 : Int32) then
(G_X7_tell_76 z S14)
else
((F_X7_fails z (1 : Int32) (mg_at S14) S14).bind fun S16 => (G_X7_tell_76 z S16))))
else
(G_X7_tell_76 z S11)))))))))))))
