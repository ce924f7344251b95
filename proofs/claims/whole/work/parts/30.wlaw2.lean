section LBODY
variable {p : Program} {l : Launch} {e : Env} {s : State} {m : MethodId} {below : List Frame} {meth : Method} {c : Code} {z : Nat} {K : Ev} {b L : Nat} {xs : Nat → Int32} {Q : State → Prop}
set_option maxRecDepth 100000 in
theorem lw_body (hlt : l.stackTraces = false) (A : LC p s m meth c b L xs K) {n : Nat} (hn : n + 6 ≤ L) (hL : L ≤ 3072) {C : CS} {M : MS} {lt : Int64 × Int64} {o : Nat → Int64} {g : Gh} {H : Heap} {locs : List Loc} {cells slots : Nat} {C' : CS} {M' : MS} {lt' : Int64 × Int64} (hroom : cells + 620 ≤ 601024 ∧ slots + 1240 ≤ 7293034) (hG : Gi K g lt) (hP : va_P K.1 vwCl (wd K C M o g) H) (hD : va_D (inA K) (wd K C M o g)) (hS : va_S (inA K) s.heap H locs) (h : lawStep z (xs n) (xs (n + 1)) (xs (n + 2)) (xs (n + 3)) (xs (n + 4)) (xs (n + 5)) C M lt = some (C', M', lt')) {ls : Array Slot} (hl : lv_has ls 7 [(0, .ref b), (1, .ref (K.2.2.1 0)), (2, .ref (K.2.2.1 12)), (3, .ref (K.2.2.1 17)), (4, .int (Int32.ofNat n))])
    (kk : ∀ (o' : Nat → Int64) (g' : Gh) (H' : Heap) (locs' : List Loc) (ls' : Array Slot), Gi K g' lt' → va_P K.1 vwCl (wd K C' M' o' g') H' → va_D (inA K) (wd K C' M' o' g') → va_S (inA K) s.heap H' locs' → lv_has ls' 7 [(0, .ref b), (1, .ref (K.2.2.1 0)), (2, .ref (K.2.2.1 12)), (3, .ref (K.2.2.1 17)), (4, .int (Int32.ofNat n))] → W p l e room_1 s m #[Value.ref b] below meth c H' locs' (cells + 620) (slots + 1240) Q (F0 m 1551 ls' [])) : W p l e room_1 s m #[Value.ref b] below meth c H locs cells slots Q (F0 m 33 ls []) := by
  have A9 := A
  obtain ⟨S0, hN, hF, hT, hK, hX, hbl, hbA⟩ := A
  have S9 := S0
  obtain ⟨hx, hb, hml, hown, hts⟩ := S9
  rw [lawStep] at h
  refine lv_aload_n hx hb dL_law_33 rfl (lv_at hl 0 rfl) ?_
  refine lv_iload hx hb dL_law_34 (lv_at hl 4 rfl) ?_
  refine sc_ld0 hx hb hX hbl hbA hn hL hS dL_law_36 ?_
  refine lv_bipush (v := (31 : Int32)) hx hb dL_law_37 (by decide) ?_
  refine lv_iand hx hb dL_law_39 ?_
  by_cases c0 : xs n &&& 31 = (0 : Int32)
  · have h := gn_t h c0
    refine lv_tableIn (off := 144) (tgt := 184) hx hb dL_law_40 (by rw [c0]; decide) (by rw [c0]; decide) (by rw [c0]; rfl) (by decide) ?_
    exact lw_c0 A9 hn hL hroom hG hP hD hS h hl kk
  have h := gn_f h c0
  by_cases c1 : xs n &&& 31 = (1 : Int32)
  · have h := gn_t h c1
    refine lv_tableIn (off := 210) (tgt := 250) hx hb dL_law_40 (by rw [c1]; decide) (by rw [c1]; decide) (by rw [c1]; rfl) (by decide) ?_
    exact lw_c1 A9 hn hL hroom hG hP hD hS h hl kk
  have h := gn_f h c1
  by_cases c2 : xs n &&& 31 = (2 : Int32)
  · have h := gn_t h c2
    refine lv_tableIn (off := 276) (tgt := 316) hx hb dL_law_40 (by rw [c2]; decide) (by rw [c2]; decide) (by rw [c2]; rfl) (by decide) ?_
    exact lw_c2 A9 hn hL hroom hG hP hD hS h hl kk
  have h := gn_f h c2
  by_cases c3 : xs n &&& 31 = (3 : Int32)
  · have h := gn_t h c3
    refine lv_tableIn (off := 342) (tgt := 382) hx hb dL_law_40 (by rw [c3]; decide) (by rw [c3]; decide) (by rw [c3]; rfl) (by decide) ?_
    exact lw_c3 A9 hn hL hroom hG hP hD hS h hl kk
  have h := gn_f h c3
  by_cases c4 : xs n &&& 31 = (4 : Int32)
  · have h := gn_t h c4
    refine lv_tableIn (off := 420) (tgt := 460) hx hb dL_law_40 (by rw [c4]; decide) (by rw [c4]; decide) (by rw [c4]; rfl) (by decide) ?_
    exact lw_c4 A9 hn hL hroom hG hP hD hS h hl kk
  have h := gn_f h c4
  by_cases c5 : xs n &&& 31 = (5 : Int32)
  · have h := gn_t h c5
    refine lv_tableIn (off := 470) (tgt := 510) hx hb dL_law_40 (by rw [c5]; decide) (by rw [c5]; decide) (by rw [c5]; rfl) (by decide) ?_
    exact lw_c5 A9 hn hL hroom hG hP hD hS h hl kk
  have h := gn_f h c5
  by_cases c6 : xs n &&& 31 = (6 : Int32)
  · have h := gn_t h c6
    refine lv_tableIn (off := 519) (tgt := 559) hx hb dL_law_40 (by rw [c6]; decide) (by rw [c6]; decide) (by rw [c6]; rfl) (by decide) ?_
    exact lw_c6 A9 hn hL hroom hG hP hD hS h hl kk
  have h := gn_f h c6
  by_cases c7 : xs n &&& 31 = (7 : Int32)
  · have h := gn_t h c7
    refine lv_tableIn (off := 568) (tgt := 608) hx hb dL_law_40 (by rw [c7]; decide) (by rw [c7]; decide) (by rw [c7]; rfl) (by decide) ?_
    exact lw_c7 A9 hn hL hroom hG hP hD hS h hl kk
  have h := gn_f h c7
  by_cases c8 : xs n &&& 31 = (8 : Int32)
  · have h := gn_t h c8
    refine lv_tableIn (off := 617) (tgt := 657) hx hb dL_law_40 (by rw [c8]; decide) (by rw [c8]; decide) (by rw [c8]; rfl) (by decide) ?_
    exact lw_c8 A9 hn hL hroom hG hP hD hS h hl kk
  have h := gn_f h c8
  by_cases c9 : xs n &&& 31 = (9 : Int32)
  · have h := gn_t h c9
    refine lv_tableIn (off := 654) (tgt := 694) hx hb dL_law_40 (by rw [c9]; decide) (by rw [c9]; decide) (by rw [c9]; rfl) (by decide) ?_
    exact lw_c9 A9 hn hL hroom hG hP hD hS h hl kk
  have h := gn_f h c9
  by_cases c10 : xs n &&& 31 = (10 : Int32)
  · have h := gn_t h c10
    refine lv_tableIn (off := 716) (tgt := 756) hx hb dL_law_40 (by rw [c10]; decide) (by rw [c10]; decide) (by rw [c10]; rfl) (by decide) ?_
    exact lw_c10 A9 hn hL hroom hG hP hD hS h hl kk
  have h := gn_f h c10
  by_cases c11 : xs n &&& 31 = (11 : Int32)
  · have h := gn_t h c11
    refine lv_tableIn (off := 766) (tgt := 806) hx hb dL_law_40 (by rw [c11]; decide) (by rw [c11]; decide) (by rw [c11]; rfl) (by decide) ?_
    exact lw_c11 A9 hn hL hroom hG hP hD hS h hl kk
  have h := gn_f h c11
  by_cases c12 : xs n &&& 31 = (12 : Int32)
  · have h := gn_t h c12
    refine lv_tableIn (off := 816) (tgt := 856) hx hb dL_law_40 (by rw [c12]; decide) (by rw [c12]; decide) (by rw [c12]; rfl) (by decide) ?_
    exact lw_c12 A9 hn hL hroom hG hP hD hS h hl kk
  have h := gn_f h c12
  by_cases c13 : xs n &&& 31 = (13 : Int32)
  · have h := gn_t h c13
    refine lv_tableIn (off := 866) (tgt := 906) hx hb dL_law_40 (by rw [c13]; decide) (by rw [c13]; decide) (by rw [c13]; rfl) (by decide) ?_
    exact lw_c13 hlt A9 hn hL hroom hG hP hD hS h hl kk
  have h := gn_f h c13
  by_cases c14 : xs n &&& 31 = (14 : Int32)
  · have h := gn_t h c14
    refine lv_tableIn (off := 922) (tgt := 962) hx hb dL_law_40 (by rw [c14]; decide) (by rw [c14]; decide) (by rw [c14]; rfl) (by decide) ?_
    exact lw_c14 A9 hn hL hroom hG hP hD hS h hl kk
  have h := gn_f h c14
  by_cases c15 : xs n &&& 31 = (15 : Int32)
  · have h := gn_t h c15
    refine lv_tableIn (off := 983) (tgt := 1023) hx hb dL_law_40 (by rw [c15]; decide) (by rw [c15]; decide) (by rw [c15]; rfl) (by decide) ?_
    exact lw_c15 A9 hn hL hroom hG hP hD hS h hl kk
  have h := gn_f h c15
  by_cases c16 : xs n &&& 31 = (16 : Int32)
  · have h := gn_t h c16
    refine lv_tableIn (off := 996) (tgt := 1036) hx hb dL_law_40 (by rw [c16]; decide) (by rw [c16]; decide) (by rw [c16]; rfl) (by decide) ?_
    exact lw_c16 A9 hn hL hroom hG hP hD hS h hl kk
  have h := gn_f h c16
  by_cases c17 : xs n &&& 31 = (17 : Int32)
  · have h := gn_t h c17
    refine lv_tableIn (off := 1021) (tgt := 1061) hx hb dL_law_40 (by rw [c17]; decide) (by rw [c17]; decide) (by rw [c17]; rfl) (by decide) ?_
    exact lw_c17 A9 hn hL hroom hG hP hD hS h hl kk
  have h := gn_f h c17
  by_cases c18 : xs n &&& 31 = (18 : Int32)
  · have h := gn_t h c18
    refine lv_tableIn (off := 1082) (tgt := 1122) hx hb dL_law_40 (by rw [c18]; decide) (by rw [c18]; decide) (by rw [c18]; rfl) (by decide) ?_
    exact lw_c18 A9 hn hL hroom hG hP hD hS h hl kk
  have h := gn_f h c18
  by_cases c19 : xs n &&& 31 = (19 : Int32)
  · have h := gn_t h c19
    refine lv_tableIn (off := 1095) (tgt := 1135) hx hb dL_law_40 (by rw [c19]; decide) (by rw [c19]; decide) (by rw [c19]; rfl) (by decide) ?_
    exact lw_c19 A9 hn hL hroom hG hP hD hS h hl kk
  have h := gn_f h c19
  by_cases c20 : xs n &&& 31 = (20 : Int32)
  · have h := gn_t h c20
    refine lv_tableIn (off := 1121) (tgt := 1161) hx hb dL_law_40 (by rw [c20]; decide) (by rw [c20]; decide) (by rw [c20]; rfl) (by decide) ?_
    exact lw_c20 A9 hn hL hroom hG hP hD hS h hl kk
  have h := gn_f h c20
  by_cases c21 : xs n &&& 31 = (21 : Int32)
  · have h := gn_t h c21
    refine lv_tableIn (off := 1134) (tgt := 1174) hx hb dL_law_40 (by rw [c21]; decide) (by rw [c21]; decide) (by rw [c21]; rfl) (by decide) ?_
    exact lw_c21 A9 hn hL hroom hG hP hD hS h hl kk
  have h := gn_f h c21
  by_cases c22 : xs n &&& 31 = (22 : Int32)
  · have h := gn_t h c22
    refine lv_tableIn (off := 1147) (tgt := 1187) hx hb dL_law_40 (by rw [c22]; decide) (by rw [c22]; decide) (by rw [c22]; rfl) (by decide) ?_
    exact lw_c22 A9 hn hL hroom hG hP hD hS h hl kk
  have h := gn_f h c22
  by_cases c23 : xs n &&& 31 = (23 : Int32)
  · have h := gn_t h c23
    refine lv_tableIn (off := 1173) (tgt := 1213) hx hb dL_law_40 (by rw [c23]; decide) (by rw [c23]; decide) (by rw [c23]; rfl) (by decide) ?_
    exact lw_c23 A9 hn hL hroom hG hP hD hS h hl kk
  have h := gn_f h c23
  by_cases c24 : xs n &&& 31 = (24 : Int32)
  · have h := gn_t h c24
    refine lv_tableIn (off := 1222) (tgt := 1262) hx hb dL_law_40 (by rw [c24]; decide) (by rw [c24]; decide) (by rw [c24]; rfl) (by decide) ?_
    exact lw_c24 A9 hn hL hroom hG hP hD hS h hl kk
  have h := gn_f h c24
  by_cases c25 : xs n &&& 31 = (25 : Int32)
  · have h := gn_t h c25
    refine lv_tableIn (off := 1259) (tgt := 1299) hx hb dL_law_40 (by rw [c25]; decide) (by rw [c25]; decide) (by rw [c25]; rfl) (by decide) ?_
    exact lw_c25 A9 hn hL hroom hG hP hD hS h hl kk
  have h := gn_f h c25
  by_cases c26 : xs n &&& 31 = (26 : Int32)
  · have h := gn_t h c26
    refine lv_tableIn (off := 1296) (tgt := 1336) hx hb dL_law_40 (by rw [c26]; decide) (by rw [c26]; decide) (by rw [c26]; rfl) (by decide) ?_
    exact lw_c26 A9 hn hL hroom hG hP hD hS h hl kk
  have h := gn_f h c26
  by_cases c27 : xs n &&& 31 = (27 : Int32)
  · have h := gn_t h c27
    refine lv_tableIn (off := 1333) (tgt := 1373) hx hb dL_law_40 (by rw [c27]; decide) (by rw [c27]; decide) (by rw [c27]; rfl) (by decide) ?_
    exact lw_c27 A9 hn hL hroom hG hP hD hS h hl kk
  have h := gn_f h c27
  by_cases c28 : xs n &&& 31 = (28 : Int32)
  · have h := gn_t h c28
    refine lv_tableIn (off := 1406) (tgt := 1446) hx hb dL_law_40 (by rw [c28]; decide) (by rw [c28]; decide) (by rw [c28]; rfl) (by decide) ?_
    exact lw_c28 A9 hn hL hroom hG hP hD hS h hl kk
  have h := gn_f h c28
  by_cases c29 : xs n &&& 31 = (29 : Int32)
  · have h := gn_t h c29
    refine lv_tableIn (off := 1431) (tgt := 1471) hx hb dL_law_40 (by rw [c29]; decide) (by rw [c29]; decide) (by rw [c29]; rfl) (by decide) ?_
    exact lw_c29 A9 hn hL hroom hG hP hD hS h hl kk
  have h := gn_f h c29
  by_cases c30 : xs n &&& 31 = (30 : Int32)
  · have h := gn_t h c30
    refine lv_tableIn (off := 1444) (tgt := 1484) hx hb dL_law_40 (by rw [c30]; decide) (by rw [c30]; decide) (by rw [c30]; rfl) (by decide) ?_
    exact lw_c30 A9 hn hL hroom hG hP hD hS h hl kk
  have h := gn_f h c30
  by_cases c31 : xs n &&& 31 = (31 : Int32)
  · have h := gn_t h c31
    refine lv_tableIn (off := 1486) (tgt := 1526) hx hb dL_law_40 (by rw [c31]; decide) (by rw [c31]; decide) (by rw [c31]; rfl) (by decide) ?_
    exact lw_c31 A9 hn hL hroom hG hP hD hS h hl kk
  have h := gn_f h c31
  refine lv_tableOut (tgt := 1551) hx hb dL_law_40 (tsw_out_32 c0 c1 c2 c3 c4 c5 c6 c7 c8 c9 c10 c11 c12 c13 c14 c15 c16 c17 c18 c19 c20 c21 c22 c23 c24 c25 c26 c27 c28 c29 c30 c31) (by decide) ?_
  obtain ⟨rfl, h8⟩ := Prod.mk.inj (gn_some h)
  obtain ⟨rfl, rfl⟩ := Prod.mk.inj h8
  exact W.widen (Nat.le_add_right _ _) (Nat.le_add_right _ _) (kk _ _ _ _ _ hG hP hD hS hl)
theorem lp_lt {n L : Nat} (hn : n ≤ 3072) (hL : L ≤ 3072) : (Int32.ofNat L - 6 < Int32.ofNat n) ↔ L < n + 6 := by
  have a : (Int32.ofNat n).toInt = (n : Int) := Int32.toInt_ofNat_of_lt (by omega)
  have b : (Int32.ofNat L).toInt = (L : Int) := Int32.toInt_ofNat_of_lt (by omega)
  have d : (Int32.ofNat L - 6).toInt = (L : Int) - 6 := by
    rw [Int32.toInt_sub, b]
    show ((L : Int) - 6).bmod (2 ^ 32) = _
    exact Int.bmod_eq_of_le (by omega) (by omega)
  rw [Int32.lt_iff_toInt_lt, a, d]
  omega
set_option maxRecDepth 100000 in
theorem lw_loop {b L : Nat} {xs : Nat → Int32} (hlt : l.stackTraces = false) (A : LC p s m meth c b L xs K) (hL : L ≤ 3072) (hr : meth.sig.returnType = ret) (hlk : meth.locks = false) (hbs : K.2.2.2 = s.heap.size) (j : Nat) : ∀ {n : Nat} {C : CS} {M : MS} {lt : Int64 × Int64} {o : Nat → Int64} {g : Gh} {H : Heap} {locs : List Loc} {cells slots : Nat} {C' : CS} {M' : MS} {lt' : Int64 × Int64}, n + 6 * j ≤ L → L < n + 6 * j + 6 → cells + 620 * j ≤ 601024 ∧ slots + 1240 * j ≤ 7293034 → Gi K g lt → va_P K.1 vwCl (wd K C M o g) H → va_D (inA K) (wd K C M o g) → va_S (inA K) s.heap H locs → lawF z xs j n (C, M, lt) = some (C', M', lt') → ∀ {ls : Array Slot}, lv_has ls 7 [(0, .ref b), (1, .ref (K.2.2.1 0)), (2, .ref (K.2.2.1 12)), (3, .ref (K.2.2.1 17)), (4, .int (Int32.ofNat n))] → W p l e room_1 s m #[Value.ref b] below meth c H locs cells slots (lw_Z below #[Value.ref b] s) (F0 m 23 ls []) := by
  have A9 := A
  obtain ⟨S0, hN, hF, hT, hK, hX, hbl, hbA⟩ := A
  have S9 := S0
  obtain ⟨hx, hb, hml, hown, hts⟩ := S9
  induction j with
  | zero =>
    intro n C M lt o g H locs cells slots C' M' lt' h1 h2 hroom hG hP hD hS h ls hl
    refine lv_iload hx hb dL_law_23 (lv_at hl 4 rfl) ?_
    refine lv_aload_n hx hb dL_law_25 rfl (lv_at hl 0 rfl) ?_
    refine va_slen hx hb hX hbl hbA hS dL_law_26 ?_
    refine lv_bipush (v := (6 : Int32)) hx hb dL_law_27 (by decide) ?_
    refine lv_isub hx hb dL_law_29 ?_
    refine lv_icmp_gt (tgt := 1557) hx hb dL_law_30 (by decide) (fun c9 => ?_) (fun c9 => absurd ((lp_lt (by omega) hL).mpr (by omega)) c9)
    refine lv_iconst (v := (1 : Int32)) hx hb dL_law_1557 (by decide) ?_
    refine W.widen (k := 601024) (n := 7293034) (by omega) (by omega) ?_
    refine va_forget (fun q hq => by have h9 := hS.2.2 q hq; rw [inA, hbs] at h9; exact h9) ?_
    exact lw_ret hx hb hr hlk dL_law_1558
  | succ j ih =>
    intro n C M lt o g H locs cells slots C' M' lt' h1 h2 hroom hG hP hD hS h ls hl
    rw [lawF] at h
    obtain ⟨⟨C1, M1, lt1⟩, h3, h4⟩ := gn_bd h
    refine lv_iload hx hb dL_law_23 (lv_at hl 4 rfl) ?_
    refine lv_aload_n hx hb dL_law_25 rfl (lv_at hl 0 rfl) ?_
    refine va_slen hx hb hX hbl hbA hS dL_law_26 ?_
    refine lv_bipush (v := (6 : Int32)) hx hb dL_law_27 (by decide) ?_
    refine lv_isub hx hb dL_law_29 ?_
    refine lv_icmp_gt (tgt := 1557) hx hb dL_law_30 (by decide) (fun c9 => absurd ((lp_lt (by omega) hL).mp c9) (by omega)) (fun c9 => ?_)
    refine lw_body hlt A9 (by omega) hL (by omega) hG hP hD hS h3 hl (fun o' g' H' locs' ls' hG hP hD hS hl => ?_)
    refine lv_iinc (v := Int32.ofNat (n + 6)) (lv' := [(4, .int (Int32.ofNat (n + 6))), (0, .ref b), (1, .ref (K.2.2.1 0)), (2, .ref (K.2.2.1 12)), (3, .ref (K.2.2.1 17))]) hx hb dL_law_1551 hl (k := 4) rfl (by rw [Int32.ofNat_add]; rfl) (by decide) rfl (fun ls hl => ?_)
    refine lv_goto (tgt := 23) hx hb dL_law_1554 (by decide) ?_
    exact ih (by omega) (by omega) (by omega) hG hP hD hS h4 (lv_sub hl [1, 2, 3, 4, 0] rfl)

end LBODY
