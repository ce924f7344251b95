def rm_X3_readSum (d b : Nat) : Room := { frames := 10 * d + 10, cells := b, slots := 2 * b, locals := 400 * d + 400 }
theorem in_X3_bounded_X3 : ∀ w ∈ wsX30, w ∈ wsX3_bounded := fun _ h => List.mem_cons_of_mem _ (List.mem_append_left _ (List.mem_append_left _ (List.mem_append_right _ h)))
def rm_X3_bounded : Room := { frames := 2, cells := 0, slots := 0, locals := 46 }
section
variable {p : Program} {l : Launch} {e : Env} {s : State} {m : MethodId} {args : Array Value} {below : List Frame} {meth : Method} {c : Code} {z : Nat} {K : Ev} {M : MS} {o : Nat → Int64} {g : Gh}
end
set_option maxRecDepth 100000 in
theorem c_X3_bounded (l : Launch) (z : Nat) (K : Ev) (M : MS) (o : Nat → Int64) (g : Gh) (hz : K.2.2.1 18 ∈ g.2.1 ∧ g.2.2 (K.2.2.1 18) = (0, 1)) (d0 : Nat) (w0 : Int64 × Int64) (mw0 : d0 ∈ g.2.1 ∧ g.2.2 d0 = w0) (a1 : Int32) (S : CS) (r : (Int64 × Int64)) (S' : CS) (h : F_X3_bounded z w0 a1 S = some (r, S')) : Met l yX3_bounded wsX3_bounded rm_X3_bounded (qH K [.ref (K.2.2.1 7), .ref d0, .int a1] S M o g) (qF K r S' M o g True) 0 0 (inA K) := by
  refine Met.ofW (cc := cX3_bounded) (maxL := 3) (ret := (some (.object "SawSums$Fraction"))) (by decide) rfl ?_
  intro p e s m args below meth c s₁ B hml hv
  obtain ⟨rfl, hN, hP, hK, hD, hF⟩ := hv
  have hx := B.exec
  have hb := B.bytes
  have hr := B.returns
  have hts := atoms_spec (ws := wsX3_bounded) B.pre
  have hown : s.vm.findClass RX3 = some m.cls := findClass_of_methodNamed B.named
  have hlk := B.notSynchronized
  have hbs := wd_bs hP hD
  have hE : Ext g g := Ext.rf
  have Cc : Cx p s m _ meth c cX3_bounded 3 RX3 wsX3_bounded (some (.object "SawSums$Fraction")) := ⟨hx, hb, hml, hown, hts, hr, hlk, hN⟩
  have hS : va_S (inA K) s.heap s.heap [] := va_S.rf
  have hl := lv_entry ([.ref (K.2.2.1 7), .ref d0, .int a1]) (n := 3) (Nat.le_of_ble_eq_true rfl)
  rw [lg_entry_eq]
  generalize (lg_sl ([.ref (K.2.2.1 7), .ref d0, .int a1]) ++ List.replicate (3 - (lg_sl ([.ref (K.2.2.1 7), .ref d0, .int a1])).length) Slot.unset).toArray = ls at hl ⊢
  have hl : lv_has ls 3 [(0, .ref (K.2.2.1 7)), (1, .ref d0), (2, .int a1)] := hl
  rw [F_X3_bounded] at h
  have hcl : 0 ≤ rm_X3_bounded.cells := (Nat.le_of_ble_eq_true rfl)
  have hsl : 0 ≤ rm_X3_bounded.slots := (Nat.le_of_ble_eq_true rfl)
  refine lv_aload_n hx hb dX3_bounded_0 rfl (lv_at hl 1 rfl) ?_
  refine lv_ldc2 hx hb hown (hts (.constantLong RX3 134 (1000000000)) (by decide +kernel)) dX3_bounded_1 ?_
  obtain ⟨r1, qr1, h⟩ := gn_bd h
  refine hc_V (rest := []) ⟨hx, hb, hml, hown, hts⟩ hN hF hK hP hD hS (c_X1_isWithin l z K _ M o g hz d0 w0 mw0 _ r1 qr1) (cwV 1 hts gX3_bounded_X1_isWithin rfl rfl rfl (by decide +kernel) ⟨(Nat.le_of_ble_eq_true rfl), (Nat.le_of_ble_eq_true rfl)⟩) (fr_recv hK hP mw0) rfl hl.1 rfl (Nat.le_of_ble_eq_true rfl) dX3_bounded_4 hcl hsl (fun H locs hP hD hS => ?_)
  have hP : va_P K.1 vwCl (wd K S M o g) H := hP
  have hD : va_D (inA K) (wd K S M o g) := hD
  refine W.eq (g2 := F0 m 7 ls [.int r1]) rfl ?_
  refine lv_if_eq (tgt := 12) hx hb dX3_bounded_7 (by decide) (fun c2 => ?_) (fun c2 => ?_)
  · have h := gn_t h c2
    refine lv_aload_n hx hb dX3_bounded_12 rfl (lv_at hl 0 rfl) ?_
    refine va_get (D := K.1) (ci := 3) (v := .int (cg_exceeded S)) (C := RX3) (T := TX3) (N := 8) hx hb hts in_X3_bounded_X3 hown hK hP 7 rfl rfl 6 (by decide) (hts (.fieldLink RX3 43 "SawSums$Reader" "exceeded" "I") (by decide +kernel)) (fun _ h9 => h9) rfl dX3_bounded_13 ?_
    refine lv_if_ne (tgt := 36) hx hb dX3_bounded_16 (by decide) (fun c3 => ?_) (fun c3 => ?_)
    · have h := gn_f h c3
      refine lv_aload_n hx hb dX3_bounded_36 rfl (lv_at hl 0 rfl) ?_
      refine va_get (D := K.1) (ci := 3) (v := .ref (K.2.2.1 18)) (C := RX3) (T := TX3) (N := 8) hx hb hts in_X3_bounded_X3 hown hK hP 7 rfl rfl 2 (by decide) (hts (.fieldLink RX3 29 "SawSums$Reader" "zero" "LSawSums$Fraction;") (by decide +kernel)) (fun _ h9 => h9) rfl dX3_bounded_37 ?_
      obtain ⟨rfl, rfl⟩ := Prod.mk.inj (gn_some h)
      refine W.widen (k := 0) (n := 0) (Nat.le_of_ble_eq_true rfl) (Nat.le_of_ble_eq_true rfl) ?_
      exact W.aret hx hb hr (Or.inl ⟨_, rfl⟩) (Or.inr ⟨_, rfl⟩) (fun t ht _ => ⟨_, _, rfl, hE, hz, trivial, by rw [ht]; exact hP, hD, hS.F ht⟩) hS.2.2 dX3_bounded_40 hlk
    · have h := gn_t h c3
      refine lv_aload_n hx hb dX3_bounded_19 rfl (lv_at hl 0 rfl) ?_
      refine lv_iconst (v := (3 : Int32)) hx hb dX3_bounded_20 (by decide) ?_
      refine lv_bipush (v := (8 : Int32)) hx hb dX3_bounded_21 (by decide) ?_
      refine lv_aload_n hx hb dX3_bounded_23 rfl (lv_at hl 0 rfl) ?_
      refine va_get (D := K.1) (ci := 3) (v := .ref (K.2.2.1 8)) (C := RX3) (T := TX3) (N := 8) hx hb hts in_X3_bounded_X3 hown hK hP 7 rfl rfl 0 (by decide) (hts (.fieldLink RX3 14 "SawSums$Reader" "tokens" "LSawSums$Tokens;") (by decide +kernel)) (fun _ h9 => h9) rfl dX3_bounded_24 ?_
      refine lv_iload_n hx hb dX3_bounded_27 rfl (lv_at hl 2 rfl) ?_
      obtain ⟨r4, S5, qS5, h⟩ := gn_bd2 h
      refine hc_V (rest := [.int (8 : Int32), .int (3 : Int32), .ref (K.2.2.1 7)]) ⟨hx, hb, hml, hown, hts⟩ hN hF hK hP hD hS (c_X4_placeAt l z K _ o g _ _ r4 S5 qS5) (cwV 1 hts gX3_bounded_X4_placeAt rfl rfl rfl (by decide +kernel) ⟨(Nat.le_of_ble_eq_true rfl), (Nat.le_of_ble_eq_true rfl)⟩) (va_recv hK hP (ci := 4) (q0 := 8) rfl rfl) rfl hl.1 rfl (Nat.le_of_ble_eq_true rfl) dX3_bounded_28 hcl hsl (fun H locs hP hD hS => ?_)
      have hP : va_P K.1 vwCl (wd K S5 M o g) H := hP
      have hD : va_D (inA K) (wd K S5 M o g) := hD
      refine W.eq (g2 := F0 m 31 ls [.int r4, .int (8 : Int32), .int (3 : Int32), .ref (K.2.2.1 7)]) rfl ?_
      refine lv_imul hx hb dX3_bounded_31 ?_
      refine lv_iadd hx hb dX3_bounded_32 ?_
      obtain ⟨v6, ev6, h⟩ := gn_nm h
      refine ln_i ev6 ?_
      obtain ⟨S7, eS7, h⟩ := gn_nm h
      refine va_put (D := K.1) (ci := 3) (v := .int v6) (ty := .int) (C := RX3) (T := TX3) (N := 8) hx hb hts in_X3_bounded_X3 tyX3 tyX3_ok nmX3 hown hK hP hD hS 7 rfl rfl 6 (by decide) (hts (.fieldLink RX3 43 "SawSums$Reader" "exceeded" "I") (by decide +kernel)) (fun _ h9 => h9) rfl (by decide +kernel) rfl rfl (Nat.le_of_ble_eq_true rfl) dX3_bounded_33 (fun H locs hP hD hS => ?_)
      have hP : va_P K.1 vwCl (wd K S7 M o g) H := by rw [eS7]; exact hP
      have hD : va_D (inA K) (wd K S7 M o g) := by rw [eS7]; exact hD
      refine lv_aload_n hx hb dX3_bounded_36 rfl (lv_at hl 0 rfl) ?_
      refine va_get (D := K.1) (ci := 3) (v := .ref (K.2.2.1 18)) (C := RX3) (T := TX3) (N := 8) hx hb hts in_X3_bounded_X3 hown hK hP 7 rfl rfl 2 (by decide) (hts (.fieldLink RX3 29 "SawSums$Reader" "zero" "LSawSums$Fraction;") (by decide +kernel)) (fun _ h9 => h9) rfl dX3_bounded_37 ?_
      obtain ⟨rfl, rfl⟩ := Prod.mk.inj (gn_some h)
      refine W.widen (k := 0) (n := 0) (Nat.le_of_ble_eq_true rfl) (Nat.le_of_ble_eq_true rfl) ?_
      exact W.aret hx hb hr (Or.inl ⟨_, rfl⟩) (Or.inr ⟨_, rfl⟩) (fun t ht _ => ⟨_, _, rfl, hE, hz, trivial, by rw [ht]; exact hP, hD, hS.F ht⟩) hS.2.2 dX3_bounded_40 hlk
  · have h := gn_f h c2
    refine lv_aload_n hx hb dX3_bounded_10 rfl (lv_at hl 1 rfl) ?_
    obtain ⟨rfl, rfl⟩ := Prod.mk.inj (gn_some h)
    refine W.widen (k := 0) (n := 0) (Nat.le_of_ble_eq_true rfl) (Nat.le_of_ble_eq_true rfl) ?_
    exact W.aret hx hb hr (Or.inl ⟨_, rfl⟩) (Or.inr ⟨_, rfl⟩) (fun t ht _ => ⟨_, _, rfl, hE, mw0, trivial, by rw [ht]; exact hP, hD, hS.F ht⟩) hS.2.2 dX3_bounded_11 hlk
theorem in_X3_readSawSum_X3 : ∀ w ∈ wsX30, w ∈ wsX3_readSawSum := fun _ h => List.mem_cons_of_mem _ (List.mem_append_left _ (List.mem_append_left _ (List.mem_append_right _ h)))
def rm_X3_readSawSum : Room := { frames := 4, cells := 1, slots := 2, locals := 109 }
section
variable {p : Program} {l : Launch} {e : Env} {s : State} {m : MethodId} {args : Array Value} {below : List Frame} {meth : Method} {c : Code} {z : Nat} {K : Ev} {M : MS} {o : Nat → Int64} {g : Gh}
end
set_option maxRecDepth 100000 in
theorem c_X3_readSawSum (l : Launch) (z : Nat) (K : Ev) (M : MS) (o : Nat → Int64) (g : Gh) (hz : K.2.2.1 18 ∈ g.2.1 ∧ g.2.2 (K.2.2.1 18) = (0, 1)) (a0 : Int32) (S : CS) (r : (Int64 × Int64)) (S' : CS) (h : F_X3_readSawSum z a0 S = some (r, S')) : Met l yX3_readSawSum wsX3_readSawSum rm_X3_readSawSum (qH K [.ref (K.2.2.1 7), .int a0] S M o g) (qF K r S' M o g True) 1 2 (inA K) := by
  refine Met.ofW (cc := cX3_readSawSum) (maxL := 6) (ret := (some (.object "SawSums$Fraction"))) (by decide) rfl ?_
  intro p e s m args below meth c s₁ B hml hv
  obtain ⟨rfl, hN, hP, hK, hD, hF⟩ := hv
  have hx := B.exec
  have hb := B.bytes
  have hr := B.returns
  have hts := atoms_spec (ws := wsX3_readSawSum) B.pre
  have hown : s.vm.findClass RX3 = some m.cls := findClass_of_methodNamed B.named
  have hlk := B.notSynchronized
  have hbs := wd_bs hP hD
  have hE : Ext g g := Ext.rf
  have Cc : Cx p s m _ meth c cX3_readSawSum 6 RX3 wsX3_readSawSum (some (.object "SawSums$Fraction")) := ⟨hx, hb, hml, hown, hts, hr, hlk, hN⟩
  have hS : va_S (inA K) s.heap s.heap [] := va_S.rf
  have hl := lv_entry ([.ref (K.2.2.1 7), .int a0]) (n := 6) (Nat.le_of_ble_eq_true rfl)
  rw [lg_entry_eq]
  generalize (lg_sl ([.ref (K.2.2.1 7), .int a0]) ++ List.replicate (6 - (lg_sl ([.ref (K.2.2.1 7), .int a0])).length) Slot.unset).toArray = ls at hl ⊢
  have hl : lv_has ls 6 [(0, .ref (K.2.2.1 7)), (1, .int a0)] := hl
  rw [F_X3_readSawSum] at h
  have hcl : 0 ≤ rm_X3_readSawSum.cells := (Nat.le_of_ble_eq_true rfl)
  have hsl : 0 ≤ rm_X3_readSawSum.slots := (Nat.le_of_ble_eq_true rfl)
  refine lv_aload_n hx hb dX3_readSawSum_0 rfl (lv_at hl 0 rfl) ?_
  refine lv_dup hx hb dX3_readSawSum_1 rfl ?_
  refine va_get (D := K.1) (ci := 3) (v := .int (cg_sawSums S)) (C := RX3) (T := TX3) (N := 8) hx hb hts in_X3_readSawSum_X3 hown hK hP 7 rfl rfl 7 (by decide) (hts (.fieldLink RX3 46 "SawSums$Reader" "sawSums" "I") (by decide +kernel)) (fun _ h9 => h9) rfl dX3_readSawSum_2 ?_
  refine lv_iconst (v := (1 : Int32)) hx hb dX3_readSawSum_5 (by decide) ?_
  refine lv_iadd hx hb dX3_readSawSum_6 ?_
  obtain ⟨v1, ev1, h⟩ := gn_nm h
  refine ln_i ev1 ?_
  obtain ⟨S2, eS2, h⟩ := gn_nm h
  refine va_put (D := K.1) (ci := 3) (v := .int v1) (ty := .int) (C := RX3) (T := TX3) (N := 8) hx hb hts in_X3_readSawSum_X3 tyX3 tyX3_ok nmX3 hown hK hP hD hS 7 rfl rfl 7 (by decide) (hts (.fieldLink RX3 46 "SawSums$Reader" "sawSums" "I") (by decide +kernel)) (fun _ h9 => h9) rfl (by decide +kernel) rfl rfl (Nat.le_of_ble_eq_true rfl) dX3_readSawSum_7 (fun H locs hP hD hS => ?_)
  have hP : va_P K.1 vwCl (wd K S2 M o g) H := by rw [eS2]; exact hP
  have hD : va_D (inA K) (wd K S2 M o g) := by rw [eS2]; exact hD
  refine lv_aload_n hx hb dX3_readSawSum_10 rfl (lv_at hl 0 rfl) ?_
  refine lv_iload_n hx hb dX3_readSawSum_11 rfl (lv_at hl 1 rfl) ?_
  obtain ⟨r3, S4, qS4, h⟩ := gn_bd2 h
  refine hc_V (rest := []) ⟨hx, hb, hml, hown, hts⟩ hN hF hK hP hD hS (c_X3_goesIn l z K _ o g _ _ r3 S4 qS4) (cwV 1 hts gX3_readSawSum_X3_goesIn rfl rfl rfl (by decide +kernel) ⟨(Nat.le_of_ble_eq_true rfl), (Nat.le_of_ble_eq_true rfl)⟩) (va_recv hK hP (ci := 3) (q0 := 7) rfl rfl) rfl hl.1 rfl (Nat.le_of_ble_eq_true rfl) dX3_readSawSum_12 hcl hsl (fun H locs hP hD hS => ?_)
  have hP : va_P K.1 vwCl (wd K S4 M o g) H := hP
  have hD : va_D (inA K) (wd K S4 M o g) := hD
  refine W.eq (g2 := F0 m 15 ls [.int r3]) rfl ?_
  refine lv_if_ne (tgt := 23) hx hb dX3_readSawSum_15 (by decide) (fun c5 => ?_) (fun c5 => ?_)
  · have h := gn_f h c5
    refine lv_aload_n hx hb dX3_readSawSum_23 rfl (lv_at hl 0 rfl) ?_
    refine lv_iconst (v := (0 : Int32)) hx hb dX3_readSawSum_24 (by decide) ?_
    obtain ⟨r6, S7, qS7, h⟩ := gn_bd2 h
    refine hc_V (rest := []) ⟨hx, hb, hml, hown, hts⟩ hN hF hK hP hD hS (c_X3_readWhole l z K _ o g _ _ r6 S7 qS7) (cwV 1 hts gX3_readSawSum_X3_readWhole rfl rfl rfl (by decide +kernel) ⟨(Nat.le_of_ble_eq_true rfl), (Nat.le_of_ble_eq_true rfl)⟩) (va_recv hK hP (ci := 3) (q0 := 7) rfl rfl) rfl hl.1 rfl (Nat.le_of_ble_eq_true rfl) dX3_readSawSum_25 hcl hsl (fun H locs hP hD hS => ?_)
    have hP : va_P K.1 vwCl (wd K S7 M o g) H := hP
    have hD : va_D (inA K) (wd K S7 M o g) := hD
    refine W.eq (g2 := F0 m 28 ls [.long r6]) rfl ?_
    refine lv_lstore_n (lv' := [(2, .long r6), (0, .ref (K.2.2.1 7)), (1, .int a0)]) hx hb dX3_readSawSum_28 rfl hl (by decide) rfl (fun ls hl => ?_)
    refine lv_aload_n hx hb dX3_readSawSum_29 rfl (lv_at hl 1 rfl) ?_
    refine lv_bipush (v := (44 : Int32)) hx hb dX3_readSawSum_30 (by decide) ?_
    obtain ⟨S8, qS8, h⟩ := gn_bd h
    refine hc_V (rest := []) ⟨hx, hb, hml, hown, hts⟩ hN hF hK hP hD hS (c_X3_pass l z K _ o g _ _  S8 qS8) (cwV 1 hts gX3_readSawSum_X3_pass rfl rfl rfl (by decide +kernel) ⟨(Nat.le_of_ble_eq_true rfl), (Nat.le_of_ble_eq_true rfl)⟩) (va_recv hK hP (ci := 3) (q0 := 7) rfl rfl) rfl hl.1 rfl (Nat.le_of_ble_eq_true rfl) dX3_readSawSum_32 hcl hsl (fun H locs hP hD hS => ?_)
    have hP : va_P K.1 vwCl (wd K S8 M o g) H := hP
    have hD : va_D (inA K) (wd K S8 M o g) := hD
    refine W.eq (g2 := F0 m 35 ls []) rfl ?_
    refine lv_aload_n hx hb dX3_readSawSum_35 rfl (lv_at hl 1 rfl) ?_
    refine lv_iconst (v := (1 : Int32)) hx hb dX3_readSawSum_36 (by decide) ?_
    obtain ⟨r9, S10, qS10, h⟩ := gn_bd2 h
    refine hc_V (rest := []) ⟨hx, hb, hml, hown, hts⟩ hN hF hK hP hD hS (c_X3_readWhole l z K _ o g _ _ r9 S10 qS10) (cwV 1 hts gX3_readSawSum_X3_readWhole rfl rfl rfl (by decide +kernel) ⟨(Nat.le_of_ble_eq_true rfl), (Nat.le_of_ble_eq_true rfl)⟩) (va_recv hK hP (ci := 3) (q0 := 7) rfl rfl) rfl hl.1 rfl (Nat.le_of_ble_eq_true rfl) dX3_readSawSum_37 hcl hsl (fun H locs hP hD hS => ?_)
    have hP : va_P K.1 vwCl (wd K S10 M o g) H := hP
    have hD : va_D (inA K) (wd K S10 M o g) := hD
    refine W.eq (g2 := F0 m 40 ls [.long r9]) rfl ?_
    refine lv_lstore (lv' := [(4, .long r9), (2, .long r6), (0, .ref (K.2.2.1 7)), (1, .int a0)]) hx hb dX3_readSawSum_40 hl (by decide) rfl (fun ls hl => ?_)
    refine lv_aload_n hx hb dX3_readSawSum_42 rfl (lv_at hl 2 rfl) ?_
    refine lv_bipush (v := (41 : Int32)) hx hb dX3_readSawSum_43 (by decide) ?_
    obtain ⟨S11, qS11, h⟩ := gn_bd h
    refine hc_V (rest := []) ⟨hx, hb, hml, hown, hts⟩ hN hF hK hP hD hS (c_X3_pass l z K _ o g _ _  S11 qS11) (cwV 1 hts gX3_readSawSum_X3_pass rfl rfl rfl (by decide +kernel) ⟨(Nat.le_of_ble_eq_true rfl), (Nat.le_of_ble_eq_true rfl)⟩) (va_recv hK hP (ci := 3) (q0 := 7) rfl rfl) rfl hl.1 rfl (Nat.le_of_ble_eq_true rfl) dX3_readSawSum_45 hcl hsl (fun H locs hP hD hS => ?_)
    have hP : va_P K.1 vwCl (wd K S11 M o g) H := hP
    have hD : va_D (inA K) (wd K S11 M o g) := hD
    refine W.eq (g2 := F0 m 48 ls []) rfl ?_
    refine lv_lload_n hx hb dX3_readSawSum_48 rfl (lv_at hl 1 rfl) ?_
    refine lv_lload hx hb dX3_readSawSum_49 (lv_at hl 0 rfl) ?_
    obtain ⟨u12, qu12, h⟩ := gn_bd h
    refine fc_S (rest := []) ⟨hx, hb, hml, hown, hts⟩ hN hF hK hP hD hS (c_X1_ofSawSum l z K _ M o g hz _ _ u12 qu12) (va_cwS 2 hts gX3_readSawSum_X1_ofSawSum rfl rfl rfl (by decide +kernel) ⟨(Nat.le_of_ble_eq_true rfl), (Nat.le_of_ble_eq_true rfl)⟩)  rfl hl.1 rfl (Nat.le_of_ble_eq_true rfl) dX3_readSawSum_51 ⟨(Nat.le_of_ble_eq_true rfl), (Nat.le_of_ble_eq_true rfl)⟩ (fun bu12 g13 H locs x14 mu12 hp hP hD hS => ?_)
    have hz := Ext.mv x14 hz
    have hE := Ext.tr hE x14
    refine W.widen (k := 1) (n := 2) (Nat.le_of_ble_eq_true rfl) (Nat.le_of_ble_eq_true rfl) ?_
    have hcl : 1 ≤ rm_X3_readSawSum.cells := (Nat.le_of_ble_eq_true rfl)
    have hsl : 2 ≤ rm_X3_readSawSum.slots := (Nat.le_of_ble_eq_true rfl)
    have hP : va_P K.1 vwCl (wd K S11 M o g13) H := hP
    have hD : va_D (inA K) (wd K S11 M o g13) := hD
    obtain ⟨rfl, rfl⟩ := Prod.mk.inj (gn_some h)
    refine W.widen (k := 1) (n := 2) (Nat.le_of_ble_eq_true rfl) (Nat.le_of_ble_eq_true rfl) ?_
    exact W.aret hx hb hr (Or.inl ⟨_, rfl⟩) (Or.inr ⟨_, rfl⟩) (fun t ht _ => ⟨_, _, rfl, hE, mu12, trivial, by rw [ht]; exact hP, hD, hS.F ht⟩) hS.2.2 dX3_readSawSum_54 hlk
  · have h := gn_t h c5
    refine lv_aload_n hx hb dX3_readSawSum_18 rfl (lv_at hl 0 rfl) ?_
    refine va_get (D := K.1) (ci := 3) (v := .ref (K.2.2.1 18)) (C := RX3) (T := TX3) (N := 8) hx hb hts in_X3_readSawSum_X3 hown hK hP 7 rfl rfl 2 (by decide) (hts (.fieldLink RX3 29 "SawSums$Reader" "zero" "LSawSums$Fraction;") (by decide +kernel)) (fun _ h9 => h9) rfl dX3_readSawSum_19 ?_
    obtain ⟨rfl, rfl⟩ := Prod.mk.inj (gn_some h)
    refine W.widen (k := 1) (n := 2) (Nat.le_of_ble_eq_true rfl) (Nat.le_of_ble_eq_true rfl) ?_
    exact W.aret hx hb hr (Or.inl ⟨_, rfl⟩) (Or.inr ⟨_, rfl⟩) (fun t ht _ => ⟨_, _, rfl, hE, hz, trivial, by rw [ht]; exact hP, hD, hS.F ht⟩) hS.2.2 dX3_readSawSum_22 hlk
theorem in_X3_readNumbers_X1 : ∀ w ∈ wsX10, w ∈ wsX3_readNumbers := fun _ h => List.mem_cons_of_mem _ (List.mem_append_left _ (List.mem_append_right _ h))
theorem in_X3_readNumbers_X3 : ∀ w ∈ wsX30, w ∈ wsX3_readNumbers := fun _ h => List.mem_cons_of_mem _ (List.mem_append_left _ (List.mem_append_left _ (List.mem_append_right _ h)))
def rm_X3_readNumbers : Room := { frames := 3, cells := 1, slots := 2, locals := 86 }
section
variable {p : Program} {l : Launch} {e : Env} {s : State} {m : MethodId} {args : Array Value} {below : List Frame} {meth : Method} {c : Code} {z : Nat} {K : Ev} {M : MS} {o : Nat → Int64} {g : Gh}
end
set_option maxRecDepth 100000 in
theorem c_X3_readNumbers (l : Launch) (z : Nat) (K : Ev) (M : MS) (o : Nat → Int64) (g : Gh) (hz : K.2.2.1 18 ∈ g.2.1 ∧ g.2.2 (K.2.2.1 18) = (0, 1)) (S : CS) (r : (Int64 × Int64)) (S' : CS) (h : F_X3_readNumbers z S = some (r, S')) : Met l yX3_readNumbers wsX3_readNumbers rm_X3_readNumbers (qH K [.ref (K.2.2.1 7)] S M o g) (qF K r S' M o g True) 1 2 (inA K) := by
  refine Met.ofW (cc := cX3_readNumbers) (maxL := 4) (ret := (some (.object "SawSums$Fraction"))) (by decide) rfl ?_
  intro p e s m args below meth c s₁ B hml hv
  obtain ⟨rfl, hN, hP, hK, hD, hF⟩ := hv
  have hx := B.exec
  have hb := B.bytes
  have hr := B.returns
  have hts := atoms_spec (ws := wsX3_readNumbers) B.pre
  have hown : s.vm.findClass RX3 = some m.cls := findClass_of_methodNamed B.named
  have hlk := B.notSynchronized
  have hbs := wd_bs hP hD
  have hE : Ext g g := Ext.rf
  have Cc : Cx p s m _ meth c cX3_readNumbers 4 RX3 wsX3_readNumbers (some (.object "SawSums$Fraction")) := ⟨hx, hb, hml, hown, hts, hr, hlk, hN⟩
  have hS : va_S (inA K) s.heap s.heap [] := va_S.rf
  have hl := lv_entry ([.ref (K.2.2.1 7)]) (n := 4) (Nat.le_of_ble_eq_true rfl)
  rw [lg_entry_eq]
  generalize (lg_sl ([.ref (K.2.2.1 7)]) ++ List.replicate (4 - (lg_sl ([.ref (K.2.2.1 7)])).length) Slot.unset).toArray = ls at hl ⊢
  have hl : lv_has ls 4 [(0, .ref (K.2.2.1 7))] := hl
  rw [F_X3_readNumbers] at h
  have hcl : 0 ≤ rm_X3_readNumbers.cells := (Nat.le_of_ble_eq_true rfl)
  have hsl : 0 ≤ rm_X3_readNumbers.slots := (Nat.le_of_ble_eq_true rfl)
  refine lv_aload_n hx hb dX3_readNumbers_0 rfl (lv_at hl 0 rfl) ?_
  refine lv_iconst (v := (0 : Int32)) hx hb dX3_readNumbers_1 (by decide) ?_
  refine lv_iconst (v := (0 : Int32)) hx hb dX3_readNumbers_2 (by decide) ?_
  obtain ⟨r1, S2, qS2, h⟩ := gn_bd2 h
  refine hc_V (rest := []) ⟨hx, hb, hml, hown, hts⟩ hN hF hK hP hD hS (c_X3_readNumber l z K _ o g _ _ _ r1 S2 qS2) (cwV 2 hts gX3_readNumbers_X3_readNumber rfl rfl rfl (by decide +kernel) ⟨(Nat.le_of_ble_eq_true rfl), (Nat.le_of_ble_eq_true rfl)⟩) (va_recv hK hP (ci := 3) (q0 := 7) rfl rfl) rfl hl.1 rfl (Nat.le_of_ble_eq_true rfl) dX3_readNumbers_3 hcl hsl (fun H locs hP hD hS => ?_)
  have hP : va_P K.1 vwCl (wd K S2 M o g) H := hP
  have hD : va_D (inA K) (wd K S2 M o g) := hD
  refine W.eq (g2 := F0 m 6 ls [.long r1]) rfl ?_
  refine lv_lstore_n (lv' := [(1, .long r1), (0, .ref (K.2.2.1 7))]) hx hb dX3_readNumbers_6 rfl hl (by decide) rfl (fun ls hl => ?_)
  refine lv_aload_n hx hb dX3_readNumbers_7 rfl (lv_at hl 1 rfl) ?_
  refine va_get (D := K.1) (ci := 3) (v := .int (cg_token S2)) (C := RX3) (T := TX3) (N := 8) hx hb hts in_X3_readNumbers_X3 hown hK hP 7 rfl rfl 4 (by decide) (hts (.fieldLink RX3 37 "SawSums$Reader" "token" "I") (by decide +kernel)) (fun _ h9 => h9) rfl dX3_readNumbers_8 ?_
  refine lv_bipush (v := (47 : Int32)) hx hb dX3_readNumbers_11 (by decide) ?_
  refine lv_icmp_eq (tgt := 26) hx hb dX3_readNumbers_13 (by decide) (fun c3 => ?_) (fun c3 => ?_)
  · have h := gn_t h c3
    refine lv_aload_n hx hb dX3_readNumbers_26 rfl (lv_at hl 1 rfl) ?_
    refine va_get (D := K.1) (ci := 3) (v := .int (cg_at S2)) (C := RX3) (T := TX3) (N := 8) hx hb hts in_X3_readNumbers_X3 hown hK hP 7 rfl rfl 3 (by decide) (hts (.fieldLink RX3 33 "SawSums$Reader" "at" "I") (by decide +kernel)) (fun _ h9 => h9) rfl dX3_readNumbers_27 ?_
    obtain ⟨v4, ev4, h⟩ := gn_nm h
    refine ln_i ev4 ?_
    refine lv_istore_n (lv' := [(3, .int v4), (1, .long r1), (0, .ref (K.2.2.1 7))]) hx hb dX3_readNumbers_30 rfl hl (by decide) rfl (fun ls hl => ?_)
    refine lv_aload_n hx hb dX3_readNumbers_31 rfl (lv_at hl 2 rfl) ?_
    obtain ⟨S5, qS5, h⟩ := gn_bd h
    refine hc_V (rest := []) ⟨hx, hb, hml, hown, hts⟩ hN hF hK hP hD hS (c_X3_advance l z K _ o g  _  S5 qS5) (cwV 0 hts gX3_readNumbers_X3_advance rfl rfl rfl (by decide +kernel) ⟨(Nat.le_of_ble_eq_true rfl), (Nat.le_of_ble_eq_true rfl)⟩) (va_recv hK hP (ci := 3) (q0 := 7) rfl rfl) rfl hl.1 rfl (Nat.le_of_ble_eq_true rfl) dX3_readNumbers_32 hcl hsl (fun H locs hP hD hS => ?_)
    have hP : va_P K.1 vwCl (wd K S5 M o g) H := hP
    have hD : va_D (inA K) (wd K S5 M o g) := hD
    refine W.eq (g2 := F0 m 35 ls []) rfl ?_
    refine lv_aload_n hx hb dX3_readNumbers_35 rfl (lv_at hl 2 rfl) ?_
    refine fr_new hx hb hts in_X3_readNumbers_X1 hown (hts (.classLink RX3 24 RX1) (by decide +kernel)) (hts (.instantiable RX1 2) (by decide +kernel)) (hts (.initialized RX1) (by decide +kernel)) hK hP hD hS hbs (Nat.le_of_ble_eq_true rfl) (Nat.le_of_ble_eq_true rfl) dX3_readNumbers_36 (fun q6 H fq6 hP hD hS => ?_)
    have x7 := gpush_ext (v := ((0, 0) : Int64 × Int64)) fq6
    have hzn := Ext.mv x7 hz
    refine W.widen (k := 1) (n := 2) (Nat.le_of_ble_eq_true rfl) (Nat.le_of_ble_eq_true rfl) ?_
    have hcl : 1 ≤ rm_X3_readNumbers.cells := (Nat.le_of_ble_eq_true rfl)
    have hsl : 2 ≤ rm_X3_readNumbers.slots := (Nat.le_of_ble_eq_true rfl)
    refine lv_dup hx hb dX3_readNumbers_39 rfl ?_
    refine lv_lload_n hx hb dX3_readNumbers_40 rfl (lv_at hl 1 rfl) ?_
    refine lv_aload_n hx hb dX3_readNumbers_41 rfl (lv_at hl 2 rfl) ?_
    refine lv_iconst (v := (0 : Int32)) hx hb dX3_readNumbers_42 (by decide) ?_
    refine lv_iconst (v := (1 : Int32)) hx hb dX3_readNumbers_43 (by decide) ?_
    obtain ⟨r8, S9, qS9, h⟩ := gn_bd2 h
    refine hc_V (rest := [.long r1, .ref q6, .ref q6, .ref (K.2.2.1 7)]) ⟨hx, hb, hml, hown, hts⟩ hN hF hK hP hD hS (c_X3_readNumber l z K _ o (gpush g q6 (0, 0)) _ _ _ r8 S9 qS9) (cwV 2 hts gX3_readNumbers_X3_readNumber rfl rfl rfl (by decide +kernel) ⟨(Nat.le_of_ble_eq_true rfl), (Nat.le_of_ble_eq_true rfl)⟩) (va_recv hK hP (ci := 3) (q0 := 7) rfl rfl) rfl hl.1 rfl (Nat.le_of_ble_eq_true rfl) dX3_readNumbers_44 hcl hsl (fun H locs hP hD hS => ?_)
    have hP : va_P K.1 vwCl (wd K S9 M o (gpush g q6 (0, 0))) H := hP
    have hD : va_D (inA K) (wd K S9 M o (gpush g q6 (0, 0))) := hD
    refine W.eq (g2 := F0 m 47 ls [.long r8, .long r1, .ref q6, .ref q6, .ref (K.2.2.1 7)]) rfl ?_
    obtain ⟨u10, qu10, h⟩ := gn_bd h
    refine fc_I (rest := [.ref q6, .ref (K.2.2.1 7)]) ⟨hx, hb, hml, hown, hts⟩ hN hF hK hP hD hS (c_X1_init l z K _ M o (gpush g q6 (0, 0)) q6 (0, 0) gpush_in _ _ u10 qu10) (cwI 2 hts gX3_readNumbers_X1_init rfl rfl rfl (hts (.initialized RX1) (by decide +kernel)) (hts (.methodLink RX3 26 yX1_init) (by decide +kernel)) (hts (.instanceMethod yX1_init) (by decide +kernel)) rfl (by decide +kernel) ⟨(Nat.le_of_ble_eq_true rfl), (Nat.le_of_ble_eq_true rfl)⟩) rfl hl.1 rfl (Nat.le_of_ble_eq_true rfl) dX3_readNumbers_47 hcl hsl (fun H locs hP hD hS => ?_)
    obtain ⟨g11, eg11⟩ : ∃ y : Gh, y = gset (gpush g q6 (0, 0)) q6 u10 := ⟨_, rfl⟩
    have x12 : Ext g g11 := by rw [eg11]; exact gset_ext fq6
    have mu10 : q6 ∈ g11.2.1 ∧ g11.2.2 q6 = u10 := by rw [eg11]; exact gset_in gpush_in.1
    rw [← eg11] at hP hD
    have hz := Ext.mv x12 hz
    have hE := Ext.tr hE x12
    refine lv_iload_n hx hb dX3_readNumbers_50 rfl (lv_at hl 0 rfl) ?_
    obtain ⟨u13, S14, qu13, h⟩ := gn_bd2 h
    refine fc_V (rest := []) ⟨hx, hb, hml, hown, hts⟩ hN hF hK hP hD hS (c_X3_bounded l z K M o g11 hz q6 u10 mu10 _ _ u13 S14 qu13) (cwV 2 hts gX3_readNumbers_X3_bounded rfl rfl rfl (by decide +kernel) ⟨(Nat.le_of_ble_eq_true rfl), (Nat.le_of_ble_eq_true rfl)⟩) (va_recv hK hP (ci := 3) (q0 := 7) rfl rfl) rfl hl.1 rfl (Nat.le_of_ble_eq_true rfl) dX3_readNumbers_51 ⟨(Nat.le_of_ble_eq_true rfl), (Nat.le_of_ble_eq_true rfl)⟩ (fun bu13 g15 H locs x16 mu13 hp hP hD hS => ?_)
    have hz := Ext.mv x16 hz
    have hE := Ext.tr hE x16
    refine W.widen (k := 1) (n := 2) (Nat.le_of_ble_eq_true rfl) (Nat.le_of_ble_eq_true rfl) ?_
    have hcl : 1 ≤ rm_X3_readNumbers.cells := (Nat.le_of_ble_eq_true rfl)
    have hsl : 2 ≤ rm_X3_readNumbers.slots := (Nat.le_of_ble_eq_true rfl)
    have hP : va_P K.1 vwCl (wd K S14 M o g15) H := hP
    have hD : va_D (inA K) (wd K S14 M o g15) := hD
    obtain ⟨rfl, rfl⟩ := Prod.mk.inj (gn_some h)
    refine W.widen (k := 1) (n := 2) (Nat.le_of_ble_eq_true rfl) (Nat.le_of_ble_eq_true rfl) ?_
    exact W.aret hx hb hr (Or.inl ⟨_, rfl⟩) (Or.inr ⟨_, rfl⟩) (fun t ht _ => ⟨_, _, rfl, hE, mu13, trivial, by rw [ht]; exact hP, hD, hS.F ht⟩) hS.2.2 dX3_readNumbers_54 hlk
  · have h := gn_f h c3
    refine fr_new hx hb hts in_X3_readNumbers_X1 hown (hts (.classLink RX3 24 RX1) (by decide +kernel)) (hts (.instantiable RX1 2) (by decide +kernel)) (hts (.initialized RX1) (by decide +kernel)) hK hP hD hS hbs (Nat.le_of_ble_eq_true rfl) (Nat.le_of_ble_eq_true rfl) dX3_readNumbers_16 (fun q17 H fq17 hP hD hS => ?_)
    have x18 := gpush_ext (v := ((0, 0) : Int64 × Int64)) fq17
    have hzn := Ext.mv x18 hz
    refine W.widen (k := 1) (n := 2) (Nat.le_of_ble_eq_true rfl) (Nat.le_of_ble_eq_true rfl) ?_
    have hcl : 1 ≤ rm_X3_readNumbers.cells := (Nat.le_of_ble_eq_true rfl)
    have hsl : 2 ≤ rm_X3_readNumbers.slots := (Nat.le_of_ble_eq_true rfl)
    refine lv_dup hx hb dX3_readNumbers_19 rfl ?_
    refine lv_lload_n hx hb dX3_readNumbers_20 rfl (lv_at hl 0 rfl) ?_
    refine lv_lconst (v := (1 : Int64)) hx hb dX3_readNumbers_21 (by decide) ?_
    obtain ⟨u19, qu19, h⟩ := gn_bd h
    refine fc_I (rest := [.ref q17]) ⟨hx, hb, hml, hown, hts⟩ hN hF hK hP hD hS (c_X1_init l z K _ M o (gpush g q17 (0, 0)) q17 (0, 0) gpush_in _ _ u19 qu19) (cwI 2 hts gX3_readNumbers_X1_init rfl rfl rfl (hts (.initialized RX1) (by decide +kernel)) (hts (.methodLink RX3 26 yX1_init) (by decide +kernel)) (hts (.instanceMethod yX1_init) (by decide +kernel)) rfl (by decide +kernel) ⟨(Nat.le_of_ble_eq_true rfl), (Nat.le_of_ble_eq_true rfl)⟩) rfl hl.1 rfl (Nat.le_of_ble_eq_true rfl) dX3_readNumbers_22 hcl hsl (fun H locs hP hD hS => ?_)
    obtain ⟨g20, eg20⟩ : ∃ y : Gh, y = gset (gpush g q17 (0, 0)) q17 u19 := ⟨_, rfl⟩
    have x21 : Ext g g20 := by rw [eg20]; exact gset_ext fq17
    have mu19 : q17 ∈ g20.2.1 ∧ g20.2.2 q17 = u19 := by rw [eg20]; exact gset_in gpush_in.1
    rw [← eg20] at hP hD
    have hz := Ext.mv x21 hz
    have hE := Ext.tr hE x21
    obtain ⟨rfl, rfl⟩ := Prod.mk.inj (gn_some h)
    refine W.widen (k := 1) (n := 2) (Nat.le_of_ble_eq_true rfl) (Nat.le_of_ble_eq_true rfl) ?_
    exact W.aret hx hb hr (Or.inl ⟨_, rfl⟩) (Or.inr ⟨_, rfl⟩) (fun t ht _ => ⟨_, _, rfl, hE, mu19, trivial, by rw [ht]; exact hP, hD, hS.F ht⟩) hS.2.2 dX3_readNumbers_25 hlk
theorem in_X3_readBrackets_X3 : ∀ w ∈ wsX30, w ∈ wsX3_readBrackets := fun _ h => List.mem_cons_of_mem _ (List.mem_append_left _ (List.mem_append_left _ (List.mem_append_left _ (List.mem_append_right _ h))))
def rm_X3_readBrackets (d b : Nat) : Room := { frames := 10 * d + 11, cells := b, slots := 2 * b, locals := 400 * d + 440 }
section
variable {p : Program} {l : Launch} {e : Env} {s : State} {m : MethodId} {args : Array Value} {below : List Frame} {meth : Method} {c : Code} {z : Nat} {K : Ev} {M : MS} {o : Nat → Int64} {g : Gh} {n0 : Nat}
end
set_option maxRecDepth 100000 in
theorem c_X3_readBrackets (l : Launch) (z : Nat) (K : Ev) (M : MS) (o : Nat → Int64) (g : Gh) (fs : (Nat → Int32 → CS → Option ((Int64 × Int64) × CS × Nat))) (d : Nat) (hfs : ∀ (g : Gh) (n : Nat) (a : Int32) (S : CS) (v : Int64 × Int64) (S' : CS) (n' : Nat), (K.2.2.1 18 ∈ g.2.1 ∧ g.2.2 (K.2.2.1 18) = (0, 1)) → n ≤ 620 → fs n a S = some (v, S', n') → Met l yX3_readSum wsX3_readSum (rm_X3_readSum d (620 - n)) (qH K [.ref (K.2.2.1 7), .int a] S M o g) (qF K v S' M o g (n ≤ n' ∧ n' ≤ 620)) (n' - n) (2 * (n' - n)) (inA K)) (hz : K.2.2.1 18 ∈ g.2.1 ∧ g.2.2 (K.2.2.1 18) = (0, 1)) (n0 : Nat) (hnn : n0 ≤ 620) (a0 : Int32) (S : CS) (r : (Int64 × Int64)) (S' : CS) (n' : Nat) (h : F_X3_readBrackets z fs n0 a0 S = some (r, S', n')) : Met l yX3_readBrackets wsX3_readBrackets (rm_X3_readBrackets d (620 - n0)) (qH K [.ref (K.2.2.1 7), .int a0] S M o g) (qF K r S' M o g (n0 ≤ n' ∧ n' ≤ 620)) (n' - n0) (2 * (n' - n0)) (inA K) := by
  refine Met.ofW (cc := cX3_readBrackets) (maxL := 3) (ret := (some (.object "SawSums$Fraction"))) (by decide) rfl ?_
  intro p e s m args below meth c s₁ B hml hv
  obtain ⟨rfl, hN, hP, hK, hD, hF⟩ := hv
  have hx := B.exec
  have hb := B.bytes
  have hr := B.returns
  have hts := atoms_spec (ws := wsX3_readBrackets) B.pre
  have hown : s.vm.findClass RX3 = some m.cls := findClass_of_methodNamed B.named
  have hlk := B.notSynchronized
  have hbs := wd_bs hP hD
  have hE : Ext g g := Ext.rf
  have hnn0 : n0 ≤ n0 ∧ n0 ≤ 620 := ⟨Nat.le_refl _, hnn⟩
  have hnn := hnn0
  have Cc : Cx p s m _ meth c cX3_readBrackets 3 RX3 wsX3_readBrackets (some (.object "SawSums$Fraction")) := ⟨hx, hb, hml, hown, hts, hr, hlk, hN⟩
  have hS : va_S (inA K) s.heap s.heap [] := va_S.rf
  have hl := lv_entry ([.ref (K.2.2.1 7), .int a0]) (n := 3) (Nat.le_of_ble_eq_true rfl)
  rw [lg_entry_eq]
  generalize (lg_sl ([.ref (K.2.2.1 7), .int a0]) ++ List.replicate (3 - (lg_sl ([.ref (K.2.2.1 7), .int a0])).length) Slot.unset).toArray = ls at hl ⊢
  have hl : lv_has ls 3 [(0, .ref (K.2.2.1 7)), (1, .int a0)] := hl
  rw [F_X3_readBrackets] at h
  refine W.widen (k := (n0 - n0)) (n := 2 * (n0 - n0)) (by omega) (by omega) ?_
  have hnn0 := hnn0
  have hcl : (n0 - n0) ≤ (rm_X3_readBrackets d (620 - n0)).cells := (show (n0 - n0) ≤ 620 - n0 by omega)
  have hsl : 2 * (n0 - n0) ≤ (rm_X3_readBrackets d (620 - n0)).slots := (show 2 * (n0 - n0) ≤ 2 * (620 - n0) by omega)
  refine lv_aload_n hx hb dX3_readBrackets_0 rfl (lv_at hl 0 rfl) ?_
  refine lv_iload_n hx hb dX3_readBrackets_1 rfl (lv_at hl 1 rfl) ?_
  obtain ⟨r1, S2, qS2, h⟩ := gn_bd2 h
  refine hc_V (rest := []) ⟨hx, hb, hml, hown, hts⟩ hN hF hK hP hD hS (c_X3_goesIn l z K _ o g _ _ r1 S2 qS2) (cwV 1 hts gX3_readBrackets_X3_goesIn rfl rfl rfl (by decide +kernel) ⟨(show 3 + 1 ≤ 10 * d + 11 by omega), (show 8 + (2 + 11) + 63 ≤ 400 * d + 440 by omega)⟩) (va_recv hK hP (ci := 3) (q0 := 7) rfl rfl) rfl hl.1 rfl (Nat.le_of_ble_eq_true rfl) dX3_readBrackets_2 hcl hsl (fun H locs hP hD hS => ?_)
  have hP : va_P K.1 vwCl (wd K S2 M o g) H := hP
  have hD : va_D (inA K) (wd K S2 M o g) := hD
  refine W.eq (g2 := F0 m 5 ls [.int r1]) rfl ?_
  refine lv_if_ne (tgt := 13) hx hb dX3_readBrackets_5 (by decide) (fun c3 => ?_) (fun c3 => ?_)
  · have h := gn_f h c3
    refine lv_aload_n hx hb dX3_readBrackets_13 rfl (lv_at hl 0 rfl) ?_
    refine lv_iload_n hx hb dX3_readBrackets_14 rfl (lv_at hl 1 rfl) ?_
    refine lv_iconst (v := (1 : Int32)) hx hb dX3_readBrackets_15 (by decide) ?_
    refine lv_iadd hx hb dX3_readBrackets_16 ?_
    obtain ⟨u4, S5, n6, qu4, h⟩ := gn_bd3 h
    refine fc_V (rest := []) ⟨hx, hb, hml, hown, hts⟩ hN hF hK hP hD hS (hfs g n0 _ _ u4 S5 n6 hz hnn0.2 qu4) (cwV 1 hts gX3_readBrackets_X3_readSum rfl rfl rfl (by decide +kernel) ⟨(show (10 * d + 10) + 1 ≤ 10 * d + 11 by omega), (show 8 + (7 + 11) + (400 * d + 400) ≤ 400 * d + 440 by omega)⟩) (va_recv hK hP (ci := 3) (q0 := 7) rfl rfl) rfl hl.1 rfl (Nat.le_of_ble_eq_true rfl) dX3_readBrackets_17 ⟨(show (n0 - n0) + (620 - n0) ≤ 620 - n0 by omega), (show 2 * (n0 - n0) + 2 * (620 - n0) ≤ 2 * (620 - n0) by omega)⟩ (fun bu4 g7 H locs x8 mu4 hp hP hD hS => ?_)
    have hz := Ext.mv x8 hz
    have hE := Ext.tr hE x8
    have hnn6 : n0 ≤ n6 ∧ n6 ≤ 620 := ⟨by omega, hp.2⟩
    have hp1 := hp.1
    refine W.widen (k := (n6 - n0)) (n := 2 * (n6 - n0)) (by omega) (by omega) ?_
    have hcl : (n6 - n0) ≤ (rm_X3_readBrackets d (620 - n0)).cells := (show (n6 - n0) ≤ 620 - n0 by omega)
    have hsl : 2 * (n6 - n0) ≤ (rm_X3_readBrackets d (620 - n0)).slots := (show 2 * (n6 - n0) ≤ 2 * (620 - n0) by omega)
    have hP : va_P K.1 vwCl (wd K S5 M o g7) H := hP
    have hD : va_D (inA K) (wd K S5 M o g7) := hD
    refine lv_astore_n (lv' := [(2, .ref bu4), (0, .ref (K.2.2.1 7)), (1, .int a0)]) hx hb dX3_readBrackets_20 rfl hl (by decide) rfl (fun ls hl => ?_)
    refine lv_aload_n hx hb dX3_readBrackets_21 rfl (lv_at hl 1 rfl) ?_
    refine lv_bipush (v := (41 : Int32)) hx hb dX3_readBrackets_22 (by decide) ?_
    obtain ⟨S9, qS9, h⟩ := gn_bd h
    refine hc_V (rest := []) ⟨hx, hb, hml, hown, hts⟩ hN hF hK hP hD hS (c_X3_pass l z K _ o g7 _ _  S9 qS9) (cwV 1 hts gX3_readBrackets_X3_pass rfl rfl rfl (by decide +kernel) ⟨(show 2 + 1 ≤ 10 * d + 11 by omega), (show 8 + (2 + 11) + 42 ≤ 400 * d + 440 by omega)⟩) (va_recv hK hP (ci := 3) (q0 := 7) rfl rfl) rfl hl.1 rfl (Nat.le_of_ble_eq_true rfl) dX3_readBrackets_24 hcl hsl (fun H locs hP hD hS => ?_)
    have hP : va_P K.1 vwCl (wd K S9 M o g7) H := hP
    have hD : va_D (inA K) (wd K S9 M o g7) := hD
    refine W.eq (g2 := F0 m 27 ls []) rfl ?_
    refine lv_aload_n hx hb dX3_readBrackets_27 rfl (lv_at hl 0 rfl) ?_
    obtain ⟨rfl, h8⟩ := Prod.mk.inj (gn_some h)
    obtain ⟨rfl, rfl⟩ := Prod.mk.inj h8
    exact W.aret hx hb hr (Or.inl ⟨_, rfl⟩) (Or.inr ⟨_, rfl⟩) (fun t ht _ => ⟨_, _, rfl, hE, mu4, hnn6, by rw [ht]; exact hP, hD, hS.F ht⟩) hS.2.2 dX3_readBrackets_28 hlk
  · have h := gn_t h c3
    refine lv_aload_n hx hb dX3_readBrackets_8 rfl (lv_at hl 0 rfl) ?_
    refine va_get (D := K.1) (ci := 3) (v := .ref (K.2.2.1 18)) (C := RX3) (T := TX3) (N := 8) hx hb hts in_X3_readBrackets_X3 hown hK hP 7 rfl rfl 2 (by decide) (hts (.fieldLink RX3 29 "SawSums$Reader" "zero" "LSawSums$Fraction;") (by decide +kernel)) (fun _ h9 => h9) rfl dX3_readBrackets_9 ?_
    obtain ⟨rfl, h8⟩ := Prod.mk.inj (gn_some h)
    obtain ⟨rfl, rfl⟩ := Prod.mk.inj h8
    exact W.aret hx hb hr (Or.inl ⟨_, rfl⟩) (Or.inr ⟨_, rfl⟩) (fun t ht _ => ⟨_, _, rfl, hE, hz, hnn0, by rw [ht]; exact hP, hD, hS.F ht⟩) hS.2.2 dX3_readBrackets_12 hlk
theorem in_X3_readUnit_X1 : ∀ w ∈ wsX10, w ∈ wsX3_readUnit := fun _ h => List.mem_cons_of_mem _ (List.mem_append_left _ (List.mem_append_right _ h))
theorem in_X3_readUnit_X3 : ∀ w ∈ wsX30, w ∈ wsX3_readUnit := fun _ h => List.mem_cons_of_mem _ (List.mem_append_left _ (List.mem_append_left _ (List.mem_append_left _ (List.mem_append_right _ h))))
def rm_X3_readUnit (d b : Nat) : Room := { frames := 10 * d + 12, cells := b, slots := 2 * b, locals := 400 * d + 480 }
section
variable {p : Program} {l : Launch} {e : Env} {s : State} {m : MethodId} {args : Array Value} {below : List Frame} {meth : Method} {c : Code} {z : Nat} {K : Ev} {M : MS} {o : Nat → Int64} {g : Gh} {n0 : Nat}
end
set_option maxRecDepth 100000 in
theorem c_X3_readUnit (l : Launch) (z : Nat) (K : Ev) (M : MS) (o : Nat → Int64) (g : Gh) (fs : (Nat → Int32 → CS → Option ((Int64 × Int64) × CS × Nat))) (d : Nat) (hfs : ∀ (g : Gh) (n : Nat) (a : Int32) (S : CS) (v : Int64 × Int64) (S' : CS) (n' : Nat), (K.2.2.1 18 ∈ g.2.1 ∧ g.2.2 (K.2.2.1 18) = (0, 1)) → n ≤ 620 → fs n a S = some (v, S', n') → Met l yX3_readSum wsX3_readSum (rm_X3_readSum d (620 - n)) (qH K [.ref (K.2.2.1 7), .int a] S M o g) (qF K v S' M o g (n ≤ n' ∧ n' ≤ 620)) (n' - n) (2 * (n' - n)) (inA K)) (hz : K.2.2.1 18 ∈ g.2.1 ∧ g.2.2 (K.2.2.1 18) = (0, 1)) (n0 : Nat) (hnn : n0 ≤ 620) (a0 : Int32) (S : CS) (r : (Int64 × Int64)) (S' : CS) (n' : Nat) (h : F_X3_readUnit z fs n0 a0 S = some (r, S', n')) : Met l yX3_readUnit wsX3_readUnit (rm_X3_readUnit d (620 - n0)) (qH K [.ref (K.2.2.1 7), .int a0] S M o g) (qF K r S' M o g (n0 ≤ n' ∧ n' ≤ 620)) (n' - n0) (2 * (n' - n0)) (inA K) := by
  refine Met.ofW (cc := cX3_readUnit) (maxL := 3) (ret := (some (.object "SawSums$Fraction"))) (by decide) rfl ?_
  intro p e s m args below meth c s₁ B hml hv
  obtain ⟨rfl, hN, hP, hK, hD, hF⟩ := hv
  have hx := B.exec
  have hb := B.bytes
  have hr := B.returns
  have hts := atoms_spec (ws := wsX3_readUnit) B.pre
  have hown : s.vm.findClass RX3 = some m.cls := findClass_of_methodNamed B.named
  have hlk := B.notSynchronized
  have hbs := wd_bs hP hD
  have hE : Ext g g := Ext.rf
  have hnn0 : n0 ≤ n0 ∧ n0 ≤ 620 := ⟨Nat.le_refl _, hnn⟩
  have hnn := hnn0
  have Cc : Cx p s m _ meth c cX3_readUnit 3 RX3 wsX3_readUnit (some (.object "SawSums$Fraction")) := ⟨hx, hb, hml, hown, hts, hr, hlk, hN⟩
  have hS : va_S (inA K) s.heap s.heap [] := va_S.rf
  have hl := lv_entry ([.ref (K.2.2.1 7), .int a0]) (n := 3) (Nat.le_of_ble_eq_true rfl)
  rw [lg_entry_eq]
  generalize (lg_sl ([.ref (K.2.2.1 7), .int a0]) ++ List.replicate (3 - (lg_sl ([.ref (K.2.2.1 7), .int a0])).length) Slot.unset).toArray = ls at hl ⊢
  have hl : lv_has ls 3 [(0, .ref (K.2.2.1 7)), (1, .int a0)] := hl
  rw [F_X3_readUnit] at h
  refine W.widen (k := (n0 - n0)) (n := 2 * (n0 - n0)) (by omega) (by omega) ?_
  have hnn0 := hnn0
  have hcl : (n0 - n0) ≤ (rm_X3_readUnit d (620 - n0)).cells := (show (n0 - n0) ≤ 620 - n0 by omega)
  have hsl : 2 * (n0 - n0) ≤ (rm_X3_readUnit d (620 - n0)).slots := (show 2 * (n0 - n0) ≤ 2 * (620 - n0) by omega)
  refine lv_aload_n hx hb dX3_readUnit_0 rfl (lv_at hl 0 rfl) ?_
  refine va_get (D := K.1) (ci := 3) (v := .int (cg_at S)) (C := RX3) (T := TX3) (N := 8) hx hb hts in_X3_readUnit_X3 hown hK hP 7 rfl rfl 3 (by decide) (hts (.fieldLink RX3 33 "SawSums$Reader" "at" "I") (by decide +kernel)) (fun _ h9 => h9) rfl dX3_readUnit_1 ?_
  obtain ⟨v1, ev1, h⟩ := gn_nm h
  refine ln_i ev1 ?_
  refine lv_istore_n (lv' := [(2, .int v1), (0, .ref (K.2.2.1 7)), (1, .int a0)]) hx hb dX3_readUnit_4 rfl hl (by decide) rfl (fun ls hl => ?_)
  refine lv_aload_n hx hb dX3_readUnit_5 rfl (lv_at hl 1 rfl) ?_
  refine va_get (D := K.1) (ci := 3) (v := .int (cg_token S)) (C := RX3) (T := TX3) (N := 8) hx hb hts in_X3_readUnit_X3 hown hK hP 7 rfl rfl 4 (by decide) (hts (.fieldLink RX3 37 "SawSums$Reader" "token" "I") (by decide +kernel)) (fun _ h9 => h9) rfl dX3_readUnit_6 ?_
  by_cases c2 : (cg_token S) = (-5 : Int32)
  · have h := gn_t h c2
    refine lv_lookup (off := 89) (tgt := 98) hx hb dX3_readUnit_9 (by decide) (by rw [c2]; rfl) (by decide) ?_
    refine lv_aload_n hx hb dX3_readUnit_98 rfl (lv_at hl 1 rfl) ?_
    obtain ⟨S3, qS3, h⟩ := gn_bd h
    refine hc_V (rest := []) ⟨hx, hb, hml, hown, hts⟩ hN hF hK hP hD hS (c_X3_advance l z K _ o g  _  S3 qS3) (cwV 0 hts gX3_readUnit_X3_advance rfl rfl rfl (by decide +kernel) ⟨(show 1 + 1 ≤ 10 * d + 12 by omega), (show 8 + (1 + 11) + 21 ≤ 400 * d + 480 by omega)⟩) (va_recv hK hP (ci := 3) (q0 := 7) rfl rfl) rfl hl.1 rfl (Nat.le_of_ble_eq_true rfl) dX3_readUnit_99 hcl hsl (fun H locs hP hD hS => ?_)
    have hP : va_P K.1 vwCl (wd K S3 M o g) H := hP
    have hD : va_D (inA K) (wd K S3 M o g) := hD
    refine W.eq (g2 := F0 m 102 ls []) rfl ?_
    refine lv_aload_n hx hb dX3_readUnit_102 rfl (lv_at hl 1 rfl) ?_
    obtain ⟨n4, h⟩ := gn_yz h
    refine fr_new hx hb hts in_X3_readUnit_X1 hown (hts (.classLink RX3 24 RX1) (by decide +kernel)) (hts (.instantiable RX1 2) (by decide +kernel)) (hts (.initialized RX1) (by decide +kernel)) hK hP hD hS hbs (show (n0 - n0) + 1 ≤ 620 - n0 by omega) (show 2 * (n0 - n0) + 2 ≤ 2 * (620 - n0) by omega) dX3_readUnit_103 (fun q5 H fq5 hP hD hS => ?_)
    have x6 := gpush_ext (v := ((0, 0) : Int64 × Int64)) fq5
    have hzn := Ext.mv x6 hz
    obtain ⟨n7, en7, h⟩ := gn_nm h
    have hnn7 : n0 ≤ n7 ∧ n7 ≤ 620 := ⟨by omega, by omega⟩
    refine W.widen (k := (n7 - n0)) (n := 2 * (n7 - n0)) (by omega) (by omega) ?_
    have hcl : (n7 - n0) ≤ (rm_X3_readUnit d (620 - n0)).cells := (show (n7 - n0) ≤ 620 - n0 by omega)
    have hsl : 2 * (n7 - n0) ≤ (rm_X3_readUnit d (620 - n0)).slots := (show 2 * (n7 - n0) ≤ 2 * (620 - n0) by omega)
    refine lv_dup hx hb dX3_readUnit_106 rfl ?_
    refine lv_aload_n hx hb dX3_readUnit_107 rfl (lv_at hl 1 rfl) ?_
    refine va_get (D := K.1) (ci := 3) (v := .ref (K.2.2.1 1)) (C := RX3) (T := TX3) (N := 8) hx hb hts in_X3_readUnit_X3 hown hK hP 7 rfl rfl 1 (by decide) (hts (.fieldLink RX3 20 "SawSums$Reader" "matrix" "LSawSums$Matrix;") (by decide +kernel)) (fun _ h9 => h9) rfl dX3_readUnit_108 ?_
    obtain ⟨r8, S9, qS9, h⟩ := gn_bd2 h
    refine hc_V (rest := [.ref q5, .ref q5, .ref (K.2.2.1 7)]) ⟨hx, hb, hml, hown, hts⟩ hN hF hK hP hD hS (c_X2_companion l z K _ o (gpush g q5 (0, 0))  _ r8 S9 qS9) (cwV 0 hts gX3_readUnit_X2_companion rfl rfl rfl (by decide +kernel) ⟨(show 2 + 1 ≤ 10 * d + 12 by omega), (show 8 + (5 + 11) + 69 ≤ 400 * d + 480 by omega)⟩) (va_recv hK hP (ci := 2) (q0 := 1) rfl rfl) rfl hl.1 rfl (Nat.le_of_ble_eq_true rfl) dX3_readUnit_111 hcl hsl (fun H locs hP hD hS => ?_)
    have hP : va_P K.1 vwCl (wd K S9 M o (gpush g q5 (0, 0))) H := hP
    have hD : va_D (inA K) (wd K S9 M o (gpush g q5 (0, 0))) := hD
    refine W.eq (g2 := F0 m 114 ls [.long r8, .ref q5, .ref q5, .ref (K.2.2.1 7)]) rfl ?_
    refine lv_lconst (v := (1 : Int64)) hx hb dX3_readUnit_114 (by decide) ?_
    obtain ⟨u10, qu10, h⟩ := gn_bd h
    refine fc_I (rest := [.ref q5, .ref (K.2.2.1 7)]) ⟨hx, hb, hml, hown, hts⟩ hN hF hK hP hD hS (c_X1_init l z K _ M o (gpush g q5 (0, 0)) q5 (0, 0) gpush_in _ _ u10 qu10) (cwI 2 hts gX3_readUnit_X1_init rfl rfl rfl (hts (.initialized RX1) (by decide +kernel)) (hts (.methodLink RX3 26 yX1_init) (by decide +kernel)) (hts (.instanceMethod yX1_init) (by decide +kernel)) rfl (by decide +kernel) ⟨(show 2 + 1 ≤ 10 * d + 12 by omega), (show 8 + (7 + 11) + 60 ≤ 400 * d + 480 by omega)⟩) rfl hl.1 rfl (Nat.le_of_ble_eq_true rfl) dX3_readUnit_115 hcl hsl (fun H locs hP hD hS => ?_)
    obtain ⟨g11, eg11⟩ : ∃ y : Gh, y = gset (gpush g q5 (0, 0)) q5 u10 := ⟨_, rfl⟩
    have x12 : Ext g g11 := by rw [eg11]; exact gset_ext fq5
    have mu10 : q5 ∈ g11.2.1 ∧ g11.2.2 q5 = u10 := by rw [eg11]; exact gset_in gpush_in.1
    rw [← eg11] at hP hD
    have hz := Ext.mv x12 hz
    have hE := Ext.tr hE x12
    refine lv_iload_n hx hb dX3_readUnit_118 rfl (lv_at hl 0 rfl) ?_
    obtain ⟨u13, S14, qu13, h⟩ := gn_bd2 h
    refine fc_V (rest := []) ⟨hx, hb, hml, hown, hts⟩ hN hF hK hP hD hS (c_X3_bounded l z K M o g11 hz q5 u10 mu10 _ _ u13 S14 qu13) (cwV 2 hts gX3_readUnit_X3_bounded rfl rfl rfl (by decide +kernel) ⟨(show 2 + 1 ≤ 10 * d + 12 by omega), (show 8 + (3 + 11) + 46 ≤ 400 * d + 480 by omega)⟩) (va_recv hK hP (ci := 3) (q0 := 7) rfl rfl) rfl hl.1 rfl (Nat.le_of_ble_eq_true rfl) dX3_readUnit_119 ⟨(show (n7 - n0) + 0 ≤ 620 - n0 by omega), (show 2 * (n7 - n0) + 0 ≤ 2 * (620 - n0) by omega)⟩ (fun bu13 g15 H locs x16 mu13 hp hP hD hS => ?_)
    have hz := Ext.mv x16 hz
    have hE := Ext.tr hE x16
    refine W.widen (k := (n7 - n0)) (n := 2 * (n7 - n0)) (by omega) (by omega) ?_
    have hcl : (n7 - n0) ≤ (rm_X3_readUnit d (620 - n0)).cells := (show (n7 - n0) ≤ 620 - n0 by omega)
    have hsl : 2 * (n7 - n0) ≤ (rm_X3_readUnit d (620 - n0)).slots := (show 2 * (n7 - n0) ≤ 2 * (620 - n0) by omega)
    have hP : va_P K.1 vwCl (wd K S14 M o g15) H := hP
    have hD : va_D (inA K) (wd K S14 M o g15) := hD
    obtain ⟨rfl, h8⟩ := Prod.mk.inj (gn_some h)
    obtain ⟨rfl, rfl⟩ := Prod.mk.inj h8
    exact W.aret hx hb hr (Or.inl ⟨_, rfl⟩) (Or.inr ⟨_, rfl⟩) (fun t ht _ => ⟨_, _, rfl, hE, mu13, hnn7, by rw [ht]; exact hP, hD, hS.F ht⟩) hS.2.2 dX3_readUnit_122 hlk
  have h := gn_f h c2
  by_cases c17 : (cg_token S) = (-4 : Int32)
  · have h := gn_t h c17
    refine lv_lookup (off := 74) (tgt := 83) hx hb dX3_readUnit_9 (by decide) (by rw [c17]; rfl) (by decide) ?_
    refine lv_aload_n hx hb dX3_readUnit_83 rfl (lv_at hl 1 rfl) ?_
    obtain ⟨S18, qS18, h⟩ := gn_bd h
    refine hc_V (rest := []) ⟨hx, hb, hml, hown, hts⟩ hN hF hK hP hD hS (c_X3_advance l z K _ o g  _  S18 qS18) (cwV 0 hts gX3_readUnit_X3_advance rfl rfl rfl (by decide +kernel) ⟨(show 1 + 1 ≤ 10 * d + 12 by omega), (show 8 + (1 + 11) + 21 ≤ 400 * d + 480 by omega)⟩) (va_recv hK hP (ci := 3) (q0 := 7) rfl rfl) rfl hl.1 rfl (Nat.le_of_ble_eq_true rfl) dX3_readUnit_84 hcl hsl (fun H locs hP hD hS => ?_)
    have hP : va_P K.1 vwCl (wd K S18 M o g) H := hP
    have hD : va_D (inA K) (wd K S18 M o g) := hD
    refine W.eq (g2 := F0 m 87 ls []) rfl ?_
    refine lv_aload_n hx hb dX3_readUnit_87 rfl (lv_at hl 1 rfl) ?_
    refine lv_aload_n hx hb dX3_readUnit_88 rfl (lv_at hl 1 rfl) ?_
    refine lv_iload_n hx hb dX3_readUnit_89 rfl (lv_at hl 2 rfl) ?_
    obtain ⟨n19, h⟩ := gn_yz h
    obtain ⟨u20, S21, qu20, h⟩ := gn_bd2 h
    refine fc_V (rest := [.ref (K.2.2.1 7)]) ⟨hx, hb, hml, hown, hts⟩ hN hF hK hP hD hS (c_X3_readSawSum l z K M o g hz _ _ u20 S21 qu20) (cwV 1 hts gX3_readUnit_X3_readSawSum rfl rfl rfl (by decide +kernel) ⟨(show 4 + 1 ≤ 10 * d + 12 by omega), (show 8 + (6 + 11) + 109 ≤ 400 * d + 480 by omega)⟩) (va_recv hK hP (ci := 3) (q0 := 7) rfl rfl) rfl hl.1 rfl (Nat.le_of_ble_eq_true rfl) dX3_readUnit_90 ⟨(show (n0 - n0) + 1 ≤ 620 - n0 by omega), (show 2 * (n0 - n0) + 2 ≤ 2 * (620 - n0) by omega)⟩ (fun bu20 g22 H locs x23 mu20 hp hP hD hS => ?_)
    have hz := Ext.mv x23 hz
    have hE := Ext.tr hE x23
    obtain ⟨n24, en24, h⟩ := gn_nm h
    have hnn24 : n0 ≤ n24 ∧ n24 ≤ 620 := ⟨by omega, by omega⟩
    refine W.widen (k := (n24 - n0)) (n := 2 * (n24 - n0)) (by omega) (by omega) ?_
    have hcl : (n24 - n0) ≤ (rm_X3_readUnit d (620 - n0)).cells := (show (n24 - n0) ≤ 620 - n0 by omega)
    have hsl : 2 * (n24 - n0) ≤ (rm_X3_readUnit d (620 - n0)).slots := (show 2 * (n24 - n0) ≤ 2 * (620 - n0) by omega)
    have hP : va_P K.1 vwCl (wd K S21 M o g22) H := hP
    have hD : va_D (inA K) (wd K S21 M o g22) := hD
    refine lv_iload_n hx hb dX3_readUnit_93 rfl (lv_at hl 0 rfl) ?_
    obtain ⟨u25, S26, qu25, h⟩ := gn_bd2 h
    refine fc_V (rest := []) ⟨hx, hb, hml, hown, hts⟩ hN hF hK hP hD hS (c_X3_bounded l z K M o g22 hz bu20 u20 mu20 _ _ u25 S26 qu25) (cwV 2 hts gX3_readUnit_X3_bounded rfl rfl rfl (by decide +kernel) ⟨(show 2 + 1 ≤ 10 * d + 12 by omega), (show 8 + (3 + 11) + 46 ≤ 400 * d + 480 by omega)⟩) (va_recv hK hP (ci := 3) (q0 := 7) rfl rfl) rfl hl.1 rfl (Nat.le_of_ble_eq_true rfl) dX3_readUnit_94 ⟨(show (n24 - n0) + 0 ≤ 620 - n0 by omega), (show 2 * (n24 - n0) + 0 ≤ 2 * (620 - n0) by omega)⟩ (fun bu25 g27 H locs x28 mu25 hp hP hD hS => ?_)
    have hz := Ext.mv x28 hz
    have hE := Ext.tr hE x28
    refine W.widen (k := (n24 - n0)) (n := 2 * (n24 - n0)) (by omega) (by omega) ?_
    have hcl : (n24 - n0) ≤ (rm_X3_readUnit d (620 - n0)).cells := (show (n24 - n0) ≤ 620 - n0 by omega)
    have hsl : 2 * (n24 - n0) ≤ (rm_X3_readUnit d (620 - n0)).slots := (show 2 * (n24 - n0) ≤ 2 * (620 - n0) by omega)
    have hP : va_P K.1 vwCl (wd K S26 M o g27) H := hP
    have hD : va_D (inA K) (wd K S26 M o g27) := hD
    obtain ⟨rfl, h8⟩ := Prod.mk.inj (gn_some h)
    obtain ⟨rfl, rfl⟩ := Prod.mk.inj h8
    exact W.aret hx hb hr (Or.inl ⟨_, rfl⟩) (Or.inr ⟨_, rfl⟩) (fun t ht _ => ⟨_, _, rfl, hE, mu25, hnn24, by rw [ht]; exact hP, hD, hS.F ht⟩) hS.2.2 dX3_readUnit_97 hlk
  have h := gn_f h c17
  by_cases c29 : (cg_token S) = (-3 : Int32)
  · have h := gn_t h c29
    refine lv_lookup (off := 56) (tgt := 65) hx hb dX3_readUnit_9 (by decide) (by rw [c29]; rfl) (by decide) ?_
    refine lv_aload_n hx hb dX3_readUnit_65 rfl (lv_at hl 1 rfl) ?_
    obtain ⟨S30, qS30, h⟩ := gn_bd h
    refine hc_V (rest := []) ⟨hx, hb, hml, hown, hts⟩ hN hF hK hP hD hS (c_X3_advance l z K _ o g  _  S30 qS30) (cwV 0 hts gX3_readUnit_X3_advance rfl rfl rfl (by decide +kernel) ⟨(show 1 + 1 ≤ 10 * d + 12 by omega), (show 8 + (1 + 11) + 21 ≤ 400 * d + 480 by omega)⟩) (va_recv hK hP (ci := 3) (q0 := 7) rfl rfl) rfl hl.1 rfl (Nat.le_of_ble_eq_true rfl) dX3_readUnit_66 hcl hsl (fun H locs hP hD hS => ?_)
    have hP : va_P K.1 vwCl (wd K S30 M o g) H := hP
    have hD : va_D (inA K) (wd K S30 M o g) := hD
    refine W.eq (g2 := F0 m 69 ls []) rfl ?_
    refine lv_aload_n hx hb dX3_readUnit_69 rfl (lv_at hl 1 rfl) ?_
    refine lv_aload_n hx hb dX3_readUnit_70 rfl (lv_at hl 1 rfl) ?_
    refine lv_iload_n hx hb dX3_readUnit_71 rfl (lv_at hl 2 rfl) ?_
    obtain ⟨u31, S32, n33, qu31, h⟩ := gn_bd3 h
    refine fc_V (rest := [.ref (K.2.2.1 7)]) ⟨hx, hb, hml, hown, hts⟩ hN hF hK hP hD hS (c_X3_readBrackets l z K M o g fs d hfs hz n0 hnn0.2 _ _ u31 S32 n33 qu31) (cwV 1 hts gX3_readUnit_X3_readBrackets rfl rfl rfl (by decide +kernel) ⟨(show (10 * d + 11) + 1 ≤ 10 * d + 12 by omega), (show 8 + (3 + 11) + (400 * d + 440) ≤ 400 * d + 480 by omega)⟩) (va_recv hK hP (ci := 3) (q0 := 7) rfl rfl) rfl hl.1 rfl (Nat.le_of_ble_eq_true rfl) dX3_readUnit_72 ⟨(show (n0 - n0) + (620 - n0) ≤ 620 - n0 by omega), (show 2 * (n0 - n0) + 2 * (620 - n0) ≤ 2 * (620 - n0) by omega)⟩ (fun bu31 g34 H locs x35 mu31 hp hP hD hS => ?_)
    have hz := Ext.mv x35 hz
    have hE := Ext.tr hE x35
    have hnn33 : n0 ≤ n33 ∧ n33 ≤ 620 := ⟨by omega, hp.2⟩
    have hp1 := hp.1
    refine W.widen (k := (n33 - n0)) (n := 2 * (n33 - n0)) (by omega) (by omega) ?_
    have hcl : (n33 - n0) ≤ (rm_X3_readUnit d (620 - n0)).cells := (show (n33 - n0) ≤ 620 - n0 by omega)
    have hsl : 2 * (n33 - n0) ≤ (rm_X3_readUnit d (620 - n0)).slots := (show 2 * (n33 - n0) ≤ 2 * (620 - n0) by omega)
    have hP : va_P K.1 vwCl (wd K S32 M o g34) H := hP
    have hD : va_D (inA K) (wd K S32 M o g34) := hD
    obtain ⟨n36, h⟩ := gn_yz h
    obtain ⟨u37, qu37, h⟩ := gn_bd h
    refine fc_V (rest := [.ref (K.2.2.1 7)]) ⟨hx, hb, hml, hown, hts⟩ hN hF hK hP hD hS (c_X1_sawOf l z K _ M o g34 hz bu31 u31 mu31 u37 qu37) (cwV 0 hts gX3_readUnit_X1_sawOf rfl rfl rfl (by decide +kernel) ⟨(show 3 + 1 ≤ 10 * d + 12 by omega), (show 8 + (1 + 11) + 86 ≤ 400 * d + 480 by omega)⟩) (fr_recv hK hP mu31) rfl hl.1 rfl (Nat.le_of_ble_eq_true rfl) dX3_readUnit_75 ⟨(show (n33 - n0) + 1 ≤ 620 - n0 by omega), (show 2 * (n33 - n0) + 2 ≤ 2 * (620 - n0) by omega)⟩ (fun bu37 g38 H locs x39 mu37 hp hP hD hS => ?_)
    have hz := Ext.mv x39 hz
    have hE := Ext.tr hE x39
    obtain ⟨n40, en40, h⟩ := gn_nm h
    have hnn40 : n0 ≤ n40 ∧ n40 ≤ 620 := ⟨by omega, by omega⟩
    refine W.widen (k := (n40 - n0)) (n := 2 * (n40 - n0)) (by omega) (by omega) ?_
    have hcl : (n40 - n0) ≤ (rm_X3_readUnit d (620 - n0)).cells := (show (n40 - n0) ≤ 620 - n0 by omega)
    have hsl : 2 * (n40 - n0) ≤ (rm_X3_readUnit d (620 - n0)).slots := (show 2 * (n40 - n0) ≤ 2 * (620 - n0) by omega)
    have hP : va_P K.1 vwCl (wd K S32 M o g38) H := hP
    have hD : va_D (inA K) (wd K S32 M o g38) := hD
    refine lv_iload_n hx hb dX3_readUnit_78 rfl (lv_at hl 0 rfl) ?_
    obtain ⟨u41, S42, qu41, h⟩ := gn_bd2 h
    refine fc_V (rest := []) ⟨hx, hb, hml, hown, hts⟩ hN hF hK hP hD hS (c_X3_bounded l z K M o g38 hz bu37 u37 mu37 _ _ u41 S42 qu41) (cwV 2 hts gX3_readUnit_X3_bounded rfl rfl rfl (by decide +kernel) ⟨(show 2 + 1 ≤ 10 * d + 12 by omega), (show 8 + (3 + 11) + 46 ≤ 400 * d + 480 by omega)⟩) (va_recv hK hP (ci := 3) (q0 := 7) rfl rfl) rfl hl.1 rfl (Nat.le_of_ble_eq_true rfl) dX3_readUnit_79 ⟨(show (n40 - n0) + 0 ≤ 620 - n0 by omega), (show 2 * (n40 - n0) + 0 ≤ 2 * (620 - n0) by omega)⟩ (fun bu41 g43 H locs x44 mu41 hp hP hD hS => ?_)
    have hz := Ext.mv x44 hz
    have hE := Ext.tr hE x44
    refine W.widen (k := (n40 - n0)) (n := 2 * (n40 - n0)) (by omega) (by omega) ?_
    have hcl : (n40 - n0) ≤ (rm_X3_readUnit d (620 - n0)).cells := (show (n40 - n0) ≤ 620 - n0 by omega)
    have hsl : 2 * (n40 - n0) ≤ (rm_X3_readUnit d (620 - n0)).slots := (show 2 * (n40 - n0) ≤ 2 * (620 - n0) by omega)
    have hP : va_P K.1 vwCl (wd K S42 M o g43) H := hP
    have hD : va_D (inA K) (wd K S42 M o g43) := hD
    obtain ⟨rfl, h8⟩ := Prod.mk.inj (gn_some h)
    obtain ⟨rfl, rfl⟩ := Prod.mk.inj h8
    exact W.aret hx hb hr (Or.inl ⟨_, rfl⟩) (Or.inr ⟨_, rfl⟩) (fun t ht _ => ⟨_, _, rfl, hE, mu41, hnn40, by rw [ht]; exact hP, hD, hS.F ht⟩) hS.2.2 dX3_readUnit_82 hlk
  have h := gn_f h c29
  by_cases c45 : (cg_token S) = (-2 : Int32)
  · have h := gn_t h c45
    refine lv_lookup (off := 51) (tgt := 60) hx hb dX3_readUnit_9 (by decide) (by rw [c45]; rfl) (by decide) ?_
    refine lv_aload_n hx hb dX3_readUnit_60 rfl (lv_at hl 1 rfl) ?_
    obtain ⟨n46, h⟩ := gn_yz h
    obtain ⟨u47, S48, qu47, h⟩ := gn_bd2 h
    refine fc_V (rest := []) ⟨hx, hb, hml, hown, hts⟩ hN hF hK hP hD hS (c_X3_readNumbers l z K M o g hz _ u47 S48 qu47) (cwV 0 hts gX3_readUnit_X3_readNumbers rfl rfl rfl (by decide +kernel) ⟨(show 3 + 1 ≤ 10 * d + 12 by omega), (show 8 + (4 + 11) + 86 ≤ 400 * d + 480 by omega)⟩) (va_recv hK hP (ci := 3) (q0 := 7) rfl rfl) rfl hl.1 rfl (Nat.le_of_ble_eq_true rfl) dX3_readUnit_61 ⟨(show (n0 - n0) + 1 ≤ 620 - n0 by omega), (show 2 * (n0 - n0) + 2 ≤ 2 * (620 - n0) by omega)⟩ (fun bu47 g49 H locs x50 mu47 hp hP hD hS => ?_)
    have hz := Ext.mv x50 hz
    have hE := Ext.tr hE x50
    obtain ⟨n51, en51, h⟩ := gn_nm h
    have hnn51 : n0 ≤ n51 ∧ n51 ≤ 620 := ⟨by omega, by omega⟩
    refine W.widen (k := (n51 - n0)) (n := 2 * (n51 - n0)) (by omega) (by omega) ?_
    have hcl : (n51 - n0) ≤ (rm_X3_readUnit d (620 - n0)).cells := (show (n51 - n0) ≤ 620 - n0 by omega)
    have hsl : 2 * (n51 - n0) ≤ (rm_X3_readUnit d (620 - n0)).slots := (show 2 * (n51 - n0) ≤ 2 * (620 - n0) by omega)
    have hP : va_P K.1 vwCl (wd K S48 M o g49) H := hP
    have hD : va_D (inA K) (wd K S48 M o g49) := hD
    obtain ⟨rfl, h8⟩ := Prod.mk.inj (gn_some h)
    obtain ⟨rfl, rfl⟩ := Prod.mk.inj h8
    exact W.aret hx hb hr (Or.inl ⟨_, rfl⟩) (Or.inr ⟨_, rfl⟩) (fun t ht _ => ⟨_, _, rfl, hE, mu47, hnn51, by rw [ht]; exact hP, hD, hS.F ht⟩) hS.2.2 dX3_readUnit_64 hlk
  have h := gn_f h c45
  by_cases c52 : (cg_token S) = (40 : Int32)
  · have h := gn_t h c52
    refine lv_lookup (off := 114) (tgt := 123) hx hb dX3_readUnit_9 (by decide) (by rw [c52]; rfl) (by decide) ?_
    refine lv_aload_n hx hb dX3_readUnit_123 rfl (lv_at hl 1 rfl) ?_
    refine lv_iload_n hx hb dX3_readUnit_124 rfl (lv_at hl 2 rfl) ?_
    obtain ⟨u53, S54, n55, qu53, h⟩ := gn_bd3 h
    refine fc_V (rest := []) ⟨hx, hb, hml, hown, hts⟩ hN hF hK hP hD hS (c_X3_readBrackets l z K M o g fs d hfs hz n0 hnn0.2 _ _ u53 S54 n55 qu53) (cwV 1 hts gX3_readUnit_X3_readBrackets rfl rfl rfl (by decide +kernel) ⟨(show (10 * d + 11) + 1 ≤ 10 * d + 12 by omega), (show 8 + (3 + 11) + (400 * d + 440) ≤ 400 * d + 480 by omega)⟩) (va_recv hK hP (ci := 3) (q0 := 7) rfl rfl) rfl hl.1 rfl (Nat.le_of_ble_eq_true rfl) dX3_readUnit_125 ⟨(show (n0 - n0) + (620 - n0) ≤ 620 - n0 by omega), (show 2 * (n0 - n0) + 2 * (620 - n0) ≤ 2 * (620 - n0) by omega)⟩ (fun bu53 g56 H locs x57 mu53 hp hP hD hS => ?_)
    have hz := Ext.mv x57 hz
    have hE := Ext.tr hE x57
    have hnn55 : n0 ≤ n55 ∧ n55 ≤ 620 := ⟨by omega, hp.2⟩
    have hp1 := hp.1
    refine W.widen (k := (n55 - n0)) (n := 2 * (n55 - n0)) (by omega) (by omega) ?_
    have hcl : (n55 - n0) ≤ (rm_X3_readUnit d (620 - n0)).cells := (show (n55 - n0) ≤ 620 - n0 by omega)
    have hsl : 2 * (n55 - n0) ≤ (rm_X3_readUnit d (620 - n0)).slots := (show 2 * (n55 - n0) ≤ 2 * (620 - n0) by omega)
    have hP : va_P K.1 vwCl (wd K S54 M o g56) H := hP
    have hD : va_D (inA K) (wd K S54 M o g56) := hD
    obtain ⟨rfl, h8⟩ := Prod.mk.inj (gn_some h)
    obtain ⟨rfl, rfl⟩ := Prod.mk.inj h8
    exact W.aret hx hb hr (Or.inl ⟨_, rfl⟩) (Or.inr ⟨_, rfl⟩) (fun t ht _ => ⟨_, _, rfl, hE, mu53, hnn55, by rw [ht]; exact hP, hD, hS.F ht⟩) hS.2.2 dX3_readUnit_128 hlk
  have h := gn_f h c52
  refine lv_lookup (off := 120) (tgt := 129) hx hb dX3_readUnit_9 (by decide) ((lv_osw c2 (by decide)).trans ((lv_osw c17 (by decide)).trans ((lv_osw c29 (by decide)).trans ((lv_osw c45 (by decide)).trans ((lv_osw c52 (by decide)).trans rfl))))) (by decide) ?_
  refine lv_aload_n hx hb dX3_readUnit_129 rfl (lv_at hl 1 rfl) ?_
  refine lv_iconst (v := (1 : Int32)) hx hb dX3_readUnit_130 (by decide) ?_
  obtain ⟨S58, qS58, h⟩ := gn_bd h
  refine hc_V (rest := []) ⟨hx, hb, hml, hown, hts⟩ hN hF hK hP hD hS (c_X3_refuse l z K _ o g _ _  S58 qS58) (cwV 1 hts gX3_readUnit_X3_refuse rfl rfl rfl (by decide +kernel) ⟨(show 1 + 1 ≤ 10 * d + 12 by omega), (show 8 + (2 + 11) + 21 ≤ 400 * d + 480 by omega)⟩) (va_recv hK hP (ci := 3) (q0 := 7) rfl rfl) rfl hl.1 rfl (Nat.le_of_ble_eq_true rfl) dX3_readUnit_131 hcl hsl (fun H locs hP hD hS => ?_)
  have hP : va_P K.1 vwCl (wd K S58 M o g) H := hP
  have hD : va_D (inA K) (wd K S58 M o g) := hD
  refine W.eq (g2 := F0 m 134 ls []) rfl ?_
  refine lv_aload_n hx hb dX3_readUnit_134 rfl (lv_at hl 1 rfl) ?_
  refine va_get (D := K.1) (ci := 3) (v := .ref (K.2.2.1 18)) (C := RX3) (T := TX3) (N := 8) hx hb hts in_X3_readUnit_X3 hown hK hP 7 rfl rfl 2 (by decide) (hts (.fieldLink RX3 29 "SawSums$Reader" "zero" "LSawSums$Fraction;") (by decide +kernel)) (fun _ h9 => h9) rfl dX3_readUnit_135 ?_
  obtain ⟨rfl, h8⟩ := Prod.mk.inj (gn_some h)
  obtain ⟨rfl, rfl⟩ := Prod.mk.inj h8
  exact W.aret hx hb hr (Or.inl ⟨_, rfl⟩) (Or.inr ⟨_, rfl⟩) (fun t ht _ => ⟨_, _, rfl, hE, hz, hnn0, by rw [ht]; exact hP, hD, hS.F ht⟩) hS.2.2 dX3_readUnit_138 hlk
theorem in_X3_readFactor_X3 : ∀ w ∈ wsX30, w ∈ wsX3_readFactor := fun _ h => List.mem_cons_of_mem _ (List.mem_append_left _ (List.mem_append_left _ (List.mem_append_left _ (List.mem_append_right _ h))))
def rm_X3_readFactor (d b : Nat) : Room := { frames := 10 * d + 13, cells := b, slots := 2 * b, locals := 400 * d + 520 }
section
variable {p : Program} {l : Launch} {e : Env} {s : State} {m : MethodId} {args : Array Value} {below : List Frame} {meth : Method} {c : Code} {z : Nat} {K : Ev} {M : MS} {o : Nat → Int64} {g : Gh} {n0 : Nat}
end
set_option maxRecDepth 100000 in
theorem c_X3_readFactor (l : Launch) (z : Nat) (K : Ev) (M : MS) (o : Nat → Int64) (g : Gh) (fs : (Nat → Int32 → CS → Option ((Int64 × Int64) × CS × Nat))) (d : Nat) (hfs : ∀ (g : Gh) (n : Nat) (a : Int32) (S : CS) (v : Int64 × Int64) (S' : CS) (n' : Nat), (K.2.2.1 18 ∈ g.2.1 ∧ g.2.2 (K.2.2.1 18) = (0, 1)) → n ≤ 620 → fs n a S = some (v, S', n') → Met l yX3_readSum wsX3_readSum (rm_X3_readSum d (620 - n)) (qH K [.ref (K.2.2.1 7), .int a] S M o g) (qF K v S' M o g (n ≤ n' ∧ n' ≤ 620)) (n' - n) (2 * (n' - n)) (inA K)) (hz : K.2.2.1 18 ∈ g.2.1 ∧ g.2.2 (K.2.2.1 18) = (0, 1)) (n0 : Nat) (hnn : n0 ≤ 620) (a0 : Int32) (S : CS) (r : (Int64 × Int64)) (S' : CS) (n' : Nat) (h : F_X3_readFactor z fs n0 a0 S = some (r, S', n')) : Met l yX3_readFactor wsX3_readFactor (rm_X3_readFactor d (620 - n0)) (qH K [.ref (K.2.2.1 7), .int a0] S M o g) (qF K r S' M o g (n0 ≤ n' ∧ n' ≤ 620)) (n' - n0) (2 * (n' - n0)) (inA K) := by
  refine Met.ofW (cc := cX3_readFactor) (maxL := 2) (ret := (some (.object "SawSums$Fraction"))) (by decide) rfl ?_
  intro p e s m args below meth c s₁ B hml hv
  obtain ⟨rfl, hN, hP, hK, hD, hF⟩ := hv
  have hx := B.exec
  have hb := B.bytes
  have hr := B.returns
  have hts := atoms_spec (ws := wsX3_readFactor) B.pre
  have hown : s.vm.findClass RX3 = some m.cls := findClass_of_methodNamed B.named
  have hlk := B.notSynchronized
  have hbs := wd_bs hP hD
  have hE : Ext g g := Ext.rf
  have hnn0 : n0 ≤ n0 ∧ n0 ≤ 620 := ⟨Nat.le_refl _, hnn⟩
  have hnn := hnn0
  have Cc : Cx p s m _ meth c cX3_readFactor 2 RX3 wsX3_readFactor (some (.object "SawSums$Fraction")) := ⟨hx, hb, hml, hown, hts, hr, hlk, hN⟩
  have hS : va_S (inA K) s.heap s.heap [] := va_S.rf
  have hl := lv_entry ([.ref (K.2.2.1 7), .int a0]) (n := 2) (Nat.le_of_ble_eq_true rfl)
  rw [lg_entry_eq]
  generalize (lg_sl ([.ref (K.2.2.1 7), .int a0]) ++ List.replicate (2 - (lg_sl ([.ref (K.2.2.1 7), .int a0])).length) Slot.unset).toArray = ls at hl ⊢
  have hl : lv_has ls 2 [(0, .ref (K.2.2.1 7)), (1, .int a0)] := hl
  rw [F_X3_readFactor] at h
  refine W.widen (k := (n0 - n0)) (n := 2 * (n0 - n0)) (by omega) (by omega) ?_
  have hnn0 := hnn0
  have hcl : (n0 - n0) ≤ (rm_X3_readFactor d (620 - n0)).cells := (show (n0 - n0) ≤ 620 - n0 by omega)
  have hsl : 2 * (n0 - n0) ≤ (rm_X3_readFactor d (620 - n0)).slots := (show 2 * (n0 - n0) ≤ 2 * (620 - n0) by omega)
  refine lv_aload_n hx hb dX3_readFactor_0 rfl (lv_at hl 0 rfl) ?_
  refine va_get (D := K.1) (ci := 3) (v := .int (cg_token S)) (C := RX3) (T := TX3) (N := 8) hx hb hts in_X3_readFactor_X3 hown hK hP 7 rfl rfl 4 (by decide) (hts (.fieldLink RX3 37 "SawSums$Reader" "token" "I") (by decide +kernel)) (fun _ h9 => h9) rfl dX3_readFactor_1 ?_
  refine lv_bipush (v := (45 : Int32)) hx hb dX3_readFactor_4 (by decide) ?_
  refine lv_icmp_eq (tgt := 15) hx hb dX3_readFactor_6 (by decide) (fun c1 => ?_) (fun c1 => ?_)
  · have h := gn_t h c1
    refine lv_aload_n hx hb dX3_readFactor_15 rfl (lv_at hl 0 rfl) ?_
    obtain ⟨S2, qS2, h⟩ := gn_bd h
    refine hc_V (rest := []) ⟨hx, hb, hml, hown, hts⟩ hN hF hK hP hD hS (c_X3_advance l z K _ o g  _  S2 qS2) (cwV 0 hts gX3_readFactor_X3_advance rfl rfl rfl (by decide +kernel) ⟨(show 1 + 1 ≤ 10 * d + 13 by omega), (show 8 + (1 + 11) + 21 ≤ 400 * d + 520 by omega)⟩) (va_recv hK hP (ci := 3) (q0 := 7) rfl rfl) rfl hl.1 rfl (Nat.le_of_ble_eq_true rfl) dX3_readFactor_16 hcl hsl (fun H locs hP hD hS => ?_)
    have hP : va_P K.1 vwCl (wd K S2 M o g) H := hP
    have hD : va_D (inA K) (wd K S2 M o g) := hD
    refine W.eq (g2 := F0 m 19 ls []) rfl ?_
    refine lv_aload_n hx hb dX3_readFactor_19 rfl (lv_at hl 0 rfl) ?_
    refine lv_iload_n hx hb dX3_readFactor_20 rfl (lv_at hl 1 rfl) ?_
    obtain ⟨u3, S4, n5, qu3, h⟩ := gn_bd3 h
    refine fc_V (rest := []) ⟨hx, hb, hml, hown, hts⟩ hN hF hK hP hD hS (c_X3_readUnit l z K M o g fs d hfs hz n0 hnn0.2 _ _ u3 S4 n5 qu3) (cwV 1 hts gX3_readFactor_X3_readUnit rfl rfl rfl (by decide +kernel) ⟨(show (10 * d + 12) + 1 ≤ 10 * d + 13 by omega), (show 8 + (3 + 11) + (400 * d + 480) ≤ 400 * d + 520 by omega)⟩) (va_recv hK hP (ci := 3) (q0 := 7) rfl rfl) rfl hl.1 rfl (Nat.le_of_ble_eq_true rfl) dX3_readFactor_21 ⟨(show (n0 - n0) + (620 - n0) ≤ 620 - n0 by omega), (show 2 * (n0 - n0) + 2 * (620 - n0) ≤ 2 * (620 - n0) by omega)⟩ (fun bu3 g6 H locs x7 mu3 hp hP hD hS => ?_)
    have hz := Ext.mv x7 hz
    have hE := Ext.tr hE x7
    have hnn5 : n0 ≤ n5 ∧ n5 ≤ 620 := ⟨by omega, hp.2⟩
    have hp1 := hp.1
    refine W.widen (k := (n5 - n0)) (n := 2 * (n5 - n0)) (by omega) (by omega) ?_
    have hcl : (n5 - n0) ≤ (rm_X3_readFactor d (620 - n0)).cells := (show (n5 - n0) ≤ 620 - n0 by omega)
    have hsl : 2 * (n5 - n0) ≤ (rm_X3_readFactor d (620 - n0)).slots := (show 2 * (n5 - n0) ≤ 2 * (620 - n0) by omega)
    have hP : va_P K.1 vwCl (wd K S4 M o g6) H := hP
    have hD : va_D (inA K) (wd K S4 M o g6) := hD
    obtain ⟨n8, h⟩ := gn_yz h
    obtain ⟨u9, qu9, h⟩ := gn_bd h
    refine fc_V (rest := []) ⟨hx, hb, hml, hown, hts⟩ hN hF hK hP hD hS (c_X1_opposite l z K _ M o g6 hz bu3 u3 mu3 u9 qu9) (cwV 0 hts gX3_readFactor_X1_opposite rfl rfl rfl (by decide +kernel) ⟨(show 3 + 1 ≤ 10 * d + 13 by omega), (show 8 + (1 + 11) + 86 ≤ 400 * d + 520 by omega)⟩) (fr_recv hK hP mu3) rfl hl.1 rfl (Nat.le_of_ble_eq_true rfl) dX3_readFactor_24 ⟨(show (n5 - n0) + 1 ≤ 620 - n0 by omega), (show 2 * (n5 - n0) + 2 ≤ 2 * (620 - n0) by omega)⟩ (fun bu9 g10 H locs x11 mu9 hp hP hD hS => ?_)
    have hz := Ext.mv x11 hz
    have hE := Ext.tr hE x11
    obtain ⟨n12, en12, h⟩ := gn_nm h
    have hnn12 : n0 ≤ n12 ∧ n12 ≤ 620 := ⟨by omega, by omega⟩
    refine W.widen (k := (n12 - n0)) (n := 2 * (n12 - n0)) (by omega) (by omega) ?_
    have hcl : (n12 - n0) ≤ (rm_X3_readFactor d (620 - n0)).cells := (show (n12 - n0) ≤ 620 - n0 by omega)
    have hsl : 2 * (n12 - n0) ≤ (rm_X3_readFactor d (620 - n0)).slots := (show 2 * (n12 - n0) ≤ 2 * (620 - n0) by omega)
    have hP : va_P K.1 vwCl (wd K S4 M o g10) H := hP
    have hD : va_D (inA K) (wd K S4 M o g10) := hD
    obtain ⟨rfl, h8⟩ := Prod.mk.inj (gn_some h)
    obtain ⟨rfl, rfl⟩ := Prod.mk.inj h8
    exact W.aret hx hb hr (Or.inl ⟨_, rfl⟩) (Or.inr ⟨_, rfl⟩) (fun t ht _ => ⟨_, _, rfl, hE, mu9, hnn12, by rw [ht]; exact hP, hD, hS.F ht⟩) hS.2.2 dX3_readFactor_27 hlk
  · have h := gn_f h c1
    refine lv_aload_n hx hb dX3_readFactor_9 rfl (lv_at hl 0 rfl) ?_
    refine lv_iload_n hx hb dX3_readFactor_10 rfl (lv_at hl 1 rfl) ?_
    obtain ⟨u13, S14, n15, qu13, h⟩ := gn_bd3 h
    refine fc_V (rest := []) ⟨hx, hb, hml, hown, hts⟩ hN hF hK hP hD hS (c_X3_readUnit l z K M o g fs d hfs hz n0 hnn0.2 _ _ u13 S14 n15 qu13) (cwV 1 hts gX3_readFactor_X3_readUnit rfl rfl rfl (by decide +kernel) ⟨(show (10 * d + 12) + 1 ≤ 10 * d + 13 by omega), (show 8 + (3 + 11) + (400 * d + 480) ≤ 400 * d + 520 by omega)⟩) (va_recv hK hP (ci := 3) (q0 := 7) rfl rfl) rfl hl.1 rfl (Nat.le_of_ble_eq_true rfl) dX3_readFactor_11 ⟨(show (n0 - n0) + (620 - n0) ≤ 620 - n0 by omega), (show 2 * (n0 - n0) + 2 * (620 - n0) ≤ 2 * (620 - n0) by omega)⟩ (fun bu13 g16 H locs x17 mu13 hp hP hD hS => ?_)
    have hz := Ext.mv x17 hz
    have hE := Ext.tr hE x17
    have hnn15 : n0 ≤ n15 ∧ n15 ≤ 620 := ⟨by omega, hp.2⟩
    have hp1 := hp.1
    refine W.widen (k := (n15 - n0)) (n := 2 * (n15 - n0)) (by omega) (by omega) ?_
    have hcl : (n15 - n0) ≤ (rm_X3_readFactor d (620 - n0)).cells := (show (n15 - n0) ≤ 620 - n0 by omega)
    have hsl : 2 * (n15 - n0) ≤ (rm_X3_readFactor d (620 - n0)).slots := (show 2 * (n15 - n0) ≤ 2 * (620 - n0) by omega)
    have hP : va_P K.1 vwCl (wd K S14 M o g16) H := hP
    have hD : va_D (inA K) (wd K S14 M o g16) := hD
    obtain ⟨rfl, h8⟩ := Prod.mk.inj (gn_some h)
    obtain ⟨rfl, rfl⟩ := Prod.mk.inj h8
    exact W.aret hx hb hr (Or.inl ⟨_, rfl⟩) (Or.inr ⟨_, rfl⟩) (fun t ht _ => ⟨_, _, rfl, hE, mu13, hnn15, by rw [ht]; exact hP, hD, hS.F ht⟩) hS.2.2 dX3_readFactor_14 hlk
theorem in_X3_readTerm_X3 : ∀ w ∈ wsX30, w ∈ wsX3_readTerm := fun _ h => List.mem_cons_of_mem _ (List.mem_append_left _ (List.mem_append_left _ (List.mem_append_left _ (List.mem_append_right _ h))))
def rm_X3_readTerm (d b : Nat) : Room := { frames := 10 * d + 14, cells := b, slots := 2 * b, locals := 400 * d + 560 }
section
variable {p : Program} {l : Launch} {e : Env} {s : State} {m : MethodId} {args : Array Value} {below : List Frame} {meth : Method} {c : Code} {z : Nat} {K : Ev} {M : MS} {o : Nat → Int64} {g : Gh} {n0 : Nat}
set_option maxRecDepth 100000 in
theorem w_X3_readTerm_8 (Cc : Cx p s m args meth c cX3_readTerm 5 RX3 wsX3_readTerm (some (.object "SawSums$Fraction"))) (hK : va_K K.1 vwCl (tysOf K) s) (hF : SF K s) (hbs : K.2.2.2 ≤ s.heap.size) {fs : (Nat → Int32 → CS → Option ((Int64 × Int64) × CS × Nat))} {d : Nat} (hfs : ∀ (g : Gh) (n : Nat) (a : Int32) (S : CS) (v : Int64 × Int64) (S' : CS) (n' : Nat), (K.2.2.1 18 ∈ g.2.1 ∧ g.2.2 (K.2.2.1 18) = (0, 1)) → n ≤ 620 → fs n a S = some (v, S', n') → Met l yX3_readSum wsX3_readSum (rm_X3_readSum d (620 - n)) (qH K [.ref (K.2.2.1 7), .int a] S M o g) (qF K v S' M o g (n ≤ n' ∧ n' ≤ 620)) (n' - n) (2 * (n' - n)) (inA K)) {r : (Int64 × Int64)} {S' : CS} {n' : Nat} (nf : Nat) : ∀ (n : Nat) (x1 : Int32) (y2 : (Int64 × Int64)) (x3 : Int32) (S : CS) (b2 : Nat) (gg : Gh) (H : Heap) (locs : List Loc), Ext g gg → (K.2.2.1 18 ∈ gg.2.1 ∧ gg.2.2 (K.2.2.1 18) = (0, 1)) → (n0 ≤ n ∧ n ≤ 620) → (b2 ∈ gg.2.1 ∧ gg.2.2 b2 = y2) → va_P K.1 vwCl (wd K S M o gg) H → va_D (inA K) (wd K S M o gg) → va_S (inA K) s.heap H locs → G_X3_readTerm_8 z fs nf n x1 y2 x3 S = some (r, S', n') → ∀ ls, lv_has ls 5 [(0, .ref (K.2.2.1 7)), (1, .int x1), (2, .ref b2), (3, .int x3)] → W p l e (rm_X3_readTerm d (620 - n0)) s m args below meth c H locs (n - n0) (2 * (n - n0)) (MQ below (qF K r S' M o g (n0 ≤ n' ∧ n' ≤ 620)) args s (n' - n0) (2 * (n' - n0)) (inA K)) (F0 m 8 ls []) := by
  obtain ⟨hx, hb, hml, hown, hts, hr, hlk, hN⟩ := id Cc
  induction nf with
  | zero => intro n x1 y2 x3 S b2 gg H locs hE hz hnn my2 hP hD hS h; cases h
  | succ nq ih =>
    intro n x1 y2 x3 S b2 gg H locs hE hz hnn my2 hP hD hS h ls hl
    rw [G_X3_readTerm_8] at h
    have hnn := hnn
    have hcl : (n - n0) ≤ (rm_X3_readTerm d (620 - n0)).cells := (show (n - n0) ≤ 620 - n0 by omega)
    have hsl : 2 * (n - n0) ≤ (rm_X3_readTerm d (620 - n0)).slots := (show 2 * (n - n0) ≤ 2 * (620 - n0) by omega)
    refine lv_iload_n hx hb dX3_readTerm_8 rfl (lv_at hl 3 rfl) ?_
    refine lv_sipush (v := (300 : Int32)) hx hb dX3_readTerm_9 (by decide) ?_
    refine lv_icmp_ge (tgt := 56) hx hb dX3_readTerm_12 (by decide) (fun c1 => ?_) (fun c1 => ?_)
    · have h := gn_t h c1
      refine lv_aload_n hx hb dX3_readTerm_56 rfl (lv_at hl 2 rfl) ?_
      obtain ⟨rfl, h8⟩ := Prod.mk.inj (gn_some h)
      obtain ⟨rfl, rfl⟩ := Prod.mk.inj h8
      exact W.aret hx hb hr (Or.inl ⟨_, rfl⟩) (Or.inr ⟨_, rfl⟩) (fun t ht _ => ⟨_, _, rfl, hE, my2, hnn, by rw [ht]; exact hP, hD, hS.F ht⟩) hS.2.2 dX3_readTerm_57 hlk
    · have h := gn_f h c1
      refine lv_aload_n hx hb dX3_readTerm_15 rfl (lv_at hl 0 rfl) ?_
      refine va_get (D := K.1) (ci := 3) (v := .int (cg_token S)) (C := RX3) (T := TX3) (N := 8) hx hb hts in_X3_readTerm_X3 hown hK hP 7 rfl rfl 4 (by decide) (hts (.fieldLink RX3 37 "SawSums$Reader" "token" "I") (by decide +kernel)) (fun _ h9 => h9) rfl dX3_readTerm_16 ?_
      refine lv_bipush (v := (42 : Int32)) hx hb dX3_readTerm_19 (by decide) ?_
      refine lv_icmp_ne (tgt := 56) hx hb dX3_readTerm_21 (by decide) (fun c2 => ?_) (fun c2 => ?_)
      · have h := gn_f h c2
        refine lv_aload_n hx hb dX3_readTerm_56 rfl (lv_at hl 2 rfl) ?_
        obtain ⟨rfl, h8⟩ := Prod.mk.inj (gn_some h)
        obtain ⟨rfl, rfl⟩ := Prod.mk.inj h8
        exact W.aret hx hb hr (Or.inl ⟨_, rfl⟩) (Or.inr ⟨_, rfl⟩) (fun t ht _ => ⟨_, _, rfl, hE, my2, hnn, by rw [ht]; exact hP, hD, hS.F ht⟩) hS.2.2 dX3_readTerm_57 hlk
      · have h := gn_t h c2
        refine lv_aload_n hx hb dX3_readTerm_24 rfl (lv_at hl 0 rfl) ?_
        refine va_get (D := K.1) (ci := 3) (v := .int (cg_at S)) (C := RX3) (T := TX3) (N := 8) hx hb hts in_X3_readTerm_X3 hown hK hP 7 rfl rfl 3 (by decide) (hts (.fieldLink RX3 33 "SawSums$Reader" "at" "I") (by decide +kernel)) (fun _ h9 => h9) rfl dX3_readTerm_25 ?_
        obtain ⟨v3, ev3, h⟩ := gn_nm h
        refine ln_i ev3 ?_
        refine lv_istore (lv' := [(4, .int v3), (0, .ref (K.2.2.1 7)), (1, .int x1), (2, .ref b2), (3, .int x3)]) hx hb dX3_readTerm_28 hl (by decide) rfl (fun ls hl => ?_)
        refine lv_aload_n hx hb dX3_readTerm_30 rfl (lv_at hl 1 rfl) ?_
        obtain ⟨S4, qS4, h⟩ := gn_bd h
        refine hc_V (rest := []) ⟨hx, hb, hml, hown, hts⟩ hN hF hK hP hD hS (c_X3_advance l z K _ o gg  _  S4 qS4) (cwV 0 hts gX3_readTerm_X3_advance rfl rfl rfl (by decide +kernel) ⟨(show 1 + 1 ≤ 10 * d + 14 by omega), (show 8 + (1 + 11) + 21 ≤ 400 * d + 560 by omega)⟩) (va_recv hK hP (ci := 3) (q0 := 7) rfl rfl) rfl hl.1 rfl (Nat.le_of_ble_eq_true rfl) dX3_readTerm_31 hcl hsl (fun H locs hP hD hS => ?_)
        have hP : va_P K.1 vwCl (wd K S4 M o gg) H := hP
        have hD : va_D (inA K) (wd K S4 M o gg) := hD
        refine W.eq (g2 := F0 m 34 ls []) rfl ?_
        refine lv_aload_n hx hb dX3_readTerm_34 rfl (lv_at hl 1 rfl) ?_
        refine lv_aload_n hx hb dX3_readTerm_35 rfl (lv_at hl 3 rfl) ?_
        refine lv_aload_n hx hb dX3_readTerm_36 rfl (lv_at hl 1 rfl) ?_
        refine lv_iload_n hx hb dX3_readTerm_37 rfl (lv_at hl 2 rfl) ?_
        obtain ⟨u5, S6, n7, qu5, h⟩ := gn_bd3 h
        refine fc_V (rest := [.ref b2, .ref (K.2.2.1 7)]) ⟨hx, hb, hml, hown, hts⟩ hN hF hK hP hD hS (c_X3_readFactor l z K M o gg fs d hfs hz n hnn.2 _ _ u5 S6 n7 qu5) (cwV 1 hts gX3_readTerm_X3_readFactor rfl rfl rfl (by decide +kernel) ⟨(show (10 * d + 13) + 1 ≤ 10 * d + 14 by omega), (show 8 + (2 + 11) + (400 * d + 520) ≤ 400 * d + 560 by omega)⟩) (va_recv hK hP (ci := 3) (q0 := 7) rfl rfl) rfl hl.1 rfl (Nat.le_of_ble_eq_true rfl) dX3_readTerm_38 ⟨(show (n - n0) + (620 - n) ≤ 620 - n0 by omega), (show 2 * (n - n0) + 2 * (620 - n) ≤ 2 * (620 - n0) by omega)⟩ (fun bu5 g8 H locs x9 mu5 hp hP hD hS => ?_)
        have my2 := Ext.mv x9 my2
        have hz := Ext.mv x9 hz
        have hE := Ext.tr hE x9
        have hnn7 : n0 ≤ n7 ∧ n7 ≤ 620 := ⟨by omega, hp.2⟩
        have hp1 := hp.1
        refine W.widen (k := (n7 - n0)) (n := 2 * (n7 - n0)) (by omega) (by omega) ?_
        have hcl : (n7 - n0) ≤ (rm_X3_readTerm d (620 - n0)).cells := (show (n7 - n0) ≤ 620 - n0 by omega)
        have hsl : 2 * (n7 - n0) ≤ (rm_X3_readTerm d (620 - n0)).slots := (show 2 * (n7 - n0) ≤ 2 * (620 - n0) by omega)
        have hP : va_P K.1 vwCl (wd K S6 M o g8) H := hP
        have hD : va_D (inA K) (wd K S6 M o g8) := hD
        obtain ⟨n10, h⟩ := gn_yz h
        obtain ⟨u11, qu11, h⟩ := gn_bd h
        refine fc_V (rest := [.ref (K.2.2.1 7)]) ⟨hx, hb, hml, hown, hts⟩ hN hF hK hP hD hS (c_X1_product l z K _ M o g8 hz b2 y2 my2 bu5 u5 mu5 u11 qu11) (cwV 1 hts gX3_readTerm_X1_product rfl rfl rfl (by decide +kernel) ⟨(show 3 + 1 ≤ 10 * d + 14 by omega), (show 8 + (2 + 11) + 86 ≤ 400 * d + 560 by omega)⟩) (fr_recv hK hP my2) rfl hl.1 rfl (Nat.le_of_ble_eq_true rfl) dX3_readTerm_41 ⟨(show (n7 - n0) + 1 ≤ 620 - n0 by omega), (show 2 * (n7 - n0) + 2 ≤ 2 * (620 - n0) by omega)⟩ (fun bu11 g12 H locs x13 mu11 hp hP hD hS => ?_)
        have my2 := Ext.mv x13 my2
        have hz := Ext.mv x13 hz
        have hE := Ext.tr hE x13
        obtain ⟨n14, en14, h⟩ := gn_nm h
        have hnn14 : n0 ≤ n14 ∧ n14 ≤ 620 := ⟨by omega, by omega⟩
        refine W.widen (k := (n14 - n0)) (n := 2 * (n14 - n0)) (by omega) (by omega) ?_
        have hcl : (n14 - n0) ≤ (rm_X3_readTerm d (620 - n0)).cells := (show (n14 - n0) ≤ 620 - n0 by omega)
        have hsl : 2 * (n14 - n0) ≤ (rm_X3_readTerm d (620 - n0)).slots := (show 2 * (n14 - n0) ≤ 2 * (620 - n0) by omega)
        have hP : va_P K.1 vwCl (wd K S6 M o g12) H := hP
        have hD : va_D (inA K) (wd K S6 M o g12) := hD
        refine lv_iload hx hb dX3_readTerm_44 (lv_at hl 0 rfl) ?_
        obtain ⟨u15, S16, qu15, h⟩ := gn_bd2 h
        refine fc_V (rest := []) ⟨hx, hb, hml, hown, hts⟩ hN hF hK hP hD hS (c_X3_bounded l z K M o g12 hz bu11 u11 mu11 _ _ u15 S16 qu15) (cwV 2 hts gX3_readTerm_X3_bounded rfl rfl rfl (by decide +kernel) ⟨(show 2 + 1 ≤ 10 * d + 14 by omega), (show 8 + (3 + 11) + 46 ≤ 400 * d + 560 by omega)⟩) (va_recv hK hP (ci := 3) (q0 := 7) rfl rfl) rfl hl.1 rfl (Nat.le_of_ble_eq_true rfl) dX3_readTerm_46 ⟨(show (n14 - n0) + 0 ≤ 620 - n0 by omega), (show 2 * (n14 - n0) + 0 ≤ 2 * (620 - n0) by omega)⟩ (fun bu15 g17 H locs x18 mu15 hp hP hD hS => ?_)
        have my2 := Ext.mv x18 my2
        have hz := Ext.mv x18 hz
        have hE := Ext.tr hE x18
        refine W.widen (k := (n14 - n0)) (n := 2 * (n14 - n0)) (by omega) (by omega) ?_
        have hcl : (n14 - n0) ≤ (rm_X3_readTerm d (620 - n0)).cells := (show (n14 - n0) ≤ 620 - n0 by omega)
        have hsl : 2 * (n14 - n0) ≤ (rm_X3_readTerm d (620 - n0)).slots := (show 2 * (n14 - n0) ≤ 2 * (620 - n0) by omega)
        have hP : va_P K.1 vwCl (wd K S16 M o g17) H := hP
        have hD : va_D (inA K) (wd K S16 M o g17) := hD
        refine lv_astore_n (lv' := [(2, .ref bu15), (4, .int v3), (0, .ref (K.2.2.1 7)), (1, .int x1), (3, .int x3)]) hx hb dX3_readTerm_49 rfl hl (by decide) rfl (fun ls hl => ?_)
        obtain ⟨v19, ev19, h⟩ := gn_nm h
        refine lv_iinc (v := v19) (lv' := [(3, .int v19), (2, .ref bu15), (4, .int v3), (0, .ref (K.2.2.1 7)), (1, .int x1)]) hx hb dX3_readTerm_50 hl (k := 4) rfl (by rw [ev19]; rfl) (by decide) rfl (fun ls hl => ?_)
        refine lv_goto (tgt := 8) hx hb dX3_readTerm_53 (by decide) ?_
        exact ih n14 x1 u15 v19 S16 bu15 g17 _ _ hE hz hnn14 mu15 hP hD hS h ls (lv_sub hl [3, 4, 1, 0] rfl)
end
set_option maxRecDepth 100000 in
theorem c_X3_readTerm (l : Launch) (z : Nat) (K : Ev) (M : MS) (o : Nat → Int64) (g : Gh) (fs : (Nat → Int32 → CS → Option ((Int64 × Int64) × CS × Nat))) (d : Nat) (hfs : ∀ (g : Gh) (n : Nat) (a : Int32) (S : CS) (v : Int64 × Int64) (S' : CS) (n' : Nat), (K.2.2.1 18 ∈ g.2.1 ∧ g.2.2 (K.2.2.1 18) = (0, 1)) → n ≤ 620 → fs n a S = some (v, S', n') → Met l yX3_readSum wsX3_readSum (rm_X3_readSum d (620 - n)) (qH K [.ref (K.2.2.1 7), .int a] S M o g) (qF K v S' M o g (n ≤ n' ∧ n' ≤ 620)) (n' - n) (2 * (n' - n)) (inA K)) (hz : K.2.2.1 18 ∈ g.2.1 ∧ g.2.2 (K.2.2.1 18) = (0, 1)) (n0 : Nat) (hnn : n0 ≤ 620) (a0 : Int32) (S : CS) (r : (Int64 × Int64)) (S' : CS) (n' : Nat) (h : F_X3_readTerm z fs n0 a0 S = some (r, S', n')) : Met l yX3_readTerm wsX3_readTerm (rm_X3_readTerm d (620 - n0)) (qH K [.ref (K.2.2.1 7), .int a0] S M o g) (qF K r S' M o g (n0 ≤ n' ∧ n' ≤ 620)) (n' - n0) (2 * (n' - n0)) (inA K) := by
  refine Met.ofW (cc := cX3_readTerm) (maxL := 5) (ret := (some (.object "SawSums$Fraction"))) (by decide) rfl ?_
  intro p e s m args below meth c s₁ B hml hv
  obtain ⟨rfl, hN, hP, hK, hD, hF⟩ := hv
  have hx := B.exec
  have hb := B.bytes
  have hr := B.returns
  have hts := atoms_spec (ws := wsX3_readTerm) B.pre
  have hown : s.vm.findClass RX3 = some m.cls := findClass_of_methodNamed B.named
  have hlk := B.notSynchronized
  have hbs := wd_bs hP hD
  have hE : Ext g g := Ext.rf
  have hnn0 : n0 ≤ n0 ∧ n0 ≤ 620 := ⟨Nat.le_refl _, hnn⟩
  have hnn := hnn0
  have Cc : Cx p s m _ meth c cX3_readTerm 5 RX3 wsX3_readTerm (some (.object "SawSums$Fraction")) := ⟨hx, hb, hml, hown, hts, hr, hlk, hN⟩
  have hS : va_S (inA K) s.heap s.heap [] := va_S.rf
  have hl := lv_entry ([.ref (K.2.2.1 7), .int a0]) (n := 5) (Nat.le_of_ble_eq_true rfl)
  rw [lg_entry_eq]
  generalize (lg_sl ([.ref (K.2.2.1 7), .int a0]) ++ List.replicate (5 - (lg_sl ([.ref (K.2.2.1 7), .int a0])).length) Slot.unset).toArray = ls at hl ⊢
  have hl : lv_has ls 5 [(0, .ref (K.2.2.1 7)), (1, .int a0)] := hl
  rw [F_X3_readTerm] at h
  refine W.widen (k := (n0 - n0)) (n := 2 * (n0 - n0)) (by omega) (by omega) ?_
  have hnn0 := hnn0
  have hcl : (n0 - n0) ≤ (rm_X3_readTerm d (620 - n0)).cells := (show (n0 - n0) ≤ 620 - n0 by omega)
  have hsl : 2 * (n0 - n0) ≤ (rm_X3_readTerm d (620 - n0)).slots := (show 2 * (n0 - n0) ≤ 2 * (620 - n0) by omega)
  refine lv_aload_n hx hb dX3_readTerm_0 rfl (lv_at hl 0 rfl) ?_
  refine lv_iload_n hx hb dX3_readTerm_1 rfl (lv_at hl 1 rfl) ?_
  obtain ⟨u1, S2, n3, qu1, h⟩ := gn_bd3 h
  refine fc_V (rest := []) ⟨hx, hb, hml, hown, hts⟩ hN hF hK hP hD hS (c_X3_readFactor l z K M o g fs d hfs hz n0 hnn0.2 _ _ u1 S2 n3 qu1) (cwV 1 hts gX3_readTerm_X3_readFactor rfl rfl rfl (by decide +kernel) ⟨(show (10 * d + 13) + 1 ≤ 10 * d + 14 by omega), (show 8 + (2 + 11) + (400 * d + 520) ≤ 400 * d + 560 by omega)⟩) (va_recv hK hP (ci := 3) (q0 := 7) rfl rfl) rfl hl.1 rfl (Nat.le_of_ble_eq_true rfl) dX3_readTerm_2 ⟨(show (n0 - n0) + (620 - n0) ≤ 620 - n0 by omega), (show 2 * (n0 - n0) + 2 * (620 - n0) ≤ 2 * (620 - n0) by omega)⟩ (fun bu1 g4 H locs x5 mu1 hp hP hD hS => ?_)
  have hz := Ext.mv x5 hz
  have hE := Ext.tr hE x5
  have hnn3 : n0 ≤ n3 ∧ n3 ≤ 620 := ⟨by omega, hp.2⟩
  have hp1 := hp.1
  refine W.widen (k := (n3 - n0)) (n := 2 * (n3 - n0)) (by omega) (by omega) ?_
  have hcl : (n3 - n0) ≤ (rm_X3_readTerm d (620 - n0)).cells := (show (n3 - n0) ≤ 620 - n0 by omega)
  have hsl : 2 * (n3 - n0) ≤ (rm_X3_readTerm d (620 - n0)).slots := (show 2 * (n3 - n0) ≤ 2 * (620 - n0) by omega)
  have hP : va_P K.1 vwCl (wd K S2 M o g4) H := hP
  have hD : va_D (inA K) (wd K S2 M o g4) := hD
  refine lv_astore_n (lv' := [(2, .ref bu1), (0, .ref (K.2.2.1 7)), (1, .int a0)]) hx hb dX3_readTerm_5 rfl hl (by decide) rfl (fun ls hl => ?_)
  refine lv_iconst (v := (0 : Int32)) hx hb dX3_readTerm_6 (by decide) ?_
  refine lv_istore_n (lv' := [(3, .int (0 : Int32)), (2, .ref bu1), (0, .ref (K.2.2.1 7)), (1, .int a0)]) hx hb dX3_readTerm_7 rfl hl (by decide) rfl (fun ls hl => ?_)
  exact w_X3_readTerm_8 Cc hK hF hbs hfs z n3 a0 u1 (0 : Int32) S2 bu1 g4 _ _ hE hz hnn3 mu1 hP hD hS h ls (lv_sub hl [2, 3, 1, 0] rfl)
theorem in_X3_readSum_X3 : ∀ w ∈ wsX30, w ∈ wsX3_readSum := fun _ h => List.mem_cons_of_mem _ (List.mem_append_left _ (List.mem_append_left _ (List.mem_append_left _ (List.mem_append_right _ h))))
section
variable {p : Program} {l : Launch} {e : Env} {s : State} {m : MethodId} {args : Array Value} {below : List Frame} {meth : Method} {c : Code} {z : Nat} {K : Ev} {M : MS} {o : Nat → Int64} {g : Gh} {n0 : Nat}
set_option maxRecDepth 100000 in
theorem w_X3_readSum_33 (Cc : Cx p s m args meth c cX3_readSum 7 RX3 wsX3_readSum (some (.object "SawSums$Fraction"))) (hK : va_K K.1 vwCl (tysOf K) s) (hF : SF K s) (hbs : K.2.2.2 ≤ s.heap.size) {fs : (Nat → Int32 → CS → Option ((Int64 × Int64) × CS × Nat))} {d : Nat} (hfs : ∀ (g : Gh) (n : Nat) (a : Int32) (S : CS) (v : Int64 × Int64) (S' : CS) (n' : Nat), (K.2.2.1 18 ∈ g.2.1 ∧ g.2.2 (K.2.2.1 18) = (0, 1)) → n ≤ 620 → fs n a S = some (v, S', n') → Met l yX3_readSum wsX3_readSum (rm_X3_readSum d (620 - n)) (qH K [.ref (K.2.2.1 7), .int a] S M o g) (qF K v S' M o g (n ≤ n' ∧ n' ≤ 620)) (n' - n) (2 * (n' - n)) (inA K)) {r : (Int64 × Int64)} {S' : CS} {n' : Nat} {k8 : Nat → Int32 → (Int64 × Int64) → Int32 → CS → Option ((Int64 × Int64) × CS × Nat)} (hk8 : ∀ (n : Nat) (x1 : Int32) (y2 : (Int64 × Int64)) (x3 : Int32) (S : CS) (b2 : Nat) (gg : Gh) (H : Heap) (locs : List Loc), Ext g gg → (K.2.2.1 18 ∈ gg.2.1 ∧ gg.2.2 (K.2.2.1 18) = (0, 1)) → (n0 ≤ n ∧ n ≤ 620) → (b2 ∈ gg.2.1 ∧ gg.2.2 b2 = y2) → va_P K.1 vwCl (wd K S M o gg) H → va_D (inA K) (wd K S M o gg) → va_S (inA K) s.heap H locs → k8 n x1 y2 x3 S = some (r, S', n') → ∀ ls, lv_has ls 7 [(0, .ref (K.2.2.1 7)), (1, .int x1), (2, .ref b2), (3, .int x3)] → W p l e (rm_X3_readSum (d + 1) (620 - n0)) s m args below meth c H locs (n - n0) (2 * (n - n0)) (MQ below (qF K r S' M o g (n0 ≤ n' ∧ n' ≤ 620)) args s (n' - n0) (2 * (n' - n0)) (inA K)) (F0 m 8 ls [])) : ∀ (n : Nat) (x1 : Int32) (y2 : (Int64 × Int64)) (x3 : Int32) (S : CS) (b2 : Nat) (gg : Gh) (H : Heap) (locs : List Loc), Ext g gg → (K.2.2.1 18 ∈ gg.2.1 ∧ gg.2.2 (K.2.2.1 18) = (0, 1)) → (n0 ≤ n ∧ n ≤ 620) → (b2 ∈ gg.2.1 ∧ gg.2.2 b2 = y2) → va_P K.1 vwCl (wd K S M o gg) H → va_D (inA K) (wd K S M o gg) → va_S (inA K) s.heap H locs → G_X3_readSum_33 z fs k8 n x1 y2 x3 S = some (r, S', n') → ∀ ls, lv_has ls 7 [(0, .ref (K.2.2.1 7)), (1, .int x1), (2, .ref b2), (3, .int x3)] → W p l e (rm_X3_readSum (d + 1) (620 - n0)) s m args below meth c H locs (n - n0) (2 * (n - n0)) (MQ below (qF K r S' M o g (n0 ≤ n' ∧ n' ≤ 620)) args s (n' - n0) (2 * (n' - n0)) (inA K)) (F0 m 33 ls []) := by
  obtain ⟨hx, hb, hml, hown, hts, hr, hlk, hN⟩ := id Cc
  intro n x1 y2 x3 S b2 gg H locs hE hz hnn my2 hP hD hS h ls hl
  rw [G_X3_readSum_33] at h
  have hnn := hnn
  have hcl : (n - n0) ≤ (rm_X3_readSum (d + 1) (620 - n0)).cells := (show (n - n0) ≤ 620 - n0 by omega)
  have hsl : 2 * (n - n0) ≤ (rm_X3_readSum (d + 1) (620 - n0)).slots := (show 2 * (n - n0) ≤ 2 * (620 - n0) by omega)
  refine lv_aload_n hx hb dX3_readSum_33 rfl (lv_at hl 0 rfl) ?_
  refine va_get (D := K.1) (ci := 3) (v := .int (cg_token S)) (C := RX3) (T := TX3) (N := 8) hx hb hts in_X3_readSum_X3 hown hK hP 7 rfl rfl 4 (by decide) (hts (.fieldLink RX3 37 "SawSums$Reader" "token" "I") (by decide +kernel)) (fun _ h9 => h9) rfl dX3_readSum_34 ?_
  refine lv_bipush (v := (45 : Int32)) hx hb dX3_readSum_37 (by decide) ?_
  refine lv_icmp_ne (tgt := 46) hx hb dX3_readSum_39 (by decide) (fun c1 => ?_) (fun c1 => ?_)
  · have h := gn_f h c1
    refine lv_iconst (v := (0 : Int32)) hx hb dX3_readSum_46 (by decide) ?_
    refine lv_istore (lv' := [(4, .int (0 : Int32)), (0, .ref (K.2.2.1 7)), (1, .int x1), (2, .ref b2), (3, .int x3)]) hx hb dX3_readSum_47 hl (by decide) rfl (fun ls hl => ?_)
    refine lv_aload_n hx hb dX3_readSum_49 rfl (lv_at hl 1 rfl) ?_
    refine va_get (D := K.1) (ci := 3) (v := .int (cg_at S)) (C := RX3) (T := TX3) (N := 8) hx hb hts in_X3_readSum_X3 hown hK hP 7 rfl rfl 3 (by decide) (hts (.fieldLink RX3 33 "SawSums$Reader" "at" "I") (by decide +kernel)) (fun _ h9 => h9) rfl dX3_readSum_50 ?_
    obtain ⟨v2, ev2, h⟩ := gn_nm h
    refine ln_i ev2 ?_
    refine lv_istore (lv' := [(5, .int v2), (4, .int (0 : Int32)), (0, .ref (K.2.2.1 7)), (1, .int x1), (2, .ref b2), (3, .int x3)]) hx hb dX3_readSum_53 hl (by decide) rfl (fun ls hl => ?_)
    refine lv_aload_n hx hb dX3_readSum_55 rfl (lv_at hl 2 rfl) ?_
    obtain ⟨S3, qS3, h⟩ := gn_bd h
    refine hc_V (rest := []) ⟨hx, hb, hml, hown, hts⟩ hN hF hK hP hD hS (c_X3_advance l z K _ o gg  _  S3 qS3) (cwV 0 hts gX3_readSum_X3_advance rfl rfl rfl (by decide +kernel) ⟨(show 1 + 1 ≤ 10 * (d + 1) + 10 by omega), (show 8 + (1 + 11) + 21 ≤ 400 * (d + 1) + 400 by omega)⟩) (va_recv hK hP (ci := 3) (q0 := 7) rfl rfl) rfl hl.1 rfl (Nat.le_of_ble_eq_true rfl) dX3_readSum_56 hcl hsl (fun H locs hP hD hS => ?_)
    have hP : va_P K.1 vwCl (wd K S3 M o gg) H := hP
    have hD : va_D (inA K) (wd K S3 M o gg) := hD
    refine W.eq (g2 := F0 m 59 ls []) rfl ?_
    refine lv_aload_n hx hb dX3_readSum_59 rfl (lv_at hl 2 rfl) ?_
    refine lv_iload_n hx hb dX3_readSum_60 rfl (lv_at hl 3 rfl) ?_
    obtain ⟨u4, S5, n6, qu4, h⟩ := gn_bd3 h
    refine fc_V (rest := []) ⟨hx, hb, hml, hown, hts⟩ hN hF hK hP hD hS (c_X3_readTerm l z K M o gg fs d hfs hz n hnn.2 _ _ u4 S5 n6 qu4) (cwV 1 hts gX3_readSum_X3_readTerm rfl rfl rfl (by decide +kernel) ⟨(show (10 * d + 14) + 1 ≤ 10 * (d + 1) + 10 by omega), (show 8 + (5 + 11) + (400 * d + 560) ≤ 400 * (d + 1) + 400 by omega)⟩) (va_recv hK hP (ci := 3) (q0 := 7) rfl rfl) rfl hl.1 rfl (Nat.le_of_ble_eq_true rfl) dX3_readSum_61 ⟨(show (n - n0) + (620 - n) ≤ 620 - n0 by omega), (show 2 * (n - n0) + 2 * (620 - n) ≤ 2 * (620 - n0) by omega)⟩ (fun bu4 g7 H locs x8 mu4 hp hP hD hS => ?_)
    have my2 := Ext.mv x8 my2
    have hz := Ext.mv x8 hz
    have hE := Ext.tr hE x8
    have hnn6 : n0 ≤ n6 ∧ n6 ≤ 620 := ⟨by omega, hp.2⟩
    have hp1 := hp.1
    refine W.widen (k := (n6 - n0)) (n := 2 * (n6 - n0)) (by omega) (by omega) ?_
    have hcl : (n6 - n0) ≤ (rm_X3_readSum (d + 1) (620 - n0)).cells := (show (n6 - n0) ≤ 620 - n0 by omega)
    have hsl : 2 * (n6 - n0) ≤ (rm_X3_readSum (d + 1) (620 - n0)).slots := (show 2 * (n6 - n0) ≤ 2 * (620 - n0) by omega)
    have hP : va_P K.1 vwCl (wd K S5 M o g7) H := hP
    have hD : va_D (inA K) (wd K S5 M o g7) := hD
    refine lv_astore (lv' := [(6, .ref bu4), (5, .int v2), (4, .int (0 : Int32)), (0, .ref (K.2.2.1 7)), (1, .int x1), (2, .ref b2), (3, .int x3)]) hx hb dX3_readSum_64 hl (by decide) rfl (fun ls hl => ?_)
    refine lv_aload_n hx hb dX3_readSum_66 rfl (lv_at hl 3 rfl) ?_
    refine lv_aload_n hx hb dX3_readSum_67 rfl (lv_at hl 5 rfl) ?_
    refine lv_iload hx hb dX3_readSum_68 (lv_at hl 2 rfl) ?_
    refine lv_if_eq (tgt := 81) hx hb dX3_readSum_70 (by decide) (fun c9 => ?_) (fun c9 => ?_)
    · have h := gn_t h c9
      refine lv_aload hx hb dX3_readSum_81 (lv_at hl 0 rfl) ?_
      obtain ⟨n10, h⟩ := gn_yz h
      obtain ⟨u11, qu11, h⟩ := gn_bd h
      refine fc_V (rest := [.ref (K.2.2.1 7)]) ⟨hx, hb, hml, hown, hts⟩ hN hF hK hP hD hS (c_X1_plus l z K _ M o g7 hz b2 y2 my2 bu4 u4 mu4 u11 qu11) (cwV 1 hts gX3_readSum_X1_plus rfl rfl rfl (by decide +kernel) ⟨(show 3 + 1 ≤ 10 * (d + 1) + 10 by omega), (show 8 + (2 + 11) + 86 ≤ 400 * (d + 1) + 400 by omega)⟩) (fr_recv hK hP my2) rfl hl.1 rfl (Nat.le_of_ble_eq_true rfl) dX3_readSum_83 ⟨(show (n6 - n0) + 1 ≤ 620 - n0 by omega), (show 2 * (n6 - n0) + 2 ≤ 2 * (620 - n0) by omega)⟩ (fun bu11 g12 H locs x13 mu11 hp hP hD hS => ?_)
      have mu4 := Ext.mv x13 mu4
      have my2 := Ext.mv x13 my2
      have hz := Ext.mv x13 hz
      have hE := Ext.tr hE x13
      obtain ⟨n14, en14, h⟩ := gn_nm h
      have hnn14 : n0 ≤ n14 ∧ n14 ≤ 620 := ⟨by omega, by omega⟩
      refine W.widen (k := (n14 - n0)) (n := 2 * (n14 - n0)) (by omega) (by omega) ?_
      have hcl : (n14 - n0) ≤ (rm_X3_readSum (d + 1) (620 - n0)).cells := (show (n14 - n0) ≤ 620 - n0 by omega)
      have hsl : 2 * (n14 - n0) ≤ (rm_X3_readSum (d + 1) (620 - n0)).slots := (show 2 * (n14 - n0) ≤ 2 * (620 - n0) by omega)
      have hP : va_P K.1 vwCl (wd K S5 M o g12) H := hP
      have hD : va_D (inA K) (wd K S5 M o g12) := hD
      refine lv_iload hx hb dX3_readSum_86 (lv_at hl 1 rfl) ?_
      obtain ⟨u15, S16, qu15, h⟩ := gn_bd2 h
      refine fc_V (rest := []) ⟨hx, hb, hml, hown, hts⟩ hN hF hK hP hD hS (c_X3_bounded l z K M o g12 hz bu11 u11 mu11 _ _ u15 S16 qu15) (cwV 2 hts gX3_readSum_X3_bounded rfl rfl rfl (by decide +kernel) ⟨(show 2 + 1 ≤ 10 * (d + 1) + 10 by omega), (show 8 + (3 + 11) + 46 ≤ 400 * (d + 1) + 400 by omega)⟩) (va_recv hK hP (ci := 3) (q0 := 7) rfl rfl) rfl hl.1 rfl (Nat.le_of_ble_eq_true rfl) dX3_readSum_88 ⟨(show (n14 - n0) + 0 ≤ 620 - n0 by omega), (show 2 * (n14 - n0) + 0 ≤ 2 * (620 - n0) by omega)⟩ (fun bu15 g17 H locs x18 mu15 hp hP hD hS => ?_)
      have mu4 := Ext.mv x18 mu4
      have my2 := Ext.mv x18 my2
      have hz := Ext.mv x18 hz
      have hE := Ext.tr hE x18
      refine W.widen (k := (n14 - n0)) (n := 2 * (n14 - n0)) (by omega) (by omega) ?_
      have hcl : (n14 - n0) ≤ (rm_X3_readSum (d + 1) (620 - n0)).cells := (show (n14 - n0) ≤ 620 - n0 by omega)
      have hsl : 2 * (n14 - n0) ≤ (rm_X3_readSum (d + 1) (620 - n0)).slots := (show 2 * (n14 - n0) ≤ 2 * (620 - n0) by omega)
      have hP : va_P K.1 vwCl (wd K S16 M o g17) H := hP
      have hD : va_D (inA K) (wd K S16 M o g17) := hD
      refine lv_astore_n (lv' := [(2, .ref bu15), (6, .ref bu4), (5, .int v2), (4, .int (0 : Int32)), (0, .ref (K.2.2.1 7)), (1, .int x1), (3, .int x3)]) hx hb dX3_readSum_91 rfl hl (by decide) rfl (fun ls hl => ?_)
      obtain ⟨v19, ev19, h⟩ := gn_nm h
      refine lv_iinc (v := v19) (lv' := [(3, .int v19), (2, .ref bu15), (6, .ref bu4), (5, .int v2), (4, .int (0 : Int32)), (0, .ref (K.2.2.1 7)), (1, .int x1)]) hx hb dX3_readSum_92 hl (k := 6) rfl (by rw [ev19]; rfl) (by decide) rfl (fun ls hl => ?_)
      refine lv_goto (tgt := 8) hx hb dX3_readSum_95 (by decide) ?_
      exact hk8 n14 x1 u15 v19 S16 bu15 g17 _ _ hE hz hnn14 mu15 hP hD hS h ls (lv_sub hl [5, 6, 1, 0] rfl)
    · have h := gn_f h c9
      refine lv_aload hx hb dX3_readSum_73 (lv_at hl 0 rfl) ?_
      obtain ⟨n20, h⟩ := gn_yz h
      obtain ⟨u21, qu21, h⟩ := gn_bd h
      refine fc_V (rest := [.ref b2, .ref (K.2.2.1 7)]) ⟨hx, hb, hml, hown, hts⟩ hN hF hK hP hD hS (c_X1_opposite l z K _ M o g7 hz bu4 u4 mu4 u21 qu21) (cwV 0 hts gX3_readSum_X1_opposite rfl rfl rfl (by decide +kernel) ⟨(show 3 + 1 ≤ 10 * (d + 1) + 10 by omega), (show 8 + (1 + 11) + 86 ≤ 400 * (d + 1) + 400 by omega)⟩) (fr_recv hK hP mu4) rfl hl.1 rfl (Nat.le_of_ble_eq_true rfl) dX3_readSum_75 ⟨(show (n6 - n0) + 1 ≤ 620 - n0 by omega), (show 2 * (n6 - n0) + 2 ≤ 2 * (620 - n0) by omega)⟩ (fun bu21 g22 H locs x23 mu21 hp hP hD hS => ?_)
      have mu4 := Ext.mv x23 mu4
      have my2 := Ext.mv x23 my2
      have hz := Ext.mv x23 hz
      have hE := Ext.tr hE x23
      obtain ⟨n24, en24, h⟩ := gn_nm h
      have hnn24 : n0 ≤ n24 ∧ n24 ≤ 620 := ⟨by omega, by omega⟩
      refine W.widen (k := (n24 - n0)) (n := 2 * (n24 - n0)) (by omega) (by omega) ?_
      have hcl : (n24 - n0) ≤ (rm_X3_readSum (d + 1) (620 - n0)).cells := (show (n24 - n0) ≤ 620 - n0 by omega)
      have hsl : 2 * (n24 - n0) ≤ (rm_X3_readSum (d + 1) (620 - n0)).slots := (show 2 * (n24 - n0) ≤ 2 * (620 - n0) by omega)
      have hP : va_P K.1 vwCl (wd K S5 M o g22) H := hP
      have hD : va_D (inA K) (wd K S5 M o g22) := hD
      refine lv_goto (tgt := 83) hx hb dX3_readSum_78 (by decide) ?_
      obtain ⟨n25, h⟩ := gn_yz h
      obtain ⟨u26, qu26, h⟩ := gn_bd h
      refine fc_V (rest := [.ref (K.2.2.1 7)]) ⟨hx, hb, hml, hown, hts⟩ hN hF hK hP hD hS (c_X1_plus l z K _ M o g22 hz b2 y2 my2 bu21 u21 mu21 u26 qu26) (cwV 1 hts gX3_readSum_X1_plus rfl rfl rfl (by decide +kernel) ⟨(show 3 + 1 ≤ 10 * (d + 1) + 10 by omega), (show 8 + (2 + 11) + 86 ≤ 400 * (d + 1) + 400 by omega)⟩) (fr_recv hK hP my2) rfl hl.1 rfl (Nat.le_of_ble_eq_true rfl) dX3_readSum_83 ⟨(show (n24 - n0) + 1 ≤ 620 - n0 by omega), (show 2 * (n24 - n0) + 2 ≤ 2 * (620 - n0) by omega)⟩ (fun bu26 g27 H locs x28 mu26 hp hP hD hS => ?_)
      have mu4 := Ext.mv x28 mu4
      have my2 := Ext.mv x28 my2
      have hz := Ext.mv x28 hz
      have hE := Ext.tr hE x28
      obtain ⟨n29, en29, h⟩ := gn_nm h
      have hnn29 : n0 ≤ n29 ∧ n29 ≤ 620 := ⟨by omega, by omega⟩
      refine W.widen (k := (n29 - n0)) (n := 2 * (n29 - n0)) (by omega) (by omega) ?_
      have hcl : (n29 - n0) ≤ (rm_X3_readSum (d + 1) (620 - n0)).cells := (show (n29 - n0) ≤ 620 - n0 by omega)
      have hsl : 2 * (n29 - n0) ≤ (rm_X3_readSum (d + 1) (620 - n0)).slots := (show 2 * (n29 - n0) ≤ 2 * (620 - n0) by omega)
      have hP : va_P K.1 vwCl (wd K S5 M o g27) H := hP
      have hD : va_D (inA K) (wd K S5 M o g27) := hD
      refine lv_iload hx hb dX3_readSum_86 (lv_at hl 1 rfl) ?_
      obtain ⟨u30, S31, qu30, h⟩ := gn_bd2 h
      refine fc_V (rest := []) ⟨hx, hb, hml, hown, hts⟩ hN hF hK hP hD hS (c_X3_bounded l z K M o g27 hz bu26 u26 mu26 _ _ u30 S31 qu30) (cwV 2 hts gX3_readSum_X3_bounded rfl rfl rfl (by decide +kernel) ⟨(show 2 + 1 ≤ 10 * (d + 1) + 10 by omega), (show 8 + (3 + 11) + 46 ≤ 400 * (d + 1) + 400 by omega)⟩) (va_recv hK hP (ci := 3) (q0 := 7) rfl rfl) rfl hl.1 rfl (Nat.le_of_ble_eq_true rfl) dX3_readSum_88 ⟨(show (n29 - n0) + 0 ≤ 620 - n0 by omega), (show 2 * (n29 - n0) + 0 ≤ 2 * (620 - n0) by omega)⟩ (fun bu30 g32 H locs x33 mu30 hp hP hD hS => ?_)
      have mu4 := Ext.mv x33 mu4
      have my2 := Ext.mv x33 my2
      have hz := Ext.mv x33 hz
      have hE := Ext.tr hE x33
      refine W.widen (k := (n29 - n0)) (n := 2 * (n29 - n0)) (by omega) (by omega) ?_
      have hcl : (n29 - n0) ≤ (rm_X3_readSum (d + 1) (620 - n0)).cells := (show (n29 - n0) ≤ 620 - n0 by omega)
      have hsl : 2 * (n29 - n0) ≤ (rm_X3_readSum (d + 1) (620 - n0)).slots := (show 2 * (n29 - n0) ≤ 2 * (620 - n0) by omega)
      have hP : va_P K.1 vwCl (wd K S31 M o g32) H := hP
      have hD : va_D (inA K) (wd K S31 M o g32) := hD
      refine lv_astore_n (lv' := [(2, .ref bu30), (6, .ref bu4), (5, .int v2), (4, .int (0 : Int32)), (0, .ref (K.2.2.1 7)), (1, .int x1), (3, .int x3)]) hx hb dX3_readSum_91 rfl hl (by decide) rfl (fun ls hl => ?_)
      obtain ⟨v34, ev34, h⟩ := gn_nm h
      refine lv_iinc (v := v34) (lv' := [(3, .int v34), (2, .ref bu30), (6, .ref bu4), (5, .int v2), (4, .int (0 : Int32)), (0, .ref (K.2.2.1 7)), (1, .int x1)]) hx hb dX3_readSum_92 hl (k := 6) rfl (by rw [ev34]; rfl) (by decide) rfl (fun ls hl => ?_)
      refine lv_goto (tgt := 8) hx hb dX3_readSum_95 (by decide) ?_
      exact hk8 n29 x1 u30 v34 S31 bu30 g32 _ _ hE hz hnn29 mu30 hP hD hS h ls (lv_sub hl [5, 6, 1, 0] rfl)
  · have h := gn_t h c1
    refine lv_iconst (v := (1 : Int32)) hx hb dX3_readSum_42 (by decide) ?_
    refine lv_goto (tgt := 47) hx hb dX3_readSum_43 (by decide) ?_
    refine lv_istore (lv' := [(4, .int (1 : Int32)), (0, .ref (K.2.2.1 7)), (1, .int x1), (2, .ref b2), (3, .int x3)]) hx hb dX3_readSum_47 hl (by decide) rfl (fun ls hl => ?_)
    refine lv_aload_n hx hb dX3_readSum_49 rfl (lv_at hl 1 rfl) ?_
    refine va_get (D := K.1) (ci := 3) (v := .int (cg_at S)) (C := RX3) (T := TX3) (N := 8) hx hb hts in_X3_readSum_X3 hown hK hP 7 rfl rfl 3 (by decide) (hts (.fieldLink RX3 33 "SawSums$Reader" "at" "I") (by decide +kernel)) (fun _ h9 => h9) rfl dX3_readSum_50 ?_
    obtain ⟨v35, ev35, h⟩ := gn_nm h
    refine ln_i ev35 ?_
    refine lv_istore (lv' := [(5, .int v35), (4, .int (1 : Int32)), (0, .ref (K.2.2.1 7)), (1, .int x1), (2, .ref b2), (3, .int x3)]) hx hb dX3_readSum_53 hl (by decide) rfl (fun ls hl => ?_)
    refine lv_aload_n hx hb dX3_readSum_55 rfl (lv_at hl 2 rfl) ?_
    obtain ⟨S36, qS36, h⟩ := gn_bd h
    refine hc_V (rest := []) ⟨hx, hb, hml, hown, hts⟩ hN hF hK hP hD hS (c_X3_advance l z K _ o gg  _  S36 qS36) (cwV 0 hts gX3_readSum_X3_advance rfl rfl rfl (by decide +kernel) ⟨(show 1 + 1 ≤ 10 * (d + 1) + 10 by omega), (show 8 + (1 + 11) + 21 ≤ 400 * (d + 1) + 400 by omega)⟩) (va_recv hK hP (ci := 3) (q0 := 7) rfl rfl) rfl hl.1 rfl (Nat.le_of_ble_eq_true rfl) dX3_readSum_56 hcl hsl (fun H locs hP hD hS => ?_)
    have hP : va_P K.1 vwCl (wd K S36 M o gg) H := hP
    have hD : va_D (inA K) (wd K S36 M o gg) := hD
    refine W.eq (g2 := F0 m 59 ls []) rfl ?_
    refine lv_aload_n hx hb dX3_readSum_59 rfl (lv_at hl 2 rfl) ?_
    refine lv_iload_n hx hb dX3_readSum_60 rfl (lv_at hl 3 rfl) ?_
    obtain ⟨u37, S38, n39, qu37, h⟩ := gn_bd3 h
    refine fc_V (rest := []) ⟨hx, hb, hml, hown, hts⟩ hN hF hK hP hD hS (c_X3_readTerm l z K M o gg fs d hfs hz n hnn.2 _ _ u37 S38 n39 qu37) (cwV 1 hts gX3_readSum_X3_readTerm rfl rfl rfl (by decide +kernel) ⟨(show (10 * d + 14) + 1 ≤ 10 * (d + 1) + 10 by omega), (show 8 + (5 + 11) + (400 * d + 560) ≤ 400 * (d + 1) + 400 by omega)⟩) (va_recv hK hP (ci := 3) (q0 := 7) rfl rfl) rfl hl.1 rfl (Nat.le_of_ble_eq_true rfl) dX3_readSum_61 ⟨(show (n - n0) + (620 - n) ≤ 620 - n0 by omega), (show 2 * (n - n0) + 2 * (620 - n) ≤ 2 * (620 - n0) by omega)⟩ (fun bu37 g40 H locs x41 mu37 hp hP hD hS => ?_)
    have my2 := Ext.mv x41 my2
    have hz := Ext.mv x41 hz
    have hE := Ext.tr hE x41
    have hnn39 : n0 ≤ n39 ∧ n39 ≤ 620 := ⟨by omega, hp.2⟩
    have hp1 := hp.1
    refine W.widen (k := (n39 - n0)) (n := 2 * (n39 - n0)) (by omega) (by omega) ?_
    have hcl : (n39 - n0) ≤ (rm_X3_readSum (d + 1) (620 - n0)).cells := (show (n39 - n0) ≤ 620 - n0 by omega)
    have hsl : 2 * (n39 - n0) ≤ (rm_X3_readSum (d + 1) (620 - n0)).slots := (show 2 * (n39 - n0) ≤ 2 * (620 - n0) by omega)
    have hP : va_P K.1 vwCl (wd K S38 M o g40) H := hP
    have hD : va_D (inA K) (wd K S38 M o g40) := hD
    refine lv_astore (lv' := [(6, .ref bu37), (5, .int v35), (4, .int (1 : Int32)), (0, .ref (K.2.2.1 7)), (1, .int x1), (2, .ref b2), (3, .int x3)]) hx hb dX3_readSum_64 hl (by decide) rfl (fun ls hl => ?_)
    refine lv_aload_n hx hb dX3_readSum_66 rfl (lv_at hl 3 rfl) ?_
    refine lv_aload_n hx hb dX3_readSum_67 rfl (lv_at hl 5 rfl) ?_
    refine lv_iload hx hb dX3_readSum_68 (lv_at hl 2 rfl) ?_
    refine lv_if_eq (tgt := 81) hx hb dX3_readSum_70 (by decide) (fun c42 => ?_) (fun c42 => ?_)
    · have h := gn_t h c42
      refine lv_aload hx hb dX3_readSum_81 (lv_at hl 0 rfl) ?_
      obtain ⟨n43, h⟩ := gn_yz h
      obtain ⟨u44, qu44, h⟩ := gn_bd h
      refine fc_V (rest := [.ref (K.2.2.1 7)]) ⟨hx, hb, hml, hown, hts⟩ hN hF hK hP hD hS (c_X1_plus l z K _ M o g40 hz b2 y2 my2 bu37 u37 mu37 u44 qu44) (cwV 1 hts gX3_readSum_X1_plus rfl rfl rfl (by decide +kernel) ⟨(show 3 + 1 ≤ 10 * (d + 1) + 10 by omega), (show 8 + (2 + 11) + 86 ≤ 400 * (d + 1) + 400 by omega)⟩) (fr_recv hK hP my2) rfl hl.1 rfl (Nat.le_of_ble_eq_true rfl) dX3_readSum_83 ⟨(show (n39 - n0) + 1 ≤ 620 - n0 by omega), (show 2 * (n39 - n0) + 2 ≤ 2 * (620 - n0) by omega)⟩ (fun bu44 g45 H locs x46 mu44 hp hP hD hS => ?_)
      have mu37 := Ext.mv x46 mu37
      have my2 := Ext.mv x46 my2
      have hz := Ext.mv x46 hz
      have hE := Ext.tr hE x46
      obtain ⟨n47, en47, h⟩ := gn_nm h
      have hnn47 : n0 ≤ n47 ∧ n47 ≤ 620 := ⟨by omega, by omega⟩
      refine W.widen (k := (n47 - n0)) (n := 2 * (n47 - n0)) (by omega) (by omega) ?_
      have hcl : (n47 - n0) ≤ (rm_X3_readSum (d + 1) (620 - n0)).cells := (show (n47 - n0) ≤ 620 - n0 by omega)
      have hsl : 2 * (n47 - n0) ≤ (rm_X3_readSum (d + 1) (620 - n0)).slots := (show 2 * (n47 - n0) ≤ 2 * (620 - n0) by omega)
      have hP : va_P K.1 vwCl (wd K S38 M o g45) H := hP
      have hD : va_D (inA K) (wd K S38 M o g45) := hD
      refine lv_iload hx hb dX3_readSum_86 (lv_at hl 1 rfl) ?_
      obtain ⟨u48, S49, qu48, h⟩ := gn_bd2 h
      refine fc_V (rest := []) ⟨hx, hb, hml, hown, hts⟩ hN hF hK hP hD hS (c_X3_bounded l z K M o g45 hz bu44 u44 mu44 _ _ u48 S49 qu48) (cwV 2 hts gX3_readSum_X3_bounded rfl rfl rfl (by decide +kernel) ⟨(show 2 + 1 ≤ 10 * (d + 1) + 10 by omega), (show 8 + (3 + 11) + 46 ≤ 400 * (d + 1) + 400 by omega)⟩) (va_recv hK hP (ci := 3) (q0 := 7) rfl rfl) rfl hl.1 rfl (Nat.le_of_ble_eq_true rfl) dX3_readSum_88 ⟨(show (n47 - n0) + 0 ≤ 620 - n0 by omega), (show 2 * (n47 - n0) + 0 ≤ 2 * (620 - n0) by omega)⟩ (fun bu48 g50 H locs x51 mu48 hp hP hD hS => ?_)
      have mu37 := Ext.mv x51 mu37
      have my2 := Ext.mv x51 my2
      have hz := Ext.mv x51 hz
      have hE := Ext.tr hE x51
      refine W.widen (k := (n47 - n0)) (n := 2 * (n47 - n0)) (by omega) (by omega) ?_
      have hcl : (n47 - n0) ≤ (rm_X3_readSum (d + 1) (620 - n0)).cells := (show (n47 - n0) ≤ 620 - n0 by omega)
      have hsl : 2 * (n47 - n0) ≤ (rm_X3_readSum (d + 1) (620 - n0)).slots := (show 2 * (n47 - n0) ≤ 2 * (620 - n0) by omega)
      have hP : va_P K.1 vwCl (wd K S49 M o g50) H := hP
      have hD : va_D (inA K) (wd K S49 M o g50) := hD
      refine lv_astore_n (lv' := [(2, .ref bu48), (6, .ref bu37), (5, .int v35), (4, .int (1 : Int32)), (0, .ref (K.2.2.1 7)), (1, .int x1), (3, .int x3)]) hx hb dX3_readSum_91 rfl hl (by decide) rfl (fun ls hl => ?_)
      obtain ⟨v52, ev52, h⟩ := gn_nm h
      refine lv_iinc (v := v52) (lv' := [(3, .int v52), (2, .ref bu48), (6, .ref bu37), (5, .int v35), (4, .int (1 : Int32)), (0, .ref (K.2.2.1 7)), (1, .int x1)]) hx hb dX3_readSum_92 hl (k := 6) rfl (by rw [ev52]; rfl) (by decide) rfl (fun ls hl => ?_)
      refine lv_goto (tgt := 8) hx hb dX3_readSum_95 (by decide) ?_
      exact hk8 n47 x1 u48 v52 S49 bu48 g50 _ _ hE hz hnn47 mu48 hP hD hS h ls (lv_sub hl [5, 6, 1, 0] rfl)
    · have h := gn_f h c42
      refine lv_aload hx hb dX3_readSum_73 (lv_at hl 0 rfl) ?_
      obtain ⟨n53, h⟩ := gn_yz h
      obtain ⟨u54, qu54, h⟩ := gn_bd h
      refine fc_V (rest := [.ref b2, .ref (K.2.2.1 7)]) ⟨hx, hb, hml, hown, hts⟩ hN hF hK hP hD hS (c_X1_opposite l z K _ M o g40 hz bu37 u37 mu37 u54 qu54) (cwV 0 hts gX3_readSum_X1_opposite rfl rfl rfl (by decide +kernel) ⟨(show 3 + 1 ≤ 10 * (d + 1) + 10 by omega), (show 8 + (1 + 11) + 86 ≤ 400 * (d + 1) + 400 by omega)⟩) (fr_recv hK hP mu37) rfl hl.1 rfl (Nat.le_of_ble_eq_true rfl) dX3_readSum_75 ⟨(show (n39 - n0) + 1 ≤ 620 - n0 by omega), (show 2 * (n39 - n0) + 2 ≤ 2 * (620 - n0) by omega)⟩ (fun bu54 g55 H locs x56 mu54 hp hP hD hS => ?_)
      have mu37 := Ext.mv x56 mu37
      have my2 := Ext.mv x56 my2
      have hz := Ext.mv x56 hz
      have hE := Ext.tr hE x56
      obtain ⟨n57, en57, h⟩ := gn_nm h
      have hnn57 : n0 ≤ n57 ∧ n57 ≤ 620 := ⟨by omega, by omega⟩
      refine W.widen (k := (n57 - n0)) (n := 2 * (n57 - n0)) (by omega) (by omega) ?_
      have hcl : (n57 - n0) ≤ (rm_X3_readSum (d + 1) (620 - n0)).cells := (show (n57 - n0) ≤ 620 - n0 by omega)
      have hsl : 2 * (n57 - n0) ≤ (rm_X3_readSum (d + 1) (620 - n0)).slots := (show 2 * (n57 - n0) ≤ 2 * (620 - n0) by omega)
      have hP : va_P K.1 vwCl (wd K S38 M o g55) H := hP
      have hD : va_D (inA K) (wd K S38 M o g55) := hD
      refine lv_goto (tgt := 83) hx hb dX3_readSum_78 (by decide) ?_
      obtain ⟨n58, h⟩ := gn_yz h
      obtain ⟨u59, qu59, h⟩ := gn_bd h
      refine fc_V (rest := [.ref (K.2.2.1 7)]) ⟨hx, hb, hml, hown, hts⟩ hN hF hK hP hD hS (c_X1_plus l z K _ M o g55 hz b2 y2 my2 bu54 u54 mu54 u59 qu59) (cwV 1 hts gX3_readSum_X1_plus rfl rfl rfl (by decide +kernel) ⟨(show 3 + 1 ≤ 10 * (d + 1) + 10 by omega), (show 8 + (2 + 11) + 86 ≤ 400 * (d + 1) + 400 by omega)⟩) (fr_recv hK hP my2) rfl hl.1 rfl (Nat.le_of_ble_eq_true rfl) dX3_readSum_83 ⟨(show (n57 - n0) + 1 ≤ 620 - n0 by omega), (show 2 * (n57 - n0) + 2 ≤ 2 * (620 - n0) by omega)⟩ (fun bu59 g60 H locs x61 mu59 hp hP hD hS => ?_)
      have mu37 := Ext.mv x61 mu37
      have my2 := Ext.mv x61 my2
      have hz := Ext.mv x61 hz
      have hE := Ext.tr hE x61
      obtain ⟨n62, en62, h⟩ := gn_nm h
      have hnn62 : n0 ≤ n62 ∧ n62 ≤ 620 := ⟨by omega, by omega⟩
      refine W.widen (k := (n62 - n0)) (n := 2 * (n62 - n0)) (by omega) (by omega) ?_
      have hcl : (n62 - n0) ≤ (rm_X3_readSum (d + 1) (620 - n0)).cells := (show (n62 - n0) ≤ 620 - n0 by omega)
      have hsl : 2 * (n62 - n0) ≤ (rm_X3_readSum (d + 1) (620 - n0)).slots := (show 2 * (n62 - n0) ≤ 2 * (620 - n0) by omega)
      have hP : va_P K.1 vwCl (wd K S38 M o g60) H := hP
      have hD : va_D (inA K) (wd K S38 M o g60) := hD
      refine lv_iload hx hb dX3_readSum_86 (lv_at hl 1 rfl) ?_
      obtain ⟨u63, S64, qu63, h⟩ := gn_bd2 h
      refine fc_V (rest := []) ⟨hx, hb, hml, hown, hts⟩ hN hF hK hP hD hS (c_X3_bounded l z K M o g60 hz bu59 u59 mu59 _ _ u63 S64 qu63) (cwV 2 hts gX3_readSum_X3_bounded rfl rfl rfl (by decide +kernel) ⟨(show 2 + 1 ≤ 10 * (d + 1) + 10 by omega), (show 8 + (3 + 11) + 46 ≤ 400 * (d + 1) + 400 by omega)⟩) (va_recv hK hP (ci := 3) (q0 := 7) rfl rfl) rfl hl.1 rfl (Nat.le_of_ble_eq_true rfl) dX3_readSum_88 ⟨(show (n62 - n0) + 0 ≤ 620 - n0 by omega), (show 2 * (n62 - n0) + 0 ≤ 2 * (620 - n0) by omega)⟩ (fun bu63 g65 H locs x66 mu63 hp hP hD hS => ?_)
      have mu37 := Ext.mv x66 mu37
      have my2 := Ext.mv x66 my2
      have hz := Ext.mv x66 hz
      have hE := Ext.tr hE x66
      refine W.widen (k := (n62 - n0)) (n := 2 * (n62 - n0)) (by omega) (by omega) ?_
      have hcl : (n62 - n0) ≤ (rm_X3_readSum (d + 1) (620 - n0)).cells := (show (n62 - n0) ≤ 620 - n0 by omega)
      have hsl : 2 * (n62 - n0) ≤ (rm_X3_readSum (d + 1) (620 - n0)).slots := (show 2 * (n62 - n0) ≤ 2 * (620 - n0) by omega)
      have hP : va_P K.1 vwCl (wd K S64 M o g65) H := hP
      have hD : va_D (inA K) (wd K S64 M o g65) := hD
      refine lv_astore_n (lv' := [(2, .ref bu63), (6, .ref bu37), (5, .int v35), (4, .int (1 : Int32)), (0, .ref (K.2.2.1 7)), (1, .int x1), (3, .int x3)]) hx hb dX3_readSum_91 rfl hl (by decide) rfl (fun ls hl => ?_)
      obtain ⟨v67, ev67, h⟩ := gn_nm h
      refine lv_iinc (v := v67) (lv' := [(3, .int v67), (2, .ref bu63), (6, .ref bu37), (5, .int v35), (4, .int (1 : Int32)), (0, .ref (K.2.2.1 7)), (1, .int x1)]) hx hb dX3_readSum_92 hl (k := 6) rfl (by rw [ev67]; rfl) (by decide) rfl (fun ls hl => ?_)
      refine lv_goto (tgt := 8) hx hb dX3_readSum_95 (by decide) ?_
      exact hk8 n62 x1 u63 v67 S64 bu63 g65 _ _ hE hz hnn62 mu63 hP hD hS h ls (lv_sub hl [5, 6, 1, 0] rfl)
set_option maxRecDepth 100000 in
theorem w_X3_readSum_8 (Cc : Cx p s m args meth c cX3_readSum 7 RX3 wsX3_readSum (some (.object "SawSums$Fraction"))) (hK : va_K K.1 vwCl (tysOf K) s) (hF : SF K s) (hbs : K.2.2.2 ≤ s.heap.size) {fs : (Nat → Int32 → CS → Option ((Int64 × Int64) × CS × Nat))} {d : Nat} (hfs : ∀ (g : Gh) (n : Nat) (a : Int32) (S : CS) (v : Int64 × Int64) (S' : CS) (n' : Nat), (K.2.2.1 18 ∈ g.2.1 ∧ g.2.2 (K.2.2.1 18) = (0, 1)) → n ≤ 620 → fs n a S = some (v, S', n') → Met l yX3_readSum wsX3_readSum (rm_X3_readSum d (620 - n)) (qH K [.ref (K.2.2.1 7), .int a] S M o g) (qF K v S' M o g (n ≤ n' ∧ n' ≤ 620)) (n' - n) (2 * (n' - n)) (inA K)) {r : (Int64 × Int64)} {S' : CS} {n' : Nat} (nf : Nat) : ∀ (n : Nat) (x1 : Int32) (y2 : (Int64 × Int64)) (x3 : Int32) (S : CS) (b2 : Nat) (gg : Gh) (H : Heap) (locs : List Loc), Ext g gg → (K.2.2.1 18 ∈ gg.2.1 ∧ gg.2.2 (K.2.2.1 18) = (0, 1)) → (n0 ≤ n ∧ n ≤ 620) → (b2 ∈ gg.2.1 ∧ gg.2.2 b2 = y2) → va_P K.1 vwCl (wd K S M o gg) H → va_D (inA K) (wd K S M o gg) → va_S (inA K) s.heap H locs → G_X3_readSum_8 z fs nf n x1 y2 x3 S = some (r, S', n') → ∀ ls, lv_has ls 7 [(0, .ref (K.2.2.1 7)), (1, .int x1), (2, .ref b2), (3, .int x3)] → W p l e (rm_X3_readSum (d + 1) (620 - n0)) s m args below meth c H locs (n - n0) (2 * (n - n0)) (MQ below (qF K r S' M o g (n0 ≤ n' ∧ n' ≤ 620)) args s (n' - n0) (2 * (n' - n0)) (inA K)) (F0 m 8 ls []) := by
  obtain ⟨hx, hb, hml, hown, hts, hr, hlk, hN⟩ := id Cc
  induction nf with
  | zero => intro n x1 y2 x3 S b2 gg H locs hE hz hnn my2 hP hD hS h; cases h
  | succ nq ih =>
    intro n x1 y2 x3 S b2 gg H locs hE hz hnn my2 hP hD hS h ls hl
    rw [G_X3_readSum_8] at h
    have hnn := hnn
    have hcl : (n - n0) ≤ (rm_X3_readSum (d + 1) (620 - n0)).cells := (show (n - n0) ≤ 620 - n0 by omega)
    have hsl : 2 * (n - n0) ≤ (rm_X3_readSum (d + 1) (620 - n0)).slots := (show 2 * (n - n0) ≤ 2 * (620 - n0) by omega)
    refine lv_iload_n hx hb dX3_readSum_8 rfl (lv_at hl 3 rfl) ?_
    refine lv_sipush (v := (300 : Int32)) hx hb dX3_readSum_9 (by decide) ?_
    refine lv_icmp_ge (tgt := 98) hx hb dX3_readSum_12 (by decide) (fun c1 => ?_) (fun c1 => ?_)
    · have h := gn_t h c1
      refine lv_aload_n hx hb dX3_readSum_98 rfl (lv_at hl 2 rfl) ?_
      obtain ⟨rfl, h8⟩ := Prod.mk.inj (gn_some h)
      obtain ⟨rfl, rfl⟩ := Prod.mk.inj h8
      exact W.aret hx hb hr (Or.inl ⟨_, rfl⟩) (Or.inr ⟨_, rfl⟩) (fun t ht _ => ⟨_, _, rfl, hE, my2, hnn, by rw [ht]; exact hP, hD, hS.F ht⟩) hS.2.2 dX3_readSum_99 hlk
    · have h := gn_f h c1
      refine lv_aload_n hx hb dX3_readSum_15 rfl (lv_at hl 0 rfl) ?_
      refine va_get (D := K.1) (ci := 3) (v := .int (cg_token S)) (C := RX3) (T := TX3) (N := 8) hx hb hts in_X3_readSum_X3 hown hK hP 7 rfl rfl 4 (by decide) (hts (.fieldLink RX3 37 "SawSums$Reader" "token" "I") (by decide +kernel)) (fun _ h9 => h9) rfl dX3_readSum_16 ?_
      refine lv_bipush (v := (43 : Int32)) hx hb dX3_readSum_19 (by decide) ?_
      refine lv_icmp_eq (tgt := 33) hx hb dX3_readSum_21 (by decide) (fun c2 => ?_) (fun c2 => ?_)
      · have h := gn_t h c2
        exact w_X3_readSum_33 Cc hK hF hbs hfs ih n x1 y2 x3 S b2 gg _ _ hE hz hnn my2 hP hD hS h ls (lv_sub hl [0, 1, 2, 3] rfl)
      · have h := gn_f h c2
        refine lv_aload_n hx hb dX3_readSum_24 rfl (lv_at hl 0 rfl) ?_
        refine va_get (D := K.1) (ci := 3) (v := .int (cg_token S)) (C := RX3) (T := TX3) (N := 8) hx hb hts in_X3_readSum_X3 hown hK hP 7 rfl rfl 4 (by decide) (hts (.fieldLink RX3 37 "SawSums$Reader" "token" "I") (by decide +kernel)) (fun _ h9 => h9) rfl dX3_readSum_25 ?_
        refine lv_bipush (v := (45 : Int32)) hx hb dX3_readSum_28 (by decide) ?_
        refine lv_icmp_ne (tgt := 98) hx hb dX3_readSum_30 (by decide) (fun c3 => ?_) (fun c3 => ?_)
        · have h := gn_f h c3
          refine lv_aload_n hx hb dX3_readSum_98 rfl (lv_at hl 2 rfl) ?_
          obtain ⟨rfl, h8⟩ := Prod.mk.inj (gn_some h)
          obtain ⟨rfl, rfl⟩ := Prod.mk.inj h8
          exact W.aret hx hb hr (Or.inl ⟨_, rfl⟩) (Or.inr ⟨_, rfl⟩) (fun t ht _ => ⟨_, _, rfl, hE, my2, hnn, by rw [ht]; exact hP, hD, hS.F ht⟩) hS.2.2 dX3_readSum_99 hlk
        · have h := gn_t h c3
          exact w_X3_readSum_33 Cc hK hF hbs hfs ih n x1 y2 x3 S b2 gg _ _ hE hz hnn my2 hP hD hS h ls (lv_sub hl [0, 1, 2, 3] rfl)
end
set_option maxRecDepth 100000 in
theorem c_X3_readSumb (l : Launch) (z : Nat) (K : Ev) (M : MS) (o : Nat → Int64) (g : Gh) (fs : (Nat → Int32 → CS → Option ((Int64 × Int64) × CS × Nat))) (d : Nat) (hfs : ∀ (g : Gh) (n : Nat) (a : Int32) (S : CS) (v : Int64 × Int64) (S' : CS) (n' : Nat), (K.2.2.1 18 ∈ g.2.1 ∧ g.2.2 (K.2.2.1 18) = (0, 1)) → n ≤ 620 → fs n a S = some (v, S', n') → Met l yX3_readSum wsX3_readSum (rm_X3_readSum d (620 - n)) (qH K [.ref (K.2.2.1 7), .int a] S M o g) (qF K v S' M o g (n ≤ n' ∧ n' ≤ 620)) (n' - n) (2 * (n' - n)) (inA K)) (hz : K.2.2.1 18 ∈ g.2.1 ∧ g.2.2 (K.2.2.1 18) = (0, 1)) (n0 : Nat) (hnn : n0 ≤ 620) (a0 : Int32) (S : CS) (r : (Int64 × Int64)) (S' : CS) (n' : Nat) (h : F_X3_readSumb z fs n0 a0 S = some (r, S', n')) : Met l yX3_readSum wsX3_readSum (rm_X3_readSum (d + 1) (620 - n0)) (qH K [.ref (K.2.2.1 7), .int a0] S M o g) (qF K r S' M o g (n0 ≤ n' ∧ n' ≤ 620)) (n' - n0) (2 * (n' - n0)) (inA K) := by
  refine Met.ofW (cc := cX3_readSum) (maxL := 7) (ret := (some (.object "SawSums$Fraction"))) (by decide) rfl ?_
  intro p e s m args below meth c s₁ B hml hv
  obtain ⟨rfl, hN, hP, hK, hD, hF⟩ := hv
  have hx := B.exec
  have hb := B.bytes
  have hr := B.returns
  have hts := atoms_spec (ws := wsX3_readSum) B.pre
  have hown : s.vm.findClass RX3 = some m.cls := findClass_of_methodNamed B.named
  have hlk := B.notSynchronized
  have hbs := wd_bs hP hD
  have hE : Ext g g := Ext.rf
  have hnn0 : n0 ≤ n0 ∧ n0 ≤ 620 := ⟨Nat.le_refl _, hnn⟩
  have hnn := hnn0
  have Cc : Cx p s m _ meth c cX3_readSum 7 RX3 wsX3_readSum (some (.object "SawSums$Fraction")) := ⟨hx, hb, hml, hown, hts, hr, hlk, hN⟩
  have hS : va_S (inA K) s.heap s.heap [] := va_S.rf
  have hl := lv_entry ([.ref (K.2.2.1 7), .int a0]) (n := 7) (Nat.le_of_ble_eq_true rfl)
  rw [lg_entry_eq]
  generalize (lg_sl ([.ref (K.2.2.1 7), .int a0]) ++ List.replicate (7 - (lg_sl ([.ref (K.2.2.1 7), .int a0])).length) Slot.unset).toArray = ls at hl ⊢
  have hl : lv_has ls 7 [(0, .ref (K.2.2.1 7)), (1, .int a0)] := hl
  rw [F_X3_readSumb] at h
  refine W.widen (k := (n0 - n0)) (n := 2 * (n0 - n0)) (by omega) (by omega) ?_
  have hnn0 := hnn0
  have hcl : (n0 - n0) ≤ (rm_X3_readSum (d + 1) (620 - n0)).cells := (show (n0 - n0) ≤ 620 - n0 by omega)
  have hsl : 2 * (n0 - n0) ≤ (rm_X3_readSum (d + 1) (620 - n0)).slots := (show 2 * (n0 - n0) ≤ 2 * (620 - n0) by omega)
  refine lv_aload_n hx hb dX3_readSum_0 rfl (lv_at hl 0 rfl) ?_
  refine lv_iload_n hx hb dX3_readSum_1 rfl (lv_at hl 1 rfl) ?_
  obtain ⟨u1, S2, n3, qu1, h⟩ := gn_bd3 h
  refine fc_V (rest := []) ⟨hx, hb, hml, hown, hts⟩ hN hF hK hP hD hS (c_X3_readTerm l z K M o g fs d hfs hz n0 hnn0.2 _ _ u1 S2 n3 qu1) (cwV 1 hts gX3_readSum_X3_readTerm rfl rfl rfl (by decide +kernel) ⟨(show (10 * d + 14) + 1 ≤ 10 * (d + 1) + 10 by omega), (show 8 + (5 + 11) + (400 * d + 560) ≤ 400 * (d + 1) + 400 by omega)⟩) (va_recv hK hP (ci := 3) (q0 := 7) rfl rfl) rfl hl.1 rfl (Nat.le_of_ble_eq_true rfl) dX3_readSum_2 ⟨(show (n0 - n0) + (620 - n0) ≤ 620 - n0 by omega), (show 2 * (n0 - n0) + 2 * (620 - n0) ≤ 2 * (620 - n0) by omega)⟩ (fun bu1 g4 H locs x5 mu1 hp hP hD hS => ?_)
  have hz := Ext.mv x5 hz
  have hE := Ext.tr hE x5
  have hnn3 : n0 ≤ n3 ∧ n3 ≤ 620 := ⟨by omega, hp.2⟩
  have hp1 := hp.1
  refine W.widen (k := (n3 - n0)) (n := 2 * (n3 - n0)) (by omega) (by omega) ?_
  have hcl : (n3 - n0) ≤ (rm_X3_readSum (d + 1) (620 - n0)).cells := (show (n3 - n0) ≤ 620 - n0 by omega)
  have hsl : 2 * (n3 - n0) ≤ (rm_X3_readSum (d + 1) (620 - n0)).slots := (show 2 * (n3 - n0) ≤ 2 * (620 - n0) by omega)
  have hP : va_P K.1 vwCl (wd K S2 M o g4) H := hP
  have hD : va_D (inA K) (wd K S2 M o g4) := hD
  refine lv_astore_n (lv' := [(2, .ref bu1), (0, .ref (K.2.2.1 7)), (1, .int a0)]) hx hb dX3_readSum_5 rfl hl (by decide) rfl (fun ls hl => ?_)
  refine lv_iconst (v := (0 : Int32)) hx hb dX3_readSum_6 (by decide) ?_
  refine lv_istore_n (lv' := [(3, .int (0 : Int32)), (2, .ref bu1), (0, .ref (K.2.2.1 7)), (1, .int a0)]) hx hb dX3_readSum_7 rfl hl (by decide) rfl (fun ls hl => ?_)
  exact w_X3_readSum_8 Cc hK hF hbs hfs z n3 a0 u1 (0 : Int32) S2 bu1 g4 _ _ hE hz hnn3 mu1 hP hD hS h ls (lv_sub hl [2, 3, 1, 0] rfl)
theorem cr_X3_readSum (l : Launch) (z : Nat) (K : Ev) (M : MS) (o : Nat → Int64) (d : Nat) : ∀ (g : Gh) (n : Nat) (a : Int32) (S : CS) (v : Int64 × Int64) (S' : CS) (n' : Nat), (K.2.2.1 18 ∈ g.2.1 ∧ g.2.2 (K.2.2.1 18) = (0, 1)) → n ≤ 620 → F_X3_readSum z d n a S = some (v, S', n') → Met l yX3_readSum wsX3_readSum (rm_X3_readSum d (620 - n)) (qH K [.ref (K.2.2.1 7), .int a] S M o g) (qF K v S' M o g (n ≤ n' ∧ n' ≤ 620)) (n' - n) (2 * (n' - n)) (inA K) := by
  induction d with
  | zero => intro g n a S v S' n' _ _ h; cases h
  | succ d ih =>
    intro g n a S v S' n' hz hn h
    rw [F_X3_readSum] at h
    exact c_X3_readSumb l z K M o g (F_X3_readSum z d) d ih hz n hn a S v S' n' h
theorem c_X3_readSum (l : Launch) (z : Nat) (K : Ev) (d : Nat) (M : MS) (o : Nat → Int64) (g : Gh) (hz : K.2.2.1 18 ∈ g.2.1 ∧ g.2.2 (K.2.2.1 18) = (0, 1)) (n : Nat) (hn : n ≤ 620) (a : Int32) (S : CS) (v : Int64 × Int64) (S' : CS) (n' : Nat) (h : F_X3_readSum z d n a S = some (v, S', n')) : Met l yX3_readSum wsX3_readSum (rm_X3_readSum d (620 - n)) (qH K [.ref (K.2.2.1 7), .int a] S M o g) (qF K v S' M o g (n ≤ n' ∧ n' ≤ 620)) (n' - n) (2 * (n' - n)) (inA K) := cr_X3_readSum l z K M o d g n a S v S' n' hz hn h
theorem in_X3_workOut_X3 : ∀ w ∈ wsX30, w ∈ wsX3_workOut := fun _ h => List.mem_cons_of_mem _ (List.mem_append_left _ (List.mem_append_left _ (List.mem_append_left _ (List.mem_append_right _ h))))
def rm_X3_workOut (b : Nat) : Room := { frames := 131, cells := b, slots := 2 * b, locals := 5226 }
section
variable {p : Program} {l : Launch} {e : Env} {s : State} {m : MethodId} {args : Array Value} {below : List Frame} {meth : Method} {c : Code} {z : Nat} {K : Ev} {M : MS} {o : Nat → Int64} {g : Gh} {n0 : Nat}
end
set_option maxRecDepth 100000 in
theorem c_X3_workOut (l : Launch) (z : Nat) (K : Ev) (M : MS) (o : Nat → Int64) (g : Gh) (hz : K.2.2.1 18 ∈ g.2.1 ∧ g.2.2 (K.2.2.1 18) = (0, 1)) (n0 : Nat) (hnn : n0 ≤ 620) (a0 : Int32) (S : CS) (r : (Int64 × Int64)) (S' : CS) (n' : Nat) (h : F_X3_workOut z n0 a0 S = some (r, S', n')) : Met l yX3_workOut wsX3_workOut (rm_X3_workOut (620 - n0)) (qH K [.ref (K.2.2.1 7), .int a0] S M o g) (qF K r S' M o g (n0 ≤ n' ∧ n' ≤ 620)) (n' - n0) (2 * (n' - n0)) (inA K) := by
  refine Met.ofW (cc := cX3_workOut) (maxL := 3) (ret := (some (.object "SawSums$Fraction"))) (by decide) rfl ?_
  intro p e s m args below meth c s₁ B hml hv
  obtain ⟨rfl, hN, hP, hK, hD, hF⟩ := hv
  have hx := B.exec
  have hb := B.bytes
  have hr := B.returns
  have hts := atoms_spec (ws := wsX3_workOut) B.pre
  have hown : s.vm.findClass RX3 = some m.cls := findClass_of_methodNamed B.named
  have hlk := B.notSynchronized
  have hbs := wd_bs hP hD
  have hE : Ext g g := Ext.rf
  have hnn0 : n0 ≤ n0 ∧ n0 ≤ 620 := ⟨Nat.le_refl _, hnn⟩
  have hnn := hnn0
  have Cc : Cx p s m _ meth c cX3_workOut 3 RX3 wsX3_workOut (some (.object "SawSums$Fraction")) := ⟨hx, hb, hml, hown, hts, hr, hlk, hN⟩
  have hS : va_S (inA K) s.heap s.heap [] := va_S.rf
  have hl := lv_entry ([.ref (K.2.2.1 7), .int a0]) (n := 3) (Nat.le_of_ble_eq_true rfl)
  rw [lg_entry_eq]
  generalize (lg_sl ([.ref (K.2.2.1 7), .int a0]) ++ List.replicate (3 - (lg_sl ([.ref (K.2.2.1 7), .int a0])).length) Slot.unset).toArray = ls at hl ⊢
  have hl : lv_has ls 3 [(0, .ref (K.2.2.1 7)), (1, .int a0)] := hl
  rw [F_X3_workOut] at h
  refine W.widen (k := (n0 - n0)) (n := 2 * (n0 - n0)) (by omega) (by omega) ?_
  have hnn0 := hnn0
  have hcl : (n0 - n0) ≤ (rm_X3_workOut (620 - n0)).cells := (show (n0 - n0) ≤ 620 - n0 by omega)
  have hsl : 2 * (n0 - n0) ≤ (rm_X3_workOut (620 - n0)).slots := (show 2 * (n0 - n0) ≤ 2 * (620 - n0) by omega)
  refine lv_aload_n hx hb dX3_workOut_0 rfl (lv_at hl 0 rfl) ?_
  refine va_get (D := K.1) (ci := 3) (v := .ref (K.2.2.1 8)) (C := RX3) (T := TX3) (N := 8) hx hb hts in_X3_workOut_X3 hown hK hP 7 rfl rfl 0 (by decide) (hts (.fieldLink RX3 14 "SawSums$Reader" "tokens" "LSawSums$Tokens;") (by decide +kernel)) (fun _ h9 => h9) rfl dX3_workOut_1 ?_
  refine lv_iload_n hx hb dX3_workOut_4 rfl (lv_at hl 1 rfl) ?_
  obtain ⟨S1, qS1, h⟩ := gn_bd h
  refine hc_V (rest := []) ⟨hx, hb, hml, hown, hts⟩ hN hF hK hP hD hS (c_X4_cut l z K _ o g _ _  S1 qS1) (cwV 1 hts gX3_workOut_X4_cut rfl rfl rfl (by decide +kernel) ⟨(Nat.le_of_ble_eq_true rfl), (Nat.le_of_ble_eq_true rfl)⟩) (va_recv hK hP (ci := 4) (q0 := 8) rfl rfl) rfl hl.1 rfl (Nat.le_of_ble_eq_true rfl) dX3_workOut_5 hcl hsl (fun H locs hP hD hS => ?_)
  have hP : va_P K.1 vwCl (wd K S1 M o g) H := hP
  have hD : va_D (inA K) (wd K S1 M o g) := hD
  refine W.eq (g2 := F0 m 8 ls []) rfl ?_
  refine lv_aload_n hx hb dX3_workOut_8 rfl (lv_at hl 0 rfl) ?_
  refine lv_iconst (v := (0 : Int32)) hx hb dX3_workOut_9 (by decide) ?_
  obtain ⟨S2, eS2, h⟩ := gn_nm h
  refine va_put (D := K.1) (ci := 3) (v := .int (0 : Int32)) (ty := .int) (C := RX3) (T := TX3) (N := 8) hx hb hts in_X3_workOut_X3 tyX3 tyX3_ok nmX3 hown hK hP hD hS 7 rfl rfl 3 (by decide) (hts (.fieldLink RX3 33 "SawSums$Reader" "at" "I") (by decide +kernel)) (fun _ h9 => h9) rfl (by decide +kernel) rfl rfl (Nat.le_of_ble_eq_true rfl) dX3_workOut_10 (fun H locs hP hD hS => ?_)
  have hP : va_P K.1 vwCl (wd K S2 M o g) H := by rw [eS2]; exact hP
  have hD : va_D (inA K) (wd K S2 M o g) := by rw [eS2]; exact hD
  refine lv_aload_n hx hb dX3_workOut_13 rfl (lv_at hl 0 rfl) ?_
  refine lv_aload_n hx hb dX3_workOut_14 rfl (lv_at hl 0 rfl) ?_
  refine va_get (D := K.1) (ci := 3) (v := .ref (K.2.2.1 8)) (C := RX3) (T := TX3) (N := 8) hx hb hts in_X3_workOut_X3 hown hK hP 7 rfl rfl 0 (by decide) (hts (.fieldLink RX3 14 "SawSums$Reader" "tokens" "LSawSums$Tokens;") (by decide +kernel)) (fun _ h9 => h9) rfl dX3_workOut_15 ?_
  refine lv_iconst (v := (0 : Int32)) hx hb dX3_workOut_18 (by decide) ?_
  obtain ⟨r3, S4, qS4, h⟩ := gn_bd2 h
  refine hc_V (rest := [.ref (K.2.2.1 7)]) ⟨hx, hb, hml, hown, hts⟩ hN hF hK hP hD hS (c_X4_kindAt l z K _ o g _ _ r3 S4 qS4) (cwV 1 hts gX3_workOut_X4_kindAt rfl rfl rfl (by decide +kernel) ⟨(Nat.le_of_ble_eq_true rfl), (Nat.le_of_ble_eq_true rfl)⟩) (va_recv hK hP (ci := 4) (q0 := 8) rfl rfl) rfl hl.1 rfl (Nat.le_of_ble_eq_true rfl) dX3_workOut_19 hcl hsl (fun H locs hP hD hS => ?_)
  have hP : va_P K.1 vwCl (wd K S4 M o g) H := hP
  have hD : va_D (inA K) (wd K S4 M o g) := hD
  refine W.eq (g2 := F0 m 22 ls [.int r3, .ref (K.2.2.1 7)]) rfl ?_
  obtain ⟨S5, eS5, h⟩ := gn_nm h
  refine va_put (D := K.1) (ci := 3) (v := .int r3) (ty := .int) (C := RX3) (T := TX3) (N := 8) hx hb hts in_X3_workOut_X3 tyX3 tyX3_ok nmX3 hown hK hP hD hS 7 rfl rfl 4 (by decide) (hts (.fieldLink RX3 37 "SawSums$Reader" "token" "I") (by decide +kernel)) (fun _ h9 => h9) rfl (by decide +kernel) rfl rfl (Nat.le_of_ble_eq_true rfl) dX3_workOut_22 (fun H locs hP hD hS => ?_)
  have hP : va_P K.1 vwCl (wd K S5 M o g) H := by rw [eS5]; exact hP
  have hD : va_D (inA K) (wd K S5 M o g) := by rw [eS5]; exact hD
  refine lv_aload_n hx hb dX3_workOut_25 rfl (lv_at hl 0 rfl) ?_
  refine lv_iconst (v := (0 : Int32)) hx hb dX3_workOut_26 (by decide) ?_
  obtain ⟨S6, eS6, h⟩ := gn_nm h
  refine va_put (D := K.1) (ci := 3) (v := .int (0 : Int32)) (ty := .int) (C := RX3) (T := TX3) (N := 8) hx hb hts in_X3_workOut_X3 tyX3 tyX3_ok nmX3 hown hK hP hD hS 7 rfl rfl 5 (by decide) (hts (.fieldLink RX3 40 "SawSums$Reader" "refused" "I") (by decide +kernel)) (fun _ h9 => h9) rfl (by decide +kernel) rfl rfl (Nat.le_of_ble_eq_true rfl) dX3_workOut_27 (fun H locs hP hD hS => ?_)
  have hP : va_P K.1 vwCl (wd K S6 M o g) H := by rw [eS6]; exact hP
  have hD : va_D (inA K) (wd K S6 M o g) := by rw [eS6]; exact hD
  refine lv_aload_n hx hb dX3_workOut_30 rfl (lv_at hl 0 rfl) ?_
  refine lv_iconst (v := (0 : Int32)) hx hb dX3_workOut_31 (by decide) ?_
  obtain ⟨S7, eS7, h⟩ := gn_nm h
  refine va_put (D := K.1) (ci := 3) (v := .int (0 : Int32)) (ty := .int) (C := RX3) (T := TX3) (N := 8) hx hb hts in_X3_workOut_X3 tyX3 tyX3_ok nmX3 hown hK hP hD hS 7 rfl rfl 6 (by decide) (hts (.fieldLink RX3 43 "SawSums$Reader" "exceeded" "I") (by decide +kernel)) (fun _ h9 => h9) rfl (by decide +kernel) rfl rfl (Nat.le_of_ble_eq_true rfl) dX3_workOut_32 (fun H locs hP hD hS => ?_)
  have hP : va_P K.1 vwCl (wd K S7 M o g) H := by rw [eS7]; exact hP
  have hD : va_D (inA K) (wd K S7 M o g) := by rw [eS7]; exact hD
  refine lv_aload_n hx hb dX3_workOut_35 rfl (lv_at hl 0 rfl) ?_
  refine lv_iconst (v := (0 : Int32)) hx hb dX3_workOut_36 (by decide) ?_
  obtain ⟨S8, eS8, h⟩ := gn_nm h
  refine va_put (D := K.1) (ci := 3) (v := .int (0 : Int32)) (ty := .int) (C := RX3) (T := TX3) (N := 8) hx hb hts in_X3_workOut_X3 tyX3 tyX3_ok nmX3 hown hK hP hD hS 7 rfl rfl 7 (by decide) (hts (.fieldLink RX3 46 "SawSums$Reader" "sawSums" "I") (by decide +kernel)) (fun _ h9 => h9) rfl (by decide +kernel) rfl rfl (Nat.le_of_ble_eq_true rfl) dX3_workOut_37 (fun H locs hP hD hS => ?_)
  have hP : va_P K.1 vwCl (wd K S8 M o g) H := by rw [eS8]; exact hP
  have hD : va_D (inA K) (wd K S8 M o g) := by rw [eS8]; exact hD
  refine lv_aload_n hx hb dX3_workOut_40 rfl (lv_at hl 0 rfl) ?_
  refine lv_iconst (v := (0 : Int32)) hx hb dX3_workOut_41 (by decide) ?_
  obtain ⟨u9, S10, n11, qu9, h⟩ := gn_bd3 h
  refine fc_V (rest := []) ⟨hx, hb, hml, hown, hts⟩ hN hF hK hP hD hS (c_X3_readSum l z K 12 M o g hz n0 hnn0.2 _ _ u9 S10 n11 qu9) (cwV 1 hts gX3_workOut_X3_readSum rfl rfl rfl (by decide +kernel) ⟨(Nat.le_of_ble_eq_true rfl), (Nat.le_of_ble_eq_true rfl)⟩) (va_recv hK hP (ci := 3) (q0 := 7) rfl rfl) rfl hl.1 rfl (Nat.le_of_ble_eq_true rfl) dX3_workOut_42 ⟨(show (n0 - n0) + (620 - n0) ≤ 620 - n0 by omega), (show 2 * (n0 - n0) + 2 * (620 - n0) ≤ 2 * (620 - n0) by omega)⟩ (fun bu9 g12 H locs x13 mu9 hp hP hD hS => ?_)
  have hz := Ext.mv x13 hz
  have hE := Ext.tr hE x13
  have hnn11 : n0 ≤ n11 ∧ n11 ≤ 620 := ⟨by omega, hp.2⟩
  have hp1 := hp.1
  refine W.widen (k := (n11 - n0)) (n := 2 * (n11 - n0)) (by omega) (by omega) ?_
  have hcl : (n11 - n0) ≤ (rm_X3_workOut (620 - n0)).cells := (show (n11 - n0) ≤ 620 - n0 by omega)
  have hsl : 2 * (n11 - n0) ≤ (rm_X3_workOut (620 - n0)).slots := (show 2 * (n11 - n0) ≤ 2 * (620 - n0) by omega)
  have hP : va_P K.1 vwCl (wd K S10 M o g12) H := hP
  have hD : va_D (inA K) (wd K S10 M o g12) := hD
  refine lv_astore_n (lv' := [(2, .ref bu9), (0, .ref (K.2.2.1 7)), (1, .int a0)]) hx hb dX3_workOut_45 rfl hl (by decide) rfl (fun ls hl => ?_)
  refine lv_aload_n hx hb dX3_workOut_46 rfl (lv_at hl 1 rfl) ?_
  refine va_get (D := K.1) (ci := 3) (v := .int (cg_token S10)) (C := RX3) (T := TX3) (N := 8) hx hb hts in_X3_workOut_X3 hown hK hP 7 rfl rfl 4 (by decide) (hts (.fieldLink RX3 37 "SawSums$Reader" "token" "I") (by decide +kernel)) (fun _ h9 => h9) rfl dX3_workOut_47 ?_
  refine lv_iconst (v := (-1 : Int32)) hx hb dX3_workOut_50 (by decide) ?_
  refine lv_icmp_eq (tgt := 59) hx hb dX3_workOut_51 (by decide) (fun c14 => ?_) (fun c14 => ?_)
  · have h := gn_t h c14
    refine lv_aload_n hx hb dX3_workOut_59 rfl (lv_at hl 0 rfl) ?_
    obtain ⟨rfl, h8⟩ := Prod.mk.inj (gn_some h)
    obtain ⟨rfl, rfl⟩ := Prod.mk.inj h8
    exact W.aret hx hb hr (Or.inl ⟨_, rfl⟩) (Or.inr ⟨_, rfl⟩) (fun t ht _ => ⟨_, _, rfl, hE, mu9, hnn11, by rw [ht]; exact hP, hD, hS.F ht⟩) hS.2.2 dX3_workOut_60 hlk
  · have h := gn_f h c14
    refine lv_aload_n hx hb dX3_workOut_54 rfl (lv_at hl 1 rfl) ?_
    refine lv_iconst (v := (1 : Int32)) hx hb dX3_workOut_55 (by decide) ?_
    obtain ⟨S15, qS15, h⟩ := gn_bd h
    refine hc_V (rest := []) ⟨hx, hb, hml, hown, hts⟩ hN hF hK hP hD hS (c_X3_refuse l z K _ o g12 _ _  S15 qS15) (cwV 1 hts gX3_workOut_X3_refuse rfl rfl rfl (by decide +kernel) ⟨(Nat.le_of_ble_eq_true rfl), (Nat.le_of_ble_eq_true rfl)⟩) (va_recv hK hP (ci := 3) (q0 := 7) rfl rfl) rfl hl.1 rfl (Nat.le_of_ble_eq_true rfl) dX3_workOut_56 hcl hsl (fun H locs hP hD hS => ?_)
    have hP : va_P K.1 vwCl (wd K S15 M o g12) H := hP
    have hD : va_D (inA K) (wd K S15 M o g12) := hD
    refine W.eq (g2 := F0 m 59 ls []) rfl ?_
    refine lv_aload_n hx hb dX3_workOut_59 rfl (lv_at hl 0 rfl) ?_
    obtain ⟨rfl, h8⟩ := Prod.mk.inj (gn_some h)
    obtain ⟨rfl, rfl⟩ := Prod.mk.inj h8
    exact W.aret hx hb hr (Or.inl ⟨_, rfl⟩) (Or.inr ⟨_, rfl⟩) (fun t ht _ => ⟨_, _, rfl, hE, mu9, hnn11, by rw [ht]; exact hP, hD, hS.F ht⟩) hS.2.2 dX3_workOut_60 hlk
/-- the end of tell: the latest may be another -/
def qT (K : Ev) (rv : Option Value) (C : CS) (M : MS) (o : Nat → Int64) (g : Gh) (lt : Int64 × Int64) (P : Prop) : Array Value → State → Outcome → State → Prop := fun _ st oc t => ∃ g' : Gh, oc = .returned rv ∧ (∀ a, a ∈ g.2.1 → a ∈ g'.2.1 ∧ g'.2.2 a = g.2.2 a) ∧ (g'.1 ∈ g'.2.1 ∧ g'.2.2 g'.1 = lt) ∧ P ∧ va_P K.1 vwCl (wd K C M o g') t.heap ∧ va_D (inA K) (wd K C M o g') ∧ va_F (inA K) st t
theorem in_X6_tell_X3 : ∀ w ∈ wsX30, w ∈ wsX6_tell := fun _ h => List.mem_cons_of_mem _ (List.mem_append_left _ (List.mem_append_left _ (List.mem_append_left _ (List.mem_append_right _ h))))
theorem in_X6_tell_X6 : ∀ w ∈ wsX60, w ∈ wsX6_tell := fun _ h => List.mem_cons_of_mem _ (List.mem_append_left _ (List.mem_append_left _ (List.mem_append_left _ (List.mem_append_left _ (List.mem_append_right _ h)))))
def rm_X6_tell (b : Nat) : Room := { frames := 132, cells := b, slots := 2 * b, locals := 5248 }
section
variable {p : Program} {l : Launch} {e : Env} {s : State} {m : MethodId} {args : Array Value} {below : List Frame} {meth : Method} {c : Code} {z : Nat} {K : Ev} {M : MS} {o : Nat → Int64} {g : Gh} {n0 : Nat}
end
set_option maxRecDepth 100000 in
theorem c_X6_tell (l : Launch) (z : Nat) (K : Ev) (M : MS) (o : Nat → Int64) (g : Gh) (hz : K.2.2.1 18 ∈ g.2.1 ∧ g.2.2 (K.2.2.1 18) = (0, 1)) (n0 : Nat) (hnn : n0 ≤ 620) (lt : Int64 × Int64) (hla : g.1 ∈ g.2.1 ∧ g.2.2 g.1 = lt) (S : CS) (r : Int32) (S' : CS) (lt' : Int64 × Int64) (n' : Nat) (h : F_X6_tell z n0 lt S = some (r, S', lt', n')) : Met l yX6_tell wsX6_tell (rm_X6_tell (620 - n0)) (qH K [.ref (K.2.2.1 0)] S M o g) (qT K (some (.int r)) S' M o g lt' (n0 ≤ n' ∧ n' ≤ 620)) (n' - n0) (2 * (n' - n0)) (inA K) := by
  refine Met.ofW (cc := cX6_tell) (maxL := 3) (ret := (some .int)) (by decide) rfl ?_
  intro p e s m args below meth c s₁ B hml hv
  obtain ⟨rfl, hN, hP, hK, hD, hF⟩ := hv
  have hx := B.exec
  have hb := B.bytes
  have hr := B.returns
  have hts := atoms_spec (ws := wsX6_tell) B.pre
  have hown : s.vm.findClass RX6 = some m.cls := findClass_of_methodNamed B.named
  have hlk := B.notSynchronized
  have hbs := wd_bs hP hD
  have hE : Ext g g := Ext.rf
  have hnn0 : n0 ≤ n0 ∧ n0 ≤ 620 := ⟨Nat.le_refl _, hnn⟩
  have hnn := hnn0
  have Cc : Cx p s m _ meth c cX6_tell 3 RX6 wsX6_tell (some .int) := ⟨hx, hb, hml, hown, hts, hr, hlk, hN⟩
  have hS : va_S (inA K) s.heap s.heap [] := va_S.rf
  have hl := lv_entry ([.ref (K.2.2.1 0)]) (n := 3) (Nat.le_of_ble_eq_true rfl)
  rw [lg_entry_eq]
  generalize (lg_sl ([.ref (K.2.2.1 0)]) ++ List.replicate (3 - (lg_sl ([.ref (K.2.2.1 0)])).length) Slot.unset).toArray = ls at hl ⊢
  have hl : lv_has ls 3 [(0, .ref (K.2.2.1 0))] := hl
  rw [F_X6_tell] at h
  refine W.widen (k := (n0 - n0)) (n := 2 * (n0 - n0)) (by omega) (by omega) ?_
  have hnn0 := hnn0
  have hcl : (n0 - n0) ≤ (rm_X6_tell (620 - n0)).cells := (show (n0 - n0) ≤ 620 - n0 by omega)
  have hsl : 2 * (n0 - n0) ≤ (rm_X6_tell (620 - n0)).slots := (show 2 * (n0 - n0) ≤ 2 * (620 - n0) by omega)
  refine lv_aload_n hx hb dX6_tell_0 rfl (lv_at hl 0 rfl) ?_
  refine va_get (D := K.1) (ci := 5) (v := .ref (K.2.2.1 7)) (C := RX6) (T := TX6) (N := 9) hx hb hts in_X6_tell_X6 hown hK hP 0 rfl rfl 4 (by decide) (hts (.fieldLink RX6 36 "SawSums" "reader" "LSawSums$Reader;") (by decide +kernel)) (fun _ h9 => h9) rfl dX6_tell_1 ?_
  refine lv_aload_n hx hb dX6_tell_4 rfl (lv_at hl 0 rfl) ?_
  refine va_get (D := K.1) (ci := 5) (v := .int (cg_tapeLength S)) (C := RX6) (T := TX6) (N := 9) hx hb hts in_X6_tell_X6 hown hK hP 0 rfl rfl 5 (by decide) (hts (.fieldLink RX6 40 "SawSums" "tapeLength" "I") (by decide +kernel)) (fun _ h9 => h9) rfl dX6_tell_5 ?_
  obtain ⟨u1, S2, n3, qu1, h⟩ := gn_bd3 h
  refine fc_V (rest := []) ⟨hx, hb, hml, hown, hts⟩ hN hF hK hP hD hS (c_X3_workOut l z K M o g hz n0 hnn0.2 _ _ u1 S2 n3 qu1) (cwV 1 hts gX6_tell_X3_workOut rfl rfl rfl (by decide +kernel) ⟨(Nat.le_of_ble_eq_true rfl), (Nat.le_of_ble_eq_true rfl)⟩) (va_recv hK hP (ci := 3) (q0 := 7) rfl rfl) rfl hl.1 rfl (Nat.le_of_ble_eq_true rfl) dX6_tell_8 ⟨(show (n0 - n0) + (620 - n0) ≤ 620 - n0 by omega), (show 2 * (n0 - n0) + 2 * (620 - n0) ≤ 2 * (620 - n0) by omega)⟩ (fun bu1 g4 H locs x5 mu1 hp hP hD hS => ?_)
  have hz := Ext.mv x5 hz
  have hE := Ext.tr hE x5
  have hnn3 : n0 ≤ n3 ∧ n3 ≤ 620 := ⟨by omega, hp.2⟩
  have hp1 := hp.1
  refine W.widen (k := (n3 - n0)) (n := 2 * (n3 - n0)) (by omega) (by omega) ?_
  have hcl : (n3 - n0) ≤ (rm_X6_tell (620 - n0)).cells := (show (n3 - n0) ≤ 620 - n0 by omega)
  have hsl : 2 * (n3 - n0) ≤ (rm_X6_tell (620 - n0)).slots := (show 2 * (n3 - n0) ≤ 2 * (620 - n0) by omega)
  have hP : va_P K.1 vwCl (wd K S2 M o g4) H := hP
  have hD : va_D (inA K) (wd K S2 M o g4) := hD
  refine lv_astore_n (lv' := [(1, .ref bu1), (0, .ref (K.2.2.1 0))]) hx hb dX6_tell_11 rfl hl (by decide) rfl (fun ls hl => ?_)
  refine lv_aload_n hx hb dX6_tell_12 rfl (lv_at hl 1 rfl) ?_
  refine lv_iconst (v := (0 : Int32)) hx hb dX6_tell_13 (by decide) ?_
  obtain ⟨S6, eS6, h⟩ := gn_nm h
  refine va_put (D := K.1) (ci := 5) (v := .int (0 : Int32)) (ty := .int) (C := RX6) (T := TX6) (N := 9) hx hb hts in_X6_tell_X6 tyX6 tyX6_ok nmX6 hown hK hP hD hS 0 rfl rfl 5 (by decide) (hts (.fieldLink RX6 40 "SawSums" "tapeLength" "I") (by decide +kernel)) (fun _ h9 => h9) rfl (by decide +kernel) rfl rfl (Nat.le_of_ble_eq_true rfl) dX6_tell_14 (fun H locs hP hD hS => ?_)
  have hP : va_P K.1 vwCl (wd K S6 M o g4) H := by rw [eS6]; exact hP
  have hD : va_D (inA K) (wd K S6 M o g4) := by rw [eS6]; exact hD
  refine lv_aload_n hx hb dX6_tell_17 rfl (lv_at hl 1 rfl) ?_
  refine va_get (D := K.1) (ci := 5) (v := .ref (K.2.2.1 7)) (C := RX6) (T := TX6) (N := 9) hx hb hts in_X6_tell_X6 hown hK hP 0 rfl rfl 4 (by decide) (hts (.fieldLink RX6 36 "SawSums" "reader" "LSawSums$Reader;") (by decide +kernel)) (fun _ h9 => h9) rfl dX6_tell_18 ?_
  obtain ⟨r7, S8, qS8, h⟩ := gn_bd2 h
  refine hc_V (rest := []) ⟨hx, hb, hml, hown, hts⟩ hN hF hK hP hD hS (c_X3_fault l z K _ o g4  _ r7 S8 qS8) (cwV 0 hts gX6_tell_X3_fault rfl rfl rfl (by decide +kernel) ⟨(Nat.le_of_ble_eq_true rfl), (Nat.le_of_ble_eq_true rfl)⟩) (va_recv hK hP (ci := 3) (q0 := 7) rfl rfl) rfl hl.1 rfl (Nat.le_of_ble_eq_true rfl) dX6_tell_21 hcl hsl (fun H locs hP hD hS => ?_)
  have hP : va_P K.1 vwCl (wd K S8 M o g4) H := hP
  have hD : va_D (inA K) (wd K S8 M o g4) := hD
  refine W.eq (g2 := F0 m 24 ls [.int r7]) rfl ?_
  refine lv_istore_n (lv' := [(2, .int r7), (1, .ref bu1), (0, .ref (K.2.2.1 0))]) hx hb dX6_tell_24 rfl hl (by decide) rfl (fun ls hl => ?_)
  refine lv_iload_n hx hb dX6_tell_25 rfl (lv_at hl 0 rfl) ?_
  refine lv_if_ne (tgt := 55) hx hb dX6_tell_26 (by decide) (fun c9 => ?_) (fun c9 => ?_)
  · have h := gn_f h c9
    refine lv_iload_n hx hb dX6_tell_55 rfl (lv_at hl 0 rfl) ?_
    obtain ⟨rfl, h8⟩ := Prod.mk.inj (gn_some h)
    obtain ⟨rfl, h9⟩ := Prod.mk.inj h8
    obtain ⟨rfl, rfl⟩ := Prod.mk.inj h9
    exact W.iret hx hb hr (fun t ht _ => ⟨g4, rfl, hE.2, (by rw [hE.1]; exact Ext.mv hE hla), hnn3, by rw [ht]; exact hP, hD, hS.F ht⟩) hS.2.2 dX6_tell_56 hlk
  · have h := gn_t h c9
    refine lv_aload_n hx hb dX6_tell_29 rfl (lv_at hl 2 rfl) ?_
    refine lv_aload_n hx hb dX6_tell_30 rfl (lv_at hl 1 rfl) ?_
    refine va_put (D := K.1) (ci := 5) (v := .ref bu1) (ty := .object "SawSums$Fraction") (C := RX6) (T := TX6) (N := 9) hx hb hts in_X6_tell_X6 tyX6 tyX6_ok nmX6 hown hK hP hD hS 0 rfl rfl 6 (by decide) (hts (.fieldLink RX6 49 "SawSums" "latest" "LSawSums$Fraction;") (by decide +kernel)) (fun _ h9 => h9) rfl (by decide +kernel) rfl rfl (Nat.le_of_ble_eq_true rfl) dX6_tell_31 (fun H locs hP hD hS => ?_)
    have hP : va_P K.1 vwCl (wd K S8 M o (bu1, g4.2)) H := hP
    have hD : va_D (inA K) (wd K S8 M o (bu1, g4.2)) := hD
    refine lv_aload_n hx hb dX6_tell_34 rfl (lv_at hl 2 rfl) ?_
    refine lv_dup hx hb dX6_tell_35 rfl ?_
    refine va_get (D := K.1) (ci := 5) (v := .int (cg_sumsTold S8)) (C := RX6) (T := TX6) (N := 9) hx hb hts in_X6_tell_X6 hown hK hP 0 rfl rfl 7 (by decide) (hts (.fieldLink RX6 53 "SawSums" "sumsTold" "I") (by decide +kernel)) (fun _ h9 => h9) rfl dX6_tell_36 ?_
    refine lv_iconst (v := (1 : Int32)) hx hb dX6_tell_39 (by decide) ?_
    refine lv_iadd hx hb dX6_tell_40 ?_
    obtain ⟨v10, ev10, h⟩ := gn_nm h
    refine ln_i ev10 ?_
    obtain ⟨S11, eS11, h⟩ := gn_nm h
    refine va_put (D := K.1) (ci := 5) (v := .int v10) (ty := .int) (C := RX6) (T := TX6) (N := 9) hx hb hts in_X6_tell_X6 tyX6 tyX6_ok nmX6 hown hK hP hD hS 0 rfl rfl 7 (by decide) (hts (.fieldLink RX6 53 "SawSums" "sumsTold" "I") (by decide +kernel)) (fun _ h9 => h9) rfl (by decide +kernel) rfl rfl (Nat.le_of_ble_eq_true rfl) dX6_tell_41 (fun H locs hP hD hS => ?_)
    have hP : va_P K.1 vwCl (wd K S11 M o (bu1, g4.2)) H := by rw [eS11]; exact hP
    have hD : va_D (inA K) (wd K S11 M o (bu1, g4.2)) := by rw [eS11]; exact hD
    refine lv_aload_n hx hb dX6_tell_44 rfl (lv_at hl 2 rfl) ?_
    refine lv_aload_n hx hb dX6_tell_45 rfl (lv_at hl 2 rfl) ?_
    refine va_get (D := K.1) (ci := 5) (v := .ref (K.2.2.1 7)) (C := RX6) (T := TX6) (N := 9) hx hb hts in_X6_tell_X6 hown hK hP 0 rfl rfl 4 (by decide) (hts (.fieldLink RX6 36 "SawSums" "reader" "LSawSums$Reader;") (by decide +kernel)) (fun _ h9 => h9) rfl dX6_tell_46 ?_
    refine va_getN (D := K.1) (ci := 3) (v := .int (cg_sawSums S11)) (C := RX3) (T := TX3) (N := 8) hx hb hts in_X6_tell_X3 hown hK hP 7 rfl rfl 7 (by decide) (va_Nw.use rfl hN.2.2.2.2.2.2) (fun _ h9 => h9) rfl dX6_tell_49 ?_
    obtain ⟨v12, ev12, h⟩ := gn_nm h
    refine ln_i ev12 ?_
    obtain ⟨S13, eS13, h⟩ := gn_nm h
    refine va_put (D := K.1) (ci := 5) (v := .int v12) (ty := .int) (C := RX6) (T := TX6) (N := 9) hx hb hts in_X6_tell_X6 tyX6 tyX6_ok nmX6 hown hK hP hD hS 0 rfl rfl 8 (by decide) (hts (.fieldLink RX6 56 "SawSums" "sawSumsInLatest" "I") (by decide +kernel)) (fun _ h9 => h9) rfl (by decide +kernel) rfl rfl (Nat.le_of_ble_eq_true rfl) dX6_tell_52 (fun H locs hP hD hS => ?_)
    have hP : va_P K.1 vwCl (wd K S13 M o (bu1, g4.2)) H := by rw [eS13]; exact hP
    have hD : va_D (inA K) (wd K S13 M o (bu1, g4.2)) := by rw [eS13]; exact hD
    refine lv_iload_n hx hb dX6_tell_55 rfl (lv_at hl 0 rfl) ?_
    obtain ⟨rfl, h8⟩ := Prod.mk.inj (gn_some h)
    obtain ⟨rfl, h9⟩ := Prod.mk.inj h8
    obtain ⟨rfl, rfl⟩ := Prod.mk.inj h9
    exact W.iret hx hb hr (fun t ht _ => ⟨(bu1, g4.2), rfl, hE.2, mu1, hnn3, by rw [ht]; exact hP, hD, hS.F ht⟩) hS.2.2 dX6_tell_56 hlk
