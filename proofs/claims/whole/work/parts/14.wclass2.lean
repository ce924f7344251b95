theorem in_X6_set_X6 : ∀ w ∈ wsX60, w ∈ wsX6_set := fun _ h => List.mem_cons_of_mem _ (List.mem_append_left _ (List.mem_append_right _ h))
def rm_X6_set : Room := { frames := 3, cells := 0, slots := 0, locals := 80 }
section
variable {p : Program} {l : Launch} {e : Env} {s : State} {m : MethodId} {args : Array Value} {below : List Frame} {meth : Method} {c : Code} {z : Nat} {K : Ev} {M : MS} {o : Nat → Int64} {g : Gh}
end
set_option maxRecDepth 100000 in
theorem c_X6_set (l : Launch) (z : Nat) (K : Ev) (M : MS) (o : Nat → Int64) (g : Gh) (a0 : Int32) (a1 : Int32) (a2 : Int32) (a3 : Int32) (S : CS) (r : Int32) (S' : CS) (h : F_X6_set z a0 a1 a2 a3 S = some (r, S')) : Met l yX6_set wsX6_set rm_X6_set (qH K [.ref (K.2.2.1 0), .int a0, .int a1, .int a2, .int a3] S M o g) (qR K (some (.int r)) S' M o g) 0 0 (inA K) := by
  refine Met.ofW (cc := cX6_set) (maxL := 5) (ret := (some .boolean)) (by decide) rfl ?_
  intro p e s m args below meth c s₁ B hml hv
  obtain ⟨rfl, hN, hP, hK, hD, hF⟩ := hv
  have hx := B.exec
  have hb := B.bytes
  have hr := B.returns
  have hts := atoms_spec (ws := wsX6_set) B.pre
  have hown : s.vm.findClass RX6 = some m.cls := findClass_of_methodNamed B.named
  have hlk := B.notSynchronized
  have hcl : 0 ≤ (rm_X6_set).cells := Nat.zero_le _
  have hsl : 0 ≤ (rm_X6_set).slots := Nat.zero_le _
  have Cc : Cx p s m _ meth c cX6_set 5 RX6 wsX6_set (some .boolean) := ⟨hx, hb, hml, hown, hts, hr, hlk, hN⟩
  have hS : va_S (inA K) s.heap s.heap [] := va_S.rf
  have hl := lv_entry ([.ref (K.2.2.1 0), .int a0, .int a1, .int a2, .int a3]) (n := 5) (Nat.le_of_ble_eq_true rfl)
  rw [lg_entry_eq]
  generalize (lg_sl ([.ref (K.2.2.1 0), .int a0, .int a1, .int a2, .int a3]) ++ List.replicate (5 - (lg_sl ([.ref (K.2.2.1 0), .int a0, .int a1, .int a2, .int a3])).length) Slot.unset).toArray = ls at hl ⊢
  have hl : lv_has ls 5 [(0, .ref (K.2.2.1 0)), (1, .int a0), (2, .int a1), (3, .int a2), (4, .int a3)] := hl
  rw [F_X6_set] at h
  refine lv_aload_n hx hb dX6_set_0 rfl (lv_at hl 0 rfl) ?_
  refine va_get (D := K.1) (ci := 5) (v := .ref (K.2.2.1 1)) (C := RX6) (T := TX6) (N := 9) hx hb hts in_X6_set_X6 hown hK hP 0 rfl rfl 0 (by decide) (hts (.fieldLink RX6 10 "SawSums" "matrix" "LSawSums$Matrix;") (by decide +kernel)) (fun _ h9 => h9) rfl dX6_set_1 ?_
  refine lv_iload_n hx hb dX6_set_4 rfl (lv_at hl 1 rfl) ?_
  refine lv_i2l hx hb dX6_set_5 rfl ?_
  refine lv_iload_n hx hb dX6_set_6 rfl (lv_at hl 2 rfl) ?_
  refine lv_i2l hx hb dX6_set_7 rfl ?_
  refine lv_iload_n hx hb dX6_set_8 rfl (lv_at hl 3 rfl) ?_
  refine lv_i2l hx hb dX6_set_9 rfl ?_
  refine lv_iload hx hb dX6_set_10 (lv_at hl 4 rfl) ?_
  refine lv_i2l hx hb dX6_set_12 rfl ?_
  obtain ⟨r1, S2, qS2, h⟩ := gn_bd2 h
  refine hc_V (rest := []) ⟨hx, hb, hml, hown, hts⟩ hN hF hK hP hD hS (c_X2_become l z K _ o g _ _ _ _ _ r1 S2 qS2) (cwV 4 hts gX6_set_X2_become rfl rfl rfl (by decide +kernel) ⟨(Nat.le_of_ble_eq_true rfl), (Nat.le_of_ble_eq_true rfl)⟩) (va_recv hK hP (ci := 2) (q0 := 1) rfl rfl) rfl hl.1 rfl (Nat.le_of_ble_eq_true rfl) dX6_set_13 hcl hsl (fun H locs hP hD hS => ?_)
  have hP : va_P K.1 vwCl (wd K S2 M o g) H := hP
  have hD : va_D (inA K) (wd K S2 M o g) := hD
  refine W.eq (g2 := F0 m 16 ls [.int r1]) rfl ?_
  obtain ⟨n3, h⟩ := gn_yz h
  obtain ⟨rfl, rfl⟩ := Prod.mk.inj (gn_some h)
  exact W.zret (ty := .boolean) hx hb hr (nb_ok n3) (fun t ht _ => ⟨rfl, by rw [ht]; exact hP, hD, hS.F ht⟩) hS.2.2 dX6_set_16 hlk
theorem in_X6_turn_X6 : ∀ w ∈ wsX60, w ∈ wsX6_turn := fun _ h => List.mem_cons_of_mem _ (List.mem_append_left _ (List.mem_append_right _ h))
def rm_X6_turn : Room := { frames := 4, cells := 0, slots := 0, locals := 108 }
section
variable {p : Program} {l : Launch} {e : Env} {s : State} {m : MethodId} {args : Array Value} {below : List Frame} {meth : Method} {c : Code} {z : Nat} {K : Ev} {M : MS} {o : Nat → Int64} {g : Gh}
end
set_option maxRecDepth 100000 in
theorem c_X6_turn (l : Launch) (z : Nat) (K : Ev) (M : MS) (o : Nat → Int64) (g : Gh)  (S : CS) (r : Int32) (S' : CS) (h : F_X6_turn z S = some (r, S')) : Met l yX6_turn wsX6_turn rm_X6_turn (qH K [.ref (K.2.2.1 0)] S M o g) (qR K (some (.int r)) S' M o g) 0 0 (inA K) := by
  refine Met.ofW (cc := cX6_turn) (maxL := 1) (ret := (some .boolean)) (by decide) rfl ?_
  intro p e s m args below meth c s₁ B hml hv
  obtain ⟨rfl, hN, hP, hK, hD, hF⟩ := hv
  have hx := B.exec
  have hb := B.bytes
  have hr := B.returns
  have hts := atoms_spec (ws := wsX6_turn) B.pre
  have hown : s.vm.findClass RX6 = some m.cls := findClass_of_methodNamed B.named
  have hlk := B.notSynchronized
  have hcl : 0 ≤ (rm_X6_turn).cells := Nat.zero_le _
  have hsl : 0 ≤ (rm_X6_turn).slots := Nat.zero_le _
  have Cc : Cx p s m _ meth c cX6_turn 1 RX6 wsX6_turn (some .boolean) := ⟨hx, hb, hml, hown, hts, hr, hlk, hN⟩
  have hS : va_S (inA K) s.heap s.heap [] := va_S.rf
  have hl := lv_entry ([.ref (K.2.2.1 0)]) (n := 1) (Nat.le_of_ble_eq_true rfl)
  rw [lg_entry_eq]
  generalize (lg_sl ([.ref (K.2.2.1 0)]) ++ List.replicate (1 - (lg_sl ([.ref (K.2.2.1 0)])).length) Slot.unset).toArray = ls at hl ⊢
  have hl : lv_has ls 1 [(0, .ref (K.2.2.1 0))] := hl
  rw [F_X6_turn] at h
  refine lv_aload_n hx hb dX6_turn_0 rfl (lv_at hl 0 rfl) ?_
  refine va_get (D := K.1) (ci := 5) (v := .ref (K.2.2.1 1)) (C := RX6) (T := TX6) (N := 9) hx hb hts in_X6_turn_X6 hown hK hP 0 rfl rfl 0 (by decide) (hts (.fieldLink RX6 10 "SawSums" "matrix" "LSawSums$Matrix;") (by decide +kernel)) (fun _ h9 => h9) rfl dX6_turn_1 ?_
  refine lv_lconst (v := (0 : Int64)) hx hb dX6_turn_4 (by decide) ?_
  refine lv_ldc2 hx hb hown (hts (.constantLong RX6 169 (-1)) (by decide +kernel)) dX6_turn_5 ?_
  refine lv_lconst (v := (1 : Int64)) hx hb dX6_turn_8 (by decide) ?_
  refine lv_lconst (v := (0 : Int64)) hx hb dX6_turn_9 (by decide) ?_
  obtain ⟨r1, S2, qS2, h⟩ := gn_bd2 h
  refine hc_V (rest := []) ⟨hx, hb, hml, hown, hts⟩ hN hF hK hP hD hS (c_X2_multiply l z K _ o g _ _ _ _ _ r1 S2 qS2) (cwV 4 hts gX6_turn_X2_multiply rfl rfl rfl (by decide +kernel) ⟨(Nat.le_of_ble_eq_true rfl), (Nat.le_of_ble_eq_true rfl)⟩) (va_recv hK hP (ci := 2) (q0 := 1) rfl rfl) rfl hl.1 rfl (Nat.le_of_ble_eq_true rfl) dX6_turn_10 hcl hsl (fun H locs hP hD hS => ?_)
  have hP : va_P K.1 vwCl (wd K S2 M o g) H := hP
  have hD : va_D (inA K) (wd K S2 M o g) := hD
  refine W.eq (g2 := F0 m 13 ls [.int r1]) rfl ?_
  obtain ⟨n3, h⟩ := gn_yz h
  obtain ⟨rfl, rfl⟩ := Prod.mk.inj (gn_some h)
  exact W.zret (ty := .boolean) hx hb hr (nb_ok n3) (fun t ht _ => ⟨rfl, by rw [ht]; exact hP, hD, hS.F ht⟩) hS.2.2 dX6_turn_13 hlk
theorem in_X6_shift_X6 : ∀ w ∈ wsX60, w ∈ wsX6_shift := fun _ h => List.mem_cons_of_mem _ (List.mem_append_left _ (List.mem_append_right _ h))
def rm_X6_shift : Room := { frames := 4, cells := 0, slots := 0, locals := 108 }
section
variable {p : Program} {l : Launch} {e : Env} {s : State} {m : MethodId} {args : Array Value} {below : List Frame} {meth : Method} {c : Code} {z : Nat} {K : Ev} {M : MS} {o : Nat → Int64} {g : Gh}
end
set_option maxRecDepth 100000 in
theorem c_X6_shift (l : Launch) (z : Nat) (K : Ev) (M : MS) (o : Nat → Int64) (g : Gh) (a0 : Int32) (S : CS) (r : Int32) (S' : CS) (h : F_X6_shift z a0 S = some (r, S')) : Met l yX6_shift wsX6_shift rm_X6_shift (qH K [.ref (K.2.2.1 0), .int a0] S M o g) (qR K (some (.int r)) S' M o g) 0 0 (inA K) := by
  refine Met.ofW (cc := cX6_shift) (maxL := 2) (ret := (some .boolean)) (by decide) rfl ?_
  intro p e s m args below meth c s₁ B hml hv
  obtain ⟨rfl, hN, hP, hK, hD, hF⟩ := hv
  have hx := B.exec
  have hb := B.bytes
  have hr := B.returns
  have hts := atoms_spec (ws := wsX6_shift) B.pre
  have hown : s.vm.findClass RX6 = some m.cls := findClass_of_methodNamed B.named
  have hlk := B.notSynchronized
  have hcl : 0 ≤ (rm_X6_shift).cells := Nat.zero_le _
  have hsl : 0 ≤ (rm_X6_shift).slots := Nat.zero_le _
  have Cc : Cx p s m _ meth c cX6_shift 2 RX6 wsX6_shift (some .boolean) := ⟨hx, hb, hml, hown, hts, hr, hlk, hN⟩
  have hS : va_S (inA K) s.heap s.heap [] := va_S.rf
  have hl := lv_entry ([.ref (K.2.2.1 0), .int a0]) (n := 2) (Nat.le_of_ble_eq_true rfl)
  rw [lg_entry_eq]
  generalize (lg_sl ([.ref (K.2.2.1 0), .int a0]) ++ List.replicate (2 - (lg_sl ([.ref (K.2.2.1 0), .int a0])).length) Slot.unset).toArray = ls at hl ⊢
  have hl : lv_has ls 2 [(0, .ref (K.2.2.1 0)), (1, .int a0)] := hl
  rw [F_X6_shift] at h
  refine lv_aload_n hx hb dX6_shift_0 rfl (lv_at hl 0 rfl) ?_
  refine va_get (D := K.1) (ci := 5) (v := .ref (K.2.2.1 1)) (C := RX6) (T := TX6) (N := 9) hx hb hts in_X6_shift_X6 hown hK hP 0 rfl rfl 0 (by decide) (hts (.fieldLink RX6 10 "SawSums" "matrix" "LSawSums$Matrix;") (by decide +kernel)) (fun _ h9 => h9) rfl dX6_shift_1 ?_
  refine lv_lconst (v := (1 : Int64)) hx hb dX6_shift_4 (by decide) ?_
  refine lv_iload_n hx hb dX6_shift_5 rfl (lv_at hl 1 rfl) ?_
  refine lv_i2l hx hb dX6_shift_6 rfl ?_
  refine lv_lconst (v := (0 : Int64)) hx hb dX6_shift_7 (by decide) ?_
  refine lv_lconst (v := (1 : Int64)) hx hb dX6_shift_8 (by decide) ?_
  obtain ⟨r1, S2, qS2, h⟩ := gn_bd2 h
  refine hc_V (rest := []) ⟨hx, hb, hml, hown, hts⟩ hN hF hK hP hD hS (c_X2_multiply l z K _ o g _ _ _ _ _ r1 S2 qS2) (cwV 4 hts gX6_shift_X2_multiply rfl rfl rfl (by decide +kernel) ⟨(Nat.le_of_ble_eq_true rfl), (Nat.le_of_ble_eq_true rfl)⟩) (va_recv hK hP (ci := 2) (q0 := 1) rfl rfl) rfl hl.1 rfl (Nat.le_of_ble_eq_true rfl) dX6_shift_9 hcl hsl (fun H locs hP hD hS => ?_)
  have hP : va_P K.1 vwCl (wd K S2 M o g) H := hP
  have hD : va_D (inA K) (wd K S2 M o g) := hD
  refine W.eq (g2 := F0 m 12 ls [.int r1]) rfl ?_
  obtain ⟨n3, h⟩ := gn_yz h
  obtain ⟨rfl, rfl⟩ := Prod.mk.inj (gn_some h)
  exact W.zret (ty := .boolean) hx hb hr (nb_ok n3) (fun t ht _ => ⟨rfl, by rw [ht]; exact hP, hD, hS.F ht⟩) hS.2.2 dX6_shift_12 hlk
theorem in_X6_times_X6 : ∀ w ∈ wsX60, w ∈ wsX6_times := fun _ h => List.mem_cons_of_mem _ (List.mem_append_left _ (List.mem_append_right _ h))
def rm_X6_times : Room := { frames := 4, cells := 0, slots := 0, locals := 108 }
section
variable {p : Program} {l : Launch} {e : Env} {s : State} {m : MethodId} {args : Array Value} {below : List Frame} {meth : Method} {c : Code} {z : Nat} {K : Ev} {M : MS} {o : Nat → Int64} {g : Gh}
end
set_option maxRecDepth 100000 in
theorem c_X6_times (l : Launch) (z : Nat) (K : Ev) (M : MS) (o : Nat → Int64) (g : Gh) (a0 : Int32) (a1 : Int32) (a2 : Int32) (a3 : Int32) (S : CS) (r : Int32) (S' : CS) (h : F_X6_times z a0 a1 a2 a3 S = some (r, S')) : Met l yX6_times wsX6_times rm_X6_times (qH K [.ref (K.2.2.1 0), .int a0, .int a1, .int a2, .int a3] S M o g) (qR K (some (.int r)) S' M o g) 0 0 (inA K) := by
  refine Met.ofW (cc := cX6_times) (maxL := 5) (ret := (some .boolean)) (by decide) rfl ?_
  intro p e s m args below meth c s₁ B hml hv
  obtain ⟨rfl, hN, hP, hK, hD, hF⟩ := hv
  have hx := B.exec
  have hb := B.bytes
  have hr := B.returns
  have hts := atoms_spec (ws := wsX6_times) B.pre
  have hown : s.vm.findClass RX6 = some m.cls := findClass_of_methodNamed B.named
  have hlk := B.notSynchronized
  have hcl : 0 ≤ (rm_X6_times).cells := Nat.zero_le _
  have hsl : 0 ≤ (rm_X6_times).slots := Nat.zero_le _
  have Cc : Cx p s m _ meth c cX6_times 5 RX6 wsX6_times (some .boolean) := ⟨hx, hb, hml, hown, hts, hr, hlk, hN⟩
  have hS : va_S (inA K) s.heap s.heap [] := va_S.rf
  have hl := lv_entry ([.ref (K.2.2.1 0), .int a0, .int a1, .int a2, .int a3]) (n := 5) (Nat.le_of_ble_eq_true rfl)
  rw [lg_entry_eq]
  generalize (lg_sl ([.ref (K.2.2.1 0), .int a0, .int a1, .int a2, .int a3]) ++ List.replicate (5 - (lg_sl ([.ref (K.2.2.1 0), .int a0, .int a1, .int a2, .int a3])).length) Slot.unset).toArray = ls at hl ⊢
  have hl : lv_has ls 5 [(0, .ref (K.2.2.1 0)), (1, .int a0), (2, .int a1), (3, .int a2), (4, .int a3)] := hl
  rw [F_X6_times] at h
  refine lv_iload_n hx hb dX6_times_0 rfl (lv_at hl 1 rfl) ?_
  refine lv_i2l hx hb dX6_times_1 rfl ?_
  refine lv_iload_n hx hb dX6_times_2 rfl (lv_at hl 2 rfl) ?_
  refine lv_i2l hx hb dX6_times_3 rfl ?_
  refine lv_iload_n hx hb dX6_times_4 rfl (lv_at hl 3 rfl) ?_
  refine lv_i2l hx hb dX6_times_5 rfl ?_
  refine lv_iload hx hb dX6_times_6 (lv_at hl 4 rfl) ?_
  refine lv_i2l hx hb dX6_times_8 rfl ?_
  obtain ⟨r1, qr1, h⟩ := gn_bd h
  refine pc_S (rest := []) ⟨hx, hb, hml, hown, hts⟩ hN (c_X2_isMatrix l z _ _ _ _ r1 qr1) (va_cwS 4 hts gX6_times_X2_isMatrix rfl rfl rfl (by decide +kernel) ⟨(Nat.le_of_ble_eq_true rfl), (Nat.le_of_ble_eq_true rfl)⟩) rfl hl.1 rfl (Nat.le_of_ble_eq_true rfl) dX6_times_9 hcl hsl ?_
  refine lv_if_eq (tgt := 38) hx hb dX6_times_12 (by decide) (fun c2 => ?_) (fun c2 => ?_)
  · have h := gn_t h c2
    refine lv_iconst (v := (0 : Int32)) hx hb dX6_times_38 (by decide) ?_
    obtain ⟨rfl, rfl⟩ := Prod.mk.inj (gn_some h)
    exact W.zret (ty := .boolean) hx hb hr rfl (fun t ht _ => ⟨rfl, by rw [ht]; exact hP, hD, hS.F ht⟩) hS.2.2 dX6_times_39 hlk
  · have h := gn_f h c2
    refine lv_aload_n hx hb dX6_times_15 rfl (lv_at hl 0 rfl) ?_
    refine va_get (D := K.1) (ci := 5) (v := .ref (K.2.2.1 1)) (C := RX6) (T := TX6) (N := 9) hx hb hts in_X6_times_X6 hown hK hP 0 rfl rfl 0 (by decide) (hts (.fieldLink RX6 10 "SawSums" "matrix" "LSawSums$Matrix;") (by decide +kernel)) (fun _ h9 => h9) rfl dX6_times_16 ?_
    refine lv_iload_n hx hb dX6_times_19 rfl (lv_at hl 1 rfl) ?_
    refine lv_i2l hx hb dX6_times_20 rfl ?_
    refine lv_iload_n hx hb dX6_times_21 rfl (lv_at hl 2 rfl) ?_
    refine lv_i2l hx hb dX6_times_22 rfl ?_
    refine lv_iload_n hx hb dX6_times_23 rfl (lv_at hl 3 rfl) ?_
    refine lv_i2l hx hb dX6_times_24 rfl ?_
    refine lv_iload hx hb dX6_times_25 (lv_at hl 4 rfl) ?_
    refine lv_i2l hx hb dX6_times_27 rfl ?_
    obtain ⟨r3, S4, qS4, h⟩ := gn_bd2 h
    refine hc_V (rest := []) ⟨hx, hb, hml, hown, hts⟩ hN hF hK hP hD hS (c_X2_multiply l z K _ o g _ _ _ _ _ r3 S4 qS4) (cwV 4 hts gX6_times_X2_multiply rfl rfl rfl (by decide +kernel) ⟨(Nat.le_of_ble_eq_true rfl), (Nat.le_of_ble_eq_true rfl)⟩) (va_recv hK hP (ci := 2) (q0 := 1) rfl rfl) rfl hl.1 rfl (Nat.le_of_ble_eq_true rfl) dX6_times_28 hcl hsl (fun H locs hP hD hS => ?_)
    have hP : va_P K.1 vwCl (wd K S4 M o g) H := hP
    have hD : va_D (inA K) (wd K S4 M o g) := hD
    refine W.eq (g2 := F0 m 31 ls [.int r3]) rfl ?_
    refine lv_if_eq (tgt := 38) hx hb dX6_times_31 (by decide) (fun c5 => ?_) (fun c5 => ?_)
    · have h := gn_t h c5
      refine lv_iconst (v := (0 : Int32)) hx hb dX6_times_38 (by decide) ?_
      obtain ⟨rfl, rfl⟩ := Prod.mk.inj (gn_some h)
      exact W.zret (ty := .boolean) hx hb hr rfl (fun t ht _ => ⟨rfl, by rw [ht]; exact hP, hD, hS.F ht⟩) hS.2.2 dX6_times_39 hlk
    · have h := gn_f h c5
      refine lv_iconst (v := (1 : Int32)) hx hb dX6_times_34 (by decide) ?_
      refine lv_goto (tgt := 39) hx hb dX6_times_35 (by decide) ?_
      obtain ⟨rfl, rfl⟩ := Prod.mk.inj (gn_some h)
      exact W.zret (ty := .boolean) hx hb hr rfl (fun t ht _ => ⟨rfl, by rw [ht]; exact hP, hD, hS.F ht⟩) hS.2.2 dX6_times_39 hlk
theorem in_X6_invert_X2 : ∀ w ∈ wsX20, w ∈ wsX6_invert := fun _ h => List.mem_cons_of_mem _ (List.mem_append_right _ h)
theorem in_X6_invert_X6 : ∀ w ∈ wsX60, w ∈ wsX6_invert := fun _ h => List.mem_cons_of_mem _ (List.mem_append_left _ (List.mem_append_right _ h))
def rm_X6_invert : Room := { frames := 3, cells := 0, slots := 0, locals := 80 }
section
variable {p : Program} {l : Launch} {e : Env} {s : State} {m : MethodId} {args : Array Value} {below : List Frame} {meth : Method} {c : Code} {z : Nat} {K : Ev} {M : MS} {o : Nat → Int64} {g : Gh}
end
set_option maxRecDepth 100000 in
theorem c_X6_invert (l : Launch) (z : Nat) (K : Ev) (M : MS) (o : Nat → Int64) (g : Gh)  (S : CS) (r : Int32) (S' : CS) (h : F_X6_invert z S = some (r, S')) : Met l yX6_invert wsX6_invert rm_X6_invert (qH K [.ref (K.2.2.1 0)] S M o g) (qR K (some (.int r)) S' M o g) 0 0 (inA K) := by
  refine Met.ofW (cc := cX6_invert) (maxL := 1) (ret := (some .boolean)) (by decide) rfl ?_
  intro p e s m args below meth c s₁ B hml hv
  obtain ⟨rfl, hN, hP, hK, hD, hF⟩ := hv
  have hx := B.exec
  have hb := B.bytes
  have hr := B.returns
  have hts := atoms_spec (ws := wsX6_invert) B.pre
  have hown : s.vm.findClass RX6 = some m.cls := findClass_of_methodNamed B.named
  have hlk := B.notSynchronized
  have hcl : 0 ≤ (rm_X6_invert).cells := Nat.zero_le _
  have hsl : 0 ≤ (rm_X6_invert).slots := Nat.zero_le _
  have Cc : Cx p s m _ meth c cX6_invert 1 RX6 wsX6_invert (some .boolean) := ⟨hx, hb, hml, hown, hts, hr, hlk, hN⟩
  have hS : va_S (inA K) s.heap s.heap [] := va_S.rf
  have hl := lv_entry ([.ref (K.2.2.1 0)]) (n := 1) (Nat.le_of_ble_eq_true rfl)
  rw [lg_entry_eq]
  generalize (lg_sl ([.ref (K.2.2.1 0)]) ++ List.replicate (1 - (lg_sl ([.ref (K.2.2.1 0)])).length) Slot.unset).toArray = ls at hl ⊢
  have hl : lv_has ls 1 [(0, .ref (K.2.2.1 0))] := hl
  rw [F_X6_invert] at h
  refine lv_aload_n hx hb dX6_invert_0 rfl (lv_at hl 0 rfl) ?_
  refine va_get (D := K.1) (ci := 5) (v := .ref (K.2.2.1 1)) (C := RX6) (T := TX6) (N := 9) hx hb hts in_X6_invert_X6 hown hK hP 0 rfl rfl 0 (by decide) (hts (.fieldLink RX6 10 "SawSums" "matrix" "LSawSums$Matrix;") (by decide +kernel)) (fun _ h9 => h9) rfl dX6_invert_1 ?_
  refine lv_aload_n hx hb dX6_invert_4 rfl (lv_at hl 0 rfl) ?_
  refine va_get (D := K.1) (ci := 5) (v := .ref (K.2.2.1 1)) (C := RX6) (T := TX6) (N := 9) hx hb hts in_X6_invert_X6 hown hK hP 0 rfl rfl 0 (by decide) (hts (.fieldLink RX6 10 "SawSums" "matrix" "LSawSums$Matrix;") (by decide +kernel)) (fun _ h9 => h9) rfl dX6_invert_5 ?_
  refine va_getN (D := K.1) (ci := 2) (v := .int (cg_md S)) (C := RX2) (T := TX2) (N := 4) hx hb hts in_X6_invert_X2 hown hK hP 1 rfl rfl 3 (by decide) (va_Nw.use rfl hN.2.2.2.2.2.1) (fun _ h9 => h9) rfl dX6_invert_8 ?_
  refine lv_i2l hx hb dX6_invert_11 rfl ?_
  refine lv_aload_n hx hb dX6_invert_12 rfl (lv_at hl 0 rfl) ?_
  refine va_get (D := K.1) (ci := 5) (v := .ref (K.2.2.1 1)) (C := RX6) (T := TX6) (N := 9) hx hb hts in_X6_invert_X6 hown hK hP 0 rfl rfl 0 (by decide) (hts (.fieldLink RX6 10 "SawSums" "matrix" "LSawSums$Matrix;") (by decide +kernel)) (fun _ h9 => h9) rfl dX6_invert_13 ?_
  refine va_getN (D := K.1) (ci := 2) (v := .int (cg_mb S)) (C := RX2) (T := TX2) (N := 4) hx hb hts in_X6_invert_X2 hown hK hP 1 rfl rfl 1 (by decide) (va_Nw.use rfl hN.2.2.2.1) (fun _ h9 => h9) rfl dX6_invert_16 ?_
  refine lv_ineg hx hb dX6_invert_19 ?_
  refine lv_i2l hx hb dX6_invert_20 rfl ?_
  refine lv_aload_n hx hb dX6_invert_21 rfl (lv_at hl 0 rfl) ?_
  refine va_get (D := K.1) (ci := 5) (v := .ref (K.2.2.1 1)) (C := RX6) (T := TX6) (N := 9) hx hb hts in_X6_invert_X6 hown hK hP 0 rfl rfl 0 (by decide) (hts (.fieldLink RX6 10 "SawSums" "matrix" "LSawSums$Matrix;") (by decide +kernel)) (fun _ h9 => h9) rfl dX6_invert_22 ?_
  refine va_getN (D := K.1) (ci := 2) (v := .int (cg_mc S)) (C := RX2) (T := TX2) (N := 4) hx hb hts in_X6_invert_X2 hown hK hP 1 rfl rfl 2 (by decide) (va_Nw.use rfl hN.2.2.2.2.1) (fun _ h9 => h9) rfl dX6_invert_25 ?_
  refine lv_ineg hx hb dX6_invert_28 ?_
  refine lv_i2l hx hb dX6_invert_29 rfl ?_
  refine lv_aload_n hx hb dX6_invert_30 rfl (lv_at hl 0 rfl) ?_
  refine va_get (D := K.1) (ci := 5) (v := .ref (K.2.2.1 1)) (C := RX6) (T := TX6) (N := 9) hx hb hts in_X6_invert_X6 hown hK hP 0 rfl rfl 0 (by decide) (hts (.fieldLink RX6 10 "SawSums" "matrix" "LSawSums$Matrix;") (by decide +kernel)) (fun _ h9 => h9) rfl dX6_invert_31 ?_
  refine va_getN (D := K.1) (ci := 2) (v := .int (cg_ma S)) (C := RX2) (T := TX2) (N := 4) hx hb hts in_X6_invert_X2 hown hK hP 1 rfl rfl 0 (by decide) (va_Nw.use rfl hN.2.2.1) (fun _ h9 => h9) rfl dX6_invert_34 ?_
  refine lv_i2l hx hb dX6_invert_37 rfl ?_
  obtain ⟨r1, S2, qS2, h⟩ := gn_bd2 h
  refine hc_V (rest := []) ⟨hx, hb, hml, hown, hts⟩ hN hF hK hP hD hS (c_X2_become l z K _ o g _ _ _ _ _ r1 S2 qS2) (cwV 4 hts gX6_invert_X2_become rfl rfl rfl (by decide +kernel) ⟨(Nat.le_of_ble_eq_true rfl), (Nat.le_of_ble_eq_true rfl)⟩) (va_recv hK hP (ci := 2) (q0 := 1) rfl rfl) rfl hl.1 rfl (Nat.le_of_ble_eq_true rfl) dX6_invert_38 hcl hsl (fun H locs hP hD hS => ?_)
  have hP : va_P K.1 vwCl (wd K S2 M o g) H := hP
  have hD : va_D (inA K) (wd K S2 M o g) := hD
  refine W.eq (g2 := F0 m 41 ls [.int r1]) rfl ?_
  obtain ⟨n3, h⟩ := gn_yz h
  obtain ⟨rfl, rfl⟩ := Prod.mk.inj (gn_some h)
  exact W.zret (ty := .boolean) hx hb hr (nb_ok n3) (fun t ht _ => ⟨rfl, by rw [ht]; exact hP, hD, hS.F ht⟩) hS.2.2 dX6_invert_41 hlk
theorem in_X6_phi_X2 : ∀ w ∈ wsX20, w ∈ wsX6_phi := fun _ h => List.mem_cons_of_mem _ (List.mem_append_right _ h)
theorem in_X6_phi_X6 : ∀ w ∈ wsX60, w ∈ wsX6_phi := fun _ h => List.mem_cons_of_mem _ (List.mem_append_left _ (List.mem_append_right _ h))
def rm_X6_phi : Room := { frames := 3, cells := 0, slots := 0, locals := 93 }
section
variable {p : Program} {l : Launch} {e : Env} {s : State} {m : MethodId} {args : Array Value} {below : List Frame} {meth : Method} {c : Code} {z : Nat} {K : Ev} {M : MS} {o : Nat → Int64} {g : Gh}
end
set_option maxRecDepth 100000 in
theorem c_X6_phi (l : Launch) (z : Nat) (K : Ev) (M : MS) (o : Nat → Int64) (g : Gh) (a0 : Int32) (S : CS) (r : Int64) (S' : CS) (h : F_X6_phi z a0 S = some (r, S')) : Met l yX6_phi wsX6_phi rm_X6_phi (qH K [.ref (K.2.2.1 0), .int a0] S M o g) (qR K (some (.long r)) S' M o g) 0 0 (inA K) := by
  refine Met.ofW (cc := cX6_phi) (maxL := 2) (ret := (some .long)) (by decide) rfl ?_
  intro p e s m args below meth c s₁ B hml hv
  obtain ⟨rfl, hN, hP, hK, hD, hF⟩ := hv
  have hx := B.exec
  have hb := B.bytes
  have hr := B.returns
  have hts := atoms_spec (ws := wsX6_phi) B.pre
  have hown : s.vm.findClass RX6 = some m.cls := findClass_of_methodNamed B.named
  have hlk := B.notSynchronized
  have hcl : 0 ≤ (rm_X6_phi).cells := Nat.zero_le _
  have hsl : 0 ≤ (rm_X6_phi).slots := Nat.zero_le _
  have Cc : Cx p s m _ meth c cX6_phi 2 RX6 wsX6_phi (some .long) := ⟨hx, hb, hml, hown, hts, hr, hlk, hN⟩
  have hS : va_S (inA K) s.heap s.heap [] := va_S.rf
  have hl := lv_entry ([.ref (K.2.2.1 0), .int a0]) (n := 2) (Nat.le_of_ble_eq_true rfl)
  rw [lg_entry_eq]
  generalize (lg_sl ([.ref (K.2.2.1 0), .int a0]) ++ List.replicate (2 - (lg_sl ([.ref (K.2.2.1 0), .int a0])).length) Slot.unset).toArray = ls at hl ⊢
  have hl : lv_has ls 2 [(0, .ref (K.2.2.1 0)), (1, .int a0)] := hl
  rw [F_X6_phi] at h
  refine lv_iload_n hx hb dX6_phi_0 rfl (lv_at hl 1 rfl) ?_
  by_cases c1 : a0 = (0 : Int32)
  · have h := gn_t h c1
    refine lv_lookup (off := 27) (tgt := 28) hx hb dX6_phi_1 (by decide) (by rw [c1]; rfl) (by decide) ?_
    refine lv_aload_n hx hb dX6_phi_28 rfl (lv_at hl 0 rfl) ?_
    refine va_get (D := K.1) (ci := 5) (v := .ref (K.2.2.1 1)) (C := RX6) (T := TX6) (N := 9) hx hb hts in_X6_phi_X6 hown hK hP 0 rfl rfl 0 (by decide) (hts (.fieldLink RX6 10 "SawSums" "matrix" "LSawSums$Matrix;") (by decide +kernel)) (fun _ h9 => h9) rfl dX6_phi_29 ?_
    obtain ⟨r2, S3, qS3, h⟩ := gn_bd2 h
    refine hc_V (rest := []) ⟨hx, hb, hml, hown, hts⟩ hN hF hK hP hD hS (c_X2_companion l z K _ o g  _ r2 S3 qS3) (cwV 0 hts gX6_phi_X2_companion rfl rfl rfl (by decide +kernel) ⟨(Nat.le_of_ble_eq_true rfl), (Nat.le_of_ble_eq_true rfl)⟩) (va_recv hK hP (ci := 2) (q0 := 1) rfl rfl) rfl hl.1 rfl (Nat.le_of_ble_eq_true rfl) dX6_phi_32 hcl hsl (fun H locs hP hD hS => ?_)
    have hP : va_P K.1 vwCl (wd K S3 M o g) H := hP
    have hD : va_D (inA K) (wd K S3 M o g) := hD
    refine W.eq (g2 := F0 m 35 ls [.long r2]) rfl ?_
    obtain ⟨rfl, rfl⟩ := Prod.mk.inj (gn_some h)
    exact W.lret hx hb hr (fun t ht _ => ⟨rfl, by rw [ht]; exact hP, hD, hS.F ht⟩) hS.2.2 dX6_phi_35 hlk
  have h := gn_f h c1
  by_cases c4 : a0 = (1 : Int32)
  · have h := gn_t h c4
    refine lv_lookup (off := 35) (tgt := 36) hx hb dX6_phi_1 (by decide) (by rw [c4]; rfl) (by decide) ?_
    refine lv_aload_n hx hb dX6_phi_36 rfl (lv_at hl 0 rfl) ?_
    refine va_get (D := K.1) (ci := 5) (v := .ref (K.2.2.1 1)) (C := RX6) (T := TX6) (N := 9) hx hb hts in_X6_phi_X6 hown hK hP 0 rfl rfl 0 (by decide) (hts (.fieldLink RX6 10 "SawSums" "matrix" "LSawSums$Matrix;") (by decide +kernel)) (fun _ h9 => h9) rfl dX6_phi_37 ?_
    obtain ⟨r5, S6, qS6, h⟩ := gn_bd2 h
    refine hc_V (rest := []) ⟨hx, hb, hml, hown, hts⟩ hN hF hK hP hD hS (c_X2_companion l z K _ o g  _ r5 S6 qS6) (cwV 0 hts gX6_phi_X2_companion rfl rfl rfl (by decide +kernel) ⟨(Nat.le_of_ble_eq_true rfl), (Nat.le_of_ble_eq_true rfl)⟩) (va_recv hK hP (ci := 2) (q0 := 1) rfl rfl) rfl hl.1 rfl (Nat.le_of_ble_eq_true rfl) dX6_phi_40 hcl hsl (fun H locs hP hD hS => ?_)
    have hP : va_P K.1 vwCl (wd K S6 M o g) H := hP
    have hD : va_D (inA K) (wd K S6 M o g) := hD
    refine W.eq (g2 := F0 m 43 ls [.long r5]) rfl ?_
    refine lv_ldc2 hx hb hown (hts (.constantLong RX6 181 (3)) (by decide +kernel)) dX6_phi_43 ?_
    refine lv_aload_n hx hb dX6_phi_46 rfl (lv_at hl 0 rfl) ?_
    refine va_get (D := K.1) (ci := 5) (v := .ref (K.2.2.1 1)) (C := RX6) (T := TX6) (N := 9) hx hb hts in_X6_phi_X6 hown hK hP 0 rfl rfl 0 (by decide) (hts (.fieldLink RX6 10 "SawSums" "matrix" "LSawSums$Matrix;") (by decide +kernel)) (fun _ h9 => h9) rfl dX6_phi_47 ?_
    refine va_getN (D := K.1) (ci := 2) (v := .int (cg_mc S6)) (C := RX2) (T := TX2) (N := 4) hx hb hts in_X6_phi_X2 hown hK hP 1 rfl rfl 2 (by decide) (va_Nw.use rfl hN.2.2.2.2.1) (fun _ h9 => h9) rfl dX6_phi_50 ?_
    refine lv_i2l hx hb dX6_phi_53 rfl ?_
    refine lv_aload_n hx hb dX6_phi_54 rfl (lv_at hl 0 rfl) ?_
    refine va_get (D := K.1) (ci := 5) (v := .ref (K.2.2.1 1)) (C := RX6) (T := TX6) (N := 9) hx hb hts in_X6_phi_X6 hown hK hP 0 rfl rfl 0 (by decide) (hts (.fieldLink RX6 10 "SawSums" "matrix" "LSawSums$Matrix;") (by decide +kernel)) (fun _ h9 => h9) rfl dX6_phi_55 ?_
    obtain ⟨r7, S8, qS8, h⟩ := gn_bd2 h
    refine hc_V (rest := [.long (Int32.toInt64 (cg_mc S6)), .long (3 : Int64), .long r5]) ⟨hx, hb, hml, hown, hts⟩ hN hF hK hP hD hS (c_X2_trace l z K _ o g  _ r7 S8 qS8) (cwV 0 hts gX6_phi_X2_trace rfl rfl rfl (by decide +kernel) ⟨(Nat.le_of_ble_eq_true rfl), (Nat.le_of_ble_eq_true rfl)⟩) (va_recv hK hP (ci := 2) (q0 := 1) rfl rfl) rfl hl.1 rfl (Nat.le_of_ble_eq_true rfl) dX6_phi_58 hcl hsl (fun H locs hP hD hS => ?_)
    have hP : va_P K.1 vwCl (wd K S8 M o g) H := hP
    have hD : va_D (inA K) (wd K S8 M o g) := hD
    refine W.eq (g2 := F0 m 61 ls [.long r7, .long (Int32.toInt64 (cg_mc S6)), .long (3 : Int64), .long r5]) rfl ?_
    refine lv_lmul hx hb dX6_phi_61 ?_
    obtain ⟨r9, qr9, h⟩ := gn_bd h
    refine pc_S (rest := [.long (3 : Int64), .long r5]) ⟨hx, hb, hml, hown, hts⟩ hN (c_J13_signum_95d88 l z _ r9 qr9) (va_cwS 1 hts gX6_phi_J13_signum_95d88 rfl rfl rfl (by decide +kernel) ⟨(Nat.le_of_ble_eq_true rfl), (Nat.le_of_ble_eq_true rfl)⟩) rfl hl.1 rfl (Nat.le_of_ble_eq_true rfl) dX6_phi_62 hcl hsl ?_
    refine lv_i2l hx hb dX6_phi_65 rfl ?_
    refine lv_lmul hx hb dX6_phi_66 ?_
    refine lv_lsub hx hb dX6_phi_67 ?_
    obtain ⟨rfl, rfl⟩ := Prod.mk.inj (gn_some h)
    exact W.lret hx hb hr (fun t ht _ => ⟨rfl, by rw [ht]; exact hP, hD, hS.F ht⟩) hS.2.2 dX6_phi_68 hlk
  have h := gn_f h c4
  refine lv_lookup (off := 68) (tgt := 69) hx hb dX6_phi_1 (by decide) ((lv_osw c1 (by decide)).trans ((lv_osw c4 (by decide)).trans rfl)) (by decide) ?_
  refine lv_ldc2 hx hb hown (hts (.constantLong RX6 67 (-4000000000000000000)) (by decide +kernel)) dX6_phi_69 ?_
  obtain ⟨rfl, rfl⟩ := Prod.mk.inj (gn_some h)
  exact W.lret hx hb hr (fun t ht _ => ⟨rfl, by rw [ht]; exact hP, hD, hS.F ht⟩) hS.2.2 dX6_phi_72 hlk
theorem in_X6_kind_X6 : ∀ w ∈ wsX60, w ∈ wsX6_kind := fun _ h => List.mem_cons_of_mem _ (List.mem_append_left _ (List.mem_append_right _ h))
def rm_X6_kind : Room := { frames := 1, cells := 0, slots := 0, locals := 24 }
section
variable {p : Program} {l : Launch} {e : Env} {s : State} {m : MethodId} {args : Array Value} {below : List Frame} {meth : Method} {c : Code} {z : Nat} {K : Ev} {M : MS} {o : Nat → Int64} {g : Gh}
end
set_option maxRecDepth 100000 in
theorem c_X6_kind (l : Launch) (z : Nat) (K : Ev) (M : MS) (o : Nat → Int64) (g : Gh)  (S : CS) (r : Int32) (S' : CS) (h : F_X6_kind z S = some (r, S')) : Met l yX6_kind wsX6_kind rm_X6_kind (qH K [.ref (K.2.2.1 0)] S M o g) (qR K (some (.int r)) S' M o g) 0 0 (inA K) := by
  refine Met.ofW (cc := cX6_kind) (maxL := 3) (ret := (some .int)) (by decide) rfl ?_
  intro p e s m args below meth c s₁ B hml hv
  obtain ⟨rfl, hN, hP, hK, hD, hF⟩ := hv
  have hx := B.exec
  have hb := B.bytes
  have hr := B.returns
  have hts := atoms_spec (ws := wsX6_kind) B.pre
  have hown : s.vm.findClass RX6 = some m.cls := findClass_of_methodNamed B.named
  have hlk := B.notSynchronized
  have hcl : 0 ≤ (rm_X6_kind).cells := Nat.zero_le _
  have hsl : 0 ≤ (rm_X6_kind).slots := Nat.zero_le _
  have Cc : Cx p s m _ meth c cX6_kind 3 RX6 wsX6_kind (some .int) := ⟨hx, hb, hml, hown, hts, hr, hlk, hN⟩
  have hS : va_S (inA K) s.heap s.heap [] := va_S.rf
  have hl := lv_entry ([.ref (K.2.2.1 0)]) (n := 3) (Nat.le_of_ble_eq_true rfl)
  rw [lg_entry_eq]
  generalize (lg_sl ([.ref (K.2.2.1 0)]) ++ List.replicate (3 - (lg_sl ([.ref (K.2.2.1 0)])).length) Slot.unset).toArray = ls at hl ⊢
  have hl : lv_has ls 3 [(0, .ref (K.2.2.1 0))] := hl
  rw [F_X6_kind] at h
  refine lv_aload_n hx hb dX6_kind_0 rfl (lv_at hl 0 rfl) ?_
  refine va_get (D := K.1) (ci := 5) (v := .ref (K.2.2.1 1)) (C := RX6) (T := TX6) (N := 9) hx hb hts in_X6_kind_X6 hown hK hP 0 rfl rfl 0 (by decide) (hts (.fieldLink RX6 10 "SawSums" "matrix" "LSawSums$Matrix;") (by decide +kernel)) (fun _ h9 => h9) rfl dX6_kind_1 ?_
  obtain ⟨r1, S2, qS2, h⟩ := gn_bd2 h
  refine hc_V (rest := []) ⟨hx, hb, hml, hown, hts⟩ hN hF hK hP hD hS (c_X2_trace l z K _ o g  _ r1 S2 qS2) (cwV 0 hts gX6_kind_X2_trace rfl rfl rfl (by decide +kernel) ⟨(Nat.le_of_ble_eq_true rfl), (Nat.le_of_ble_eq_true rfl)⟩) (va_recv hK hP (ci := 2) (q0 := 1) rfl rfl) rfl hl.1 rfl (Nat.le_of_ble_eq_true rfl) dX6_kind_4 hcl hsl (fun H locs hP hD hS => ?_)
  have hP : va_P K.1 vwCl (wd K S2 M o g) H := hP
  have hD : va_D (inA K) (wd K S2 M o g) := hD
  refine W.eq (g2 := F0 m 7 ls [.long r1]) rfl ?_
  refine va_mabs_long hx hb (hml.trans hl.1.symm) hown (hts (.methodLink RX6 192 Lib.MathLoose.abs_long.x) (by decide +kernel)) (hts (.static Lib.MathLoose.abs_long.x) (by decide +kernel)) (hts (.initialized "java/lang/Math") (by decide +kernel)) (hts (.code Lib.MathLoose.abs_long.x Lib.MathLoose.abs_long.code 2 (some .long)) (by decide +kernel)) (Nat.le_of_ble_eq_true rfl) (Nat.le_of_ble_eq_true rfl) hcl hsl dX6_kind_7 ?_
  obtain ⟨v3, ev3, h⟩ := gn_nm h
  refine ln_l ev3 ?_
  refine lv_lstore_n (lv' := [(1, .long v3), (0, .ref (K.2.2.1 0))]) hx hb dX6_kind_10 rfl hl (by decide) rfl (fun ls hl => ?_)
  refine lv_lload_n hx hb dX6_kind_11 rfl (lv_at hl 0 rfl) ?_
  refine lv_ldc2 hx hb hown (hts (.constantLong RX6 195 (2)) (by decide +kernel)) dX6_kind_12 ?_
  refine ll_ge (tgt := 21) hx hb dX6_kind_15 dX6_kind_16 (by decide) (fun c4 => ?_) (fun c4 => ?_)
  · have h := gn_t h c4
    refine lv_lload_n hx hb dX6_kind_21 rfl (lv_at hl 0 rfl) ?_
    refine lv_ldc2 hx hb hown (hts (.constantLong RX6 195 (2)) (by decide +kernel)) dX6_kind_22 ?_
    refine ll_ne (tgt := 33) hx hb dX6_kind_25 dX6_kind_26 (by decide) (fun c5 => ?_) (fun c5 => ?_)
    · have h := gn_f h c5
      refine lv_iconst (v := (2 : Int32)) hx hb dX6_kind_33 (by decide) ?_
      obtain ⟨rfl, rfl⟩ := Prod.mk.inj (gn_some h)
      exact W.iret hx hb hr (fun t ht _ => ⟨rfl, by rw [ht]; exact hP, hD, hS.F ht⟩) hS.2.2 dX6_kind_34 hlk
    · have h := gn_t h c5
      refine lv_iconst (v := (1 : Int32)) hx hb dX6_kind_29 (by decide) ?_
      refine lv_goto (tgt := 34) hx hb dX6_kind_30 (by decide) ?_
      obtain ⟨rfl, rfl⟩ := Prod.mk.inj (gn_some h)
      exact W.iret hx hb hr (fun t ht _ => ⟨rfl, by rw [ht]; exact hP, hD, hS.F ht⟩) hS.2.2 dX6_kind_34 hlk
  · have h := gn_f h c4
    refine lv_iconst (v := (0 : Int32)) hx hb dX6_kind_19 (by decide) ?_
    obtain ⟨rfl, rfl⟩ := Prod.mk.inj (gn_some h)
    exact W.iret hx hb hr (fun t ht _ => ⟨rfl, by rw [ht]; exact hP, hD, hS.F ht⟩) hS.2.2 dX6_kind_20 hlk
theorem in_X6_order_X6 : ∀ w ∈ wsX60, w ∈ wsX6_order := fun _ h => List.mem_cons_of_mem _ (List.mem_append_left _ (List.mem_append_right _ h))
def rm_X6_order : Room := { frames := 2, cells := 0, slots := 0, locals := 42 }
section
variable {p : Program} {l : Launch} {e : Env} {s : State} {m : MethodId} {args : Array Value} {below : List Frame} {meth : Method} {c : Code} {z : Nat} {K : Ev} {M : MS} {o : Nat → Int64} {g : Gh}
end
set_option maxRecDepth 100000 in
theorem c_X6_order (l : Launch) (z : Nat) (K : Ev) (M : MS) (o : Nat → Int64) (g : Gh)  (S : CS) (r : Int32) (S' : CS) (h : F_X6_order z S = some (r, S')) : Met l yX6_order wsX6_order rm_X6_order (qH K [.ref (K.2.2.1 0)] S M o g) (qR K (some (.int r)) S' M o g) 0 0 (inA K) := by
  refine Met.ofW (cc := cX6_order) (maxL := 1) (ret := (some .int)) (by decide) rfl ?_
  intro p e s m args below meth c s₁ B hml hv
  obtain ⟨rfl, hN, hP, hK, hD, hF⟩ := hv
  have hx := B.exec
  have hb := B.bytes
  have hr := B.returns
  have hts := atoms_spec (ws := wsX6_order) B.pre
  have hown : s.vm.findClass RX6 = some m.cls := findClass_of_methodNamed B.named
  have hlk := B.notSynchronized
  have hcl : 0 ≤ (rm_X6_order).cells := Nat.zero_le _
  have hsl : 0 ≤ (rm_X6_order).slots := Nat.zero_le _
  have Cc : Cx p s m _ meth c cX6_order 1 RX6 wsX6_order (some .int) := ⟨hx, hb, hml, hown, hts, hr, hlk, hN⟩
  have hS : va_S (inA K) s.heap s.heap [] := va_S.rf
  have hl := lv_entry ([.ref (K.2.2.1 0)]) (n := 1) (Nat.le_of_ble_eq_true rfl)
  rw [lg_entry_eq]
  generalize (lg_sl ([.ref (K.2.2.1 0)]) ++ List.replicate (1 - (lg_sl ([.ref (K.2.2.1 0)])).length) Slot.unset).toArray = ls at hl ⊢
  have hl : lv_has ls 1 [(0, .ref (K.2.2.1 0))] := hl
  rw [F_X6_order] at h
  refine lv_aload_n hx hb dX6_order_0 rfl (lv_at hl 0 rfl) ?_
  refine va_get (D := K.1) (ci := 5) (v := .ref (K.2.2.1 1)) (C := RX6) (T := TX6) (N := 9) hx hb hts in_X6_order_X6 hown hK hP 0 rfl rfl 0 (by decide) (hts (.fieldLink RX6 10 "SawSums" "matrix" "LSawSums$Matrix;") (by decide +kernel)) (fun _ h9 => h9) rfl dX6_order_1 ?_
  obtain ⟨r1, S2, qS2, h⟩ := gn_bd2 h
  refine hc_V (rest := []) ⟨hx, hb, hml, hown, hts⟩ hN hF hK hP hD hS (c_X2_fewestPowers l z K _ o g  _ r1 S2 qS2) (cwV 0 hts gX6_order_X2_fewestPowers rfl rfl rfl (by decide +kernel) ⟨(Nat.le_of_ble_eq_true rfl), (Nat.le_of_ble_eq_true rfl)⟩) (va_recv hK hP (ci := 2) (q0 := 1) rfl rfl) rfl hl.1 rfl (Nat.le_of_ble_eq_true rfl) dX6_order_4 hcl hsl (fun H locs hP hD hS => ?_)
  have hP : va_P K.1 vwCl (wd K S2 M o g) H := hP
  have hD : va_D (inA K) (wd K S2 M o g) := hD
  refine W.eq (g2 := F0 m 7 ls [.int r1]) rfl ?_
  obtain ⟨rfl, rfl⟩ := Prod.mk.inj (gn_some h)
  exact W.iret hx hb hr (fun t ht _ => ⟨rfl, by rw [ht]; exact hP, hD, hS.F ht⟩) hS.2.2 dX6_order_7 hlk
theorem in_X6_word_X6 : ∀ w ∈ wsX60, w ∈ wsX6_word := fun _ h => List.mem_cons_of_mem _ (List.mem_append_left _ (List.mem_append_right _ h))
def rm_X6_word : Room := { frames := 2, cells := 0, slots := 0, locals := 61 }
section
variable {p : Program} {l : Launch} {e : Env} {s : State} {m : MethodId} {args : Array Value} {below : List Frame} {meth : Method} {c : Code} {z : Nat} {K : Ev} {M : MS} {o : Nat → Int64} {g : Gh}
end
set_option maxRecDepth 100000 in
theorem c_X6_word (l : Launch) (z : Nat) (K : Ev) (M : MS) (o : Nat → Int64) (g : Gh) (a0 : Int32) (S : CS) (r : Int64) (S' : CS) (h : F_X6_word z a0 S = some (r, S')) : Met l yX6_word wsX6_word rm_X6_word (qH K [.ref (K.2.2.1 0), .int a0] S M o g) (qR K (some (.long r)) S' M o g) 0 0 (inA K) := by
  refine Met.ofW (cc := cX6_word) (maxL := 2) (ret := (some .long)) (by decide) rfl ?_
  intro p e s m args below meth c s₁ B hml hv
  obtain ⟨rfl, hN, hP, hK, hD, hF⟩ := hv
  have hx := B.exec
  have hb := B.bytes
  have hr := B.returns
  have hts := atoms_spec (ws := wsX6_word) B.pre
  have hown : s.vm.findClass RX6 = some m.cls := findClass_of_methodNamed B.named
  have hlk := B.notSynchronized
  have hcl : 0 ≤ (rm_X6_word).cells := Nat.zero_le _
  have hsl : 0 ≤ (rm_X6_word).slots := Nat.zero_le _
  have Cc : Cx p s m _ meth c cX6_word 2 RX6 wsX6_word (some .long) := ⟨hx, hb, hml, hown, hts, hr, hlk, hN⟩
  have hS : va_S (inA K) s.heap s.heap [] := va_S.rf
  have hl := lv_entry ([.ref (K.2.2.1 0), .int a0]) (n := 2) (Nat.le_of_ble_eq_true rfl)
  rw [lg_entry_eq]
  generalize (lg_sl ([.ref (K.2.2.1 0), .int a0]) ++ List.replicate (2 - (lg_sl ([.ref (K.2.2.1 0), .int a0])).length) Slot.unset).toArray = ls at hl ⊢
  have hl : lv_has ls 2 [(0, .ref (K.2.2.1 0)), (1, .int a0)] := hl
  rw [F_X6_word] at h
  refine lv_aload_n hx hb dX6_word_0 rfl (lv_at hl 0 rfl) ?_
  refine va_get (D := K.1) (ci := 5) (v := .ref (K.2.2.1 1)) (C := RX6) (T := TX6) (N := 9) hx hb hts in_X6_word_X6 hown hK hP 0 rfl rfl 0 (by decide) (hts (.fieldLink RX6 10 "SawSums" "matrix" "LSawSums$Matrix;") (by decide +kernel)) (fun _ h9 => h9) rfl dX6_word_1 ?_
  refine lv_iload_n hx hb dX6_word_4 rfl (lv_at hl 1 rfl) ?_
  obtain ⟨r1, S2, qS2, h⟩ := gn_bd2 h
  refine hc_V (rest := []) ⟨hx, hb, hml, hown, hts⟩ hN hF hK hP hD hS (c_X2_partOfWord l z K _ o g _ _ r1 S2 qS2) (cwV 1 hts gX6_word_X2_partOfWord rfl rfl rfl (by decide +kernel) ⟨(Nat.le_of_ble_eq_true rfl), (Nat.le_of_ble_eq_true rfl)⟩) (va_recv hK hP (ci := 2) (q0 := 1) rfl rfl) rfl hl.1 rfl (Nat.le_of_ble_eq_true rfl) dX6_word_5 hcl hsl (fun H locs hP hD hS => ?_)
  have hP : va_P K.1 vwCl (wd K S2 M o g) H := hP
  have hD : va_D (inA K) (wd K S2 M o g) := hD
  refine W.eq (g2 := F0 m 8 ls [.long r1]) rfl ?_
  obtain ⟨rfl, rfl⟩ := Prod.mk.inj (gn_some h)
  exact W.lret hx hb hr (fun t ht _ => ⟨rfl, by rw [ht]; exact hP, hD, hS.F ht⟩) hS.2.2 dX6_word_8 hlk

def rm_X6_same : Room := { frames := 3, cells := 0, slots := 0, locals := 75 }
section
variable {p : Program} {l : Launch} {e : Env} {s : State} {m : MethodId} {args : Array Value} {below : List Frame} {meth : Method} {c : Code} {z : Nat} {K : Ev} {M : MS} {o : Nat → Int64} {g : Gh}
end
set_option maxRecDepth 100000 in
theorem c_X6_same (l : Launch) (z : Nat) (K : Ev) (M : MS) (o : Nat → Int64) (g : Gh) (a0 : Int32) (a1 : Int32) (a2 : Int32) (S : CS) (r : Int32) (S' : CS) (h : F_X6_same z a0 a1 a2 S = some (r, S')) : Met l yX6_same wsX6_same rm_X6_same (qH K [.ref (K.2.2.1 0), .int a0, .int a1, .int a2] S M o g) (qR K (some (.int r)) S' M o g) 0 0 (inA K) := by
  refine Met.ofW (cc := cX6_same) (maxL := 6) (ret := (some .int)) (by decide) rfl ?_
  intro p e s m args below meth c s₁ B hml hv
  obtain ⟨rfl, hN, hP, hK, hD, hF⟩ := hv
  have hx := B.exec
  have hb := B.bytes
  have hr := B.returns
  have hts := atoms_spec (ws := wsX6_same) B.pre
  have hown : s.vm.findClass RX6 = some m.cls := findClass_of_methodNamed B.named
  have hlk := B.notSynchronized
  have hcl : 0 ≤ (rm_X6_same).cells := Nat.zero_le _
  have hsl : 0 ≤ (rm_X6_same).slots := Nat.zero_le _
  have Cc : Cx p s m _ meth c cX6_same 6 RX6 wsX6_same (some .int) := ⟨hx, hb, hml, hown, hts, hr, hlk, hN⟩
  have hS : va_S (inA K) s.heap s.heap [] := va_S.rf
  have hl := lv_entry ([.ref (K.2.2.1 0), .int a0, .int a1, .int a2]) (n := 6) (Nat.le_of_ble_eq_true rfl)
  rw [lg_entry_eq]
  generalize (lg_sl ([.ref (K.2.2.1 0), .int a0, .int a1, .int a2]) ++ List.replicate (6 - (lg_sl ([.ref (K.2.2.1 0), .int a0, .int a1, .int a2])).length) Slot.unset).toArray = ls at hl ⊢
  have hl : lv_has ls 6 [(0, .ref (K.2.2.1 0)), (1, .int a0), (2, .int a1), (3, .int a2)] := hl
  rw [F_X6_same] at h
  refine lv_iload_n hx hb dX6_same_0 rfl (lv_at hl 1 rfl) ?_
  refine lv_iload_n hx hb dX6_same_1 rfl (lv_at hl 2 rfl) ?_
  obtain ⟨r1, qr1, h⟩ := gn_bd h
  refine pc_S (rest := []) ⟨hx, hb, hml, hown, hts⟩ hN (c_X0_isRing l z _ _ r1 qr1) (va_cwS 2 hts gX6_same_X0_isRing rfl rfl rfl (by decide +kernel) ⟨(Nat.le_of_ble_eq_true rfl), (Nat.le_of_ble_eq_true rfl)⟩) rfl hl.1 rfl (Nat.le_of_ble_eq_true rfl) dX6_same_2 hcl hsl ?_
  refine lv_if_eq (tgt := 16) hx hb dX6_same_5 (by decide) (fun c2 => ?_) (fun c2 => ?_)
  · have h := gn_t h c2
    refine lv_iconst (v := (-1 : Int32)) hx hb dX6_same_16 (by decide) ?_
    obtain ⟨rfl, rfl⟩ := Prod.mk.inj (gn_some h)
    exact W.iret hx hb hr (fun t ht _ => ⟨rfl, by rw [ht]; exact hP, hD, hS.F ht⟩) hS.2.2 dX6_same_17 hlk
  · have h := gn_f h c2
    refine lv_iload_n hx hb dX6_same_8 rfl (lv_at hl 1 rfl) ?_
    refine lv_iload_n hx hb dX6_same_9 rfl (lv_at hl 3 rfl) ?_
    obtain ⟨r3, qr3, h⟩ := gn_bd h
    refine pc_S (rest := []) ⟨hx, hb, hml, hown, hts⟩ hN (c_X0_isRing l z _ _ r3 qr3) (va_cwS 2 hts gX6_same_X0_isRing rfl rfl rfl (by decide +kernel) ⟨(Nat.le_of_ble_eq_true rfl), (Nat.le_of_ble_eq_true rfl)⟩) rfl hl.1 rfl (Nat.le_of_ble_eq_true rfl) dX6_same_10 hcl hsl ?_
    refine lv_if_ne (tgt := 18) hx hb dX6_same_13 (by decide) (fun c4 => ?_) (fun c4 => ?_)
    · have h := gn_f h c4
      refine lv_iload_n hx hb dX6_same_18 rfl (lv_at hl 2 rfl) ?_
      refine lv_iload_n hx hb dX6_same_19 rfl (lv_at hl 1 rfl) ?_
      obtain ⟨r5, qr5, h⟩ := gn_bd h
      refine pc_S (rest := []) ⟨hx, hb, hml, hown, hts⟩ hN (c_J9_floorMod_7cf53 l z _ _ r5 qr5) (va_cwS 2 hts gX6_same_J9_floorMod_7cf53 rfl rfl rfl (by decide +kernel) ⟨(Nat.le_of_ble_eq_true rfl), (Nat.le_of_ble_eq_true rfl)⟩) rfl hl.1 rfl (Nat.le_of_ble_eq_true rfl) dX6_same_20 hcl hsl ?_
      refine lv_istore (lv' := [(4, .int r5), (0, .ref (K.2.2.1 0)), (1, .int a0), (2, .int a1), (3, .int a2)]) hx hb dX6_same_23 hl (by decide) rfl (fun ls hl => ?_)
      refine lv_iload_n hx hb dX6_same_25 rfl (lv_at hl 4 rfl) ?_
      refine lv_iload_n hx hb dX6_same_26 rfl (lv_at hl 2 rfl) ?_
      obtain ⟨r6, qr6, h⟩ := gn_bd h
      refine pc_S (rest := []) ⟨hx, hb, hml, hown, hts⟩ hN (c_J9_floorMod_7cf53 l z _ _ r6 qr6) (va_cwS 2 hts gX6_same_J9_floorMod_7cf53 rfl rfl rfl (by decide +kernel) ⟨(Nat.le_of_ble_eq_true rfl), (Nat.le_of_ble_eq_true rfl)⟩) rfl hl.1 rfl (Nat.le_of_ble_eq_true rfl) dX6_same_27 hcl hsl ?_
      refine lv_istore (lv' := [(5, .int r6), (4, .int r5), (0, .ref (K.2.2.1 0)), (1, .int a0), (2, .int a1), (3, .int a2)]) hx hb dX6_same_30 hl (by decide) rfl (fun ls hl => ?_)
      refine lv_iload_n hx hb dX6_same_32 rfl (lv_at hl 3 rfl) ?_
      refine lv_iload hx hb dX6_same_33 (lv_at hl 1 rfl) ?_
      refine lv_iload hx hb dX6_same_35 (lv_at hl 0 rfl) ?_
      obtain ⟨r7, qr7, h⟩ := gn_bd h
      refine pc_S (rest := []) ⟨hx, hb, hml, hown, hts⟩ hN (c_X0_match l z _ _ _ r7 qr7) (va_cwS 3 hts gX6_same_X0_match rfl rfl rfl (by decide +kernel) ⟨(Nat.le_of_ble_eq_true rfl), (Nat.le_of_ble_eq_true rfl)⟩) rfl hl.1 rfl (Nat.le_of_ble_eq_true rfl) dX6_same_37 hcl hsl ?_
      refine lv_if_eq (tgt := 45) hx hb dX6_same_40 (by decide) (fun c8 => ?_) (fun c8 => ?_)
      · have h := gn_t h c8
        refine lv_iload_n hx hb dX6_same_45 rfl (lv_at hl 3 rfl) ?_
        refine lv_iload_n hx hb dX6_same_46 rfl (lv_at hl 3 rfl) ?_
        refine lv_iload hx hb dX6_same_47 (lv_at hl 1 rfl) ?_
        refine lv_isub hx hb dX6_same_49 ?_
        refine lv_iload hx hb dX6_same_50 (lv_at hl 0 rfl) ?_
        obtain ⟨r9, qr9, h⟩ := gn_bd h
        refine pc_S (rest := []) ⟨hx, hb, hml, hown, hts⟩ hN (c_X0_match l z _ _ _ r9 qr9) (va_cwS 3 hts gX6_same_X0_match rfl rfl rfl (by decide +kernel) ⟨(Nat.le_of_ble_eq_true rfl), (Nat.le_of_ble_eq_true rfl)⟩) rfl hl.1 rfl (Nat.le_of_ble_eq_true rfl) dX6_same_52 hcl hsl ?_
        refine lv_if_eq (tgt := 62) hx hb dX6_same_55 (by decide) (fun c10 => ?_) (fun c10 => ?_)
        · have h := gn_t h c10
          refine lv_iconst (v := (0 : Int32)) hx hb dX6_same_62 (by decide) ?_
          obtain ⟨rfl, rfl⟩ := Prod.mk.inj (gn_some h)
          exact W.iret hx hb hr (fun t ht _ => ⟨rfl, by rw [ht]; exact hP, hD, hS.F ht⟩) hS.2.2 dX6_same_63 hlk
        · have h := gn_f h c10
          refine lv_iconst (v := (1 : Int32)) hx hb dX6_same_58 (by decide) ?_
          refine lv_goto (tgt := 63) hx hb dX6_same_59 (by decide) ?_
          obtain ⟨rfl, rfl⟩ := Prod.mk.inj (gn_some h)
          exact W.iret hx hb hr (fun t ht _ => ⟨rfl, by rw [ht]; exact hP, hD, hS.F ht⟩) hS.2.2 dX6_same_63 hlk
      · have h := gn_f h c8
        refine lv_iconst (v := (2 : Int32)) hx hb dX6_same_43 (by decide) ?_
        obtain ⟨rfl, rfl⟩ := Prod.mk.inj (gn_some h)
        exact W.iret hx hb hr (fun t ht _ => ⟨rfl, by rw [ht]; exact hP, hD, hS.F ht⟩) hS.2.2 dX6_same_44 hlk
    · have h := gn_t h c4
      refine lv_iconst (v := (-1 : Int32)) hx hb dX6_same_16 (by decide) ?_
      obtain ⟨rfl, rfl⟩ := Prod.mk.inj (gn_some h)
      exact W.iret hx hb hr (fun t ht _ => ⟨rfl, by rw [ht]; exact hP, hD, hS.F ht⟩) hS.2.2 dX6_same_17 hlk

def rm_X6_ring : Room := { frames := 3, cells := 0, slots := 0, locals := 86 }
section
variable {p : Program} {l : Launch} {e : Env} {s : State} {m : MethodId} {args : Array Value} {below : List Frame} {meth : Method} {c : Code} {z : Nat} {K : Ev} {M : MS} {o : Nat → Int64} {g : Gh}
end
set_option maxRecDepth 100000 in
theorem c_X6_ring (l : Launch) (z : Nat) (K : Ev) (M : MS) (o : Nat → Int64) (g : Gh) (a0 : Int32) (a1 : Int32) (S : CS) (r : Int32) (S' : CS) (h : F_X6_ring z a0 a1 S = some (r, S')) : Met l yX6_ring wsX6_ring rm_X6_ring (qH K [.ref (K.2.2.1 0), .int a0, .int a1] S M o g) (qR K (some (.int r)) S' M o g) 0 0 (inA K) := by
  refine Met.ofW (cc := cX6_ring) (maxL := 3) (ret := (some .int)) (by decide) rfl ?_
  intro p e s m args below meth c s₁ B hml hv
  obtain ⟨rfl, hN, hP, hK, hD, hF⟩ := hv
  have hx := B.exec
  have hb := B.bytes
  have hr := B.returns
  have hts := atoms_spec (ws := wsX6_ring) B.pre
  have hown : s.vm.findClass RX6 = some m.cls := findClass_of_methodNamed B.named
  have hlk := B.notSynchronized
  have hcl : 0 ≤ (rm_X6_ring).cells := Nat.zero_le _
  have hsl : 0 ≤ (rm_X6_ring).slots := Nat.zero_le _
  have Cc : Cx p s m _ meth c cX6_ring 3 RX6 wsX6_ring (some .int) := ⟨hx, hb, hml, hown, hts, hr, hlk, hN⟩
  have hS : va_S (inA K) s.heap s.heap [] := va_S.rf
  have hl := lv_entry ([.ref (K.2.2.1 0), .int a0, .int a1]) (n := 3) (Nat.le_of_ble_eq_true rfl)
  rw [lg_entry_eq]
  generalize (lg_sl ([.ref (K.2.2.1 0), .int a0, .int a1]) ++ List.replicate (3 - (lg_sl ([.ref (K.2.2.1 0), .int a0, .int a1])).length) Slot.unset).toArray = ls at hl ⊢
  have hl : lv_has ls 3 [(0, .ref (K.2.2.1 0)), (1, .int a0), (2, .int a1)] := hl
  rw [F_X6_ring] at h
  refine lv_iload_n hx hb dX6_ring_0 rfl (lv_at hl 1 rfl) ?_
  refine lv_iload_n hx hb dX6_ring_1 rfl (lv_at hl 2 rfl) ?_
  obtain ⟨r1, qr1, h⟩ := gn_bd h
  refine pc_S (rest := []) ⟨hx, hb, hml, hown, hts⟩ hN (c_X0_isRing l z _ _ r1 qr1) (va_cwS 2 hts gX6_ring_X0_isRing rfl rfl rfl (by decide +kernel) ⟨(Nat.le_of_ble_eq_true rfl), (Nat.le_of_ble_eq_true rfl)⟩) rfl hl.1 rfl (Nat.le_of_ble_eq_true rfl) dX6_ring_2 hcl hsl ?_
  refine lv_if_eq (tgt := 16) hx hb dX6_ring_5 (by decide) (fun c2 => ?_) (fun c2 => ?_)
  · have h := gn_t h c2
    refine lv_iconst (v := (-1 : Int32)) hx hb dX6_ring_16 (by decide) ?_
    obtain ⟨rfl, rfl⟩ := Prod.mk.inj (gn_some h)
    exact W.iret hx hb hr (fun t ht _ => ⟨rfl, by rw [ht]; exact hP, hD, hS.F ht⟩) hS.2.2 dX6_ring_17 hlk
  · have h := gn_f h c2
    refine lv_iload_n hx hb dX6_ring_8 rfl (lv_at hl 1 rfl) ?_
    refine lv_iload_n hx hb dX6_ring_9 rfl (lv_at hl 2 rfl) ?_
    obtain ⟨r3, qr3, h⟩ := gn_bd h
    refine pc_S (rest := []) ⟨hx, hb, hml, hown, hts⟩ hN (c_X0_leastOf l z _ _ r3 qr3) (va_cwS 2 hts gX6_ring_X0_leastOf rfl rfl rfl (by decide +kernel) ⟨(Nat.le_of_ble_eq_true rfl), (Nat.le_of_ble_eq_true rfl)⟩) rfl hl.1 rfl (Nat.le_of_ble_eq_true rfl) dX6_ring_10 hcl hsl ?_
    refine lv_goto (tgt := 17) hx hb dX6_ring_13 (by decide) ?_
    obtain ⟨rfl, rfl⟩ := Prod.mk.inj (gn_some h)
    exact W.iret hx hb hr (fun t ht _ => ⟨rfl, by rw [ht]; exact hP, hD, hS.F ht⟩) hS.2.2 dX6_ring_17 hlk
theorem in_X6_rings_X6 : ∀ w ∈ wsX60, w ∈ wsX6_rings := fun _ h => List.mem_cons_of_mem _ (List.mem_append_left _ (List.mem_append_right _ h))
def rm_X6_rings : Room := { frames := 4, cells := 0, slots := 0, locals := 108 }
section
variable {p : Program} {l : Launch} {e : Env} {s : State} {m : MethodId} {args : Array Value} {below : List Frame} {meth : Method} {c : Code} {z : Nat} {K : Ev} {M : MS} {o : Nat → Int64} {g : Gh}
end
set_option maxRecDepth 100000 in
theorem c_X6_rings (l : Launch) (z : Nat) (K : Ev) (M : MS) (o : Nat → Int64) (g : Gh) (a0 : Int32) (a1 : Int32) (S : CS) (r : Int32) (S' : CS) (h : F_X6_rings z a0 a1 S = some (r, S')) : Met l yX6_rings wsX6_rings rm_X6_rings (qH K [.ref (K.2.2.1 0), .int a0, .int a1] S M o g) (qR K (some (.int r)) S' M o g) 0 0 (inA K) := by
  refine Met.ofW (cc := cX6_rings) (maxL := 3) (ret := (some .int)) (by decide) rfl ?_
  intro p e s m args below meth c s₁ B hml hv
  obtain ⟨rfl, hN, hP, hK, hD, hF⟩ := hv
  have hx := B.exec
  have hb := B.bytes
  have hr := B.returns
  have hts := atoms_spec (ws := wsX6_rings) B.pre
  have hown : s.vm.findClass RX6 = some m.cls := findClass_of_methodNamed B.named
  have hlk := B.notSynchronized
  have hcl : 0 ≤ (rm_X6_rings).cells := Nat.zero_le _
  have hsl : 0 ≤ (rm_X6_rings).slots := Nat.zero_le _
  have Cc : Cx p s m _ meth c cX6_rings 3 RX6 wsX6_rings (some .int) := ⟨hx, hb, hml, hown, hts, hr, hlk, hN⟩
  have hS : va_S (inA K) s.heap s.heap [] := va_S.rf
  have hl := lv_entry ([.ref (K.2.2.1 0), .int a0, .int a1]) (n := 3) (Nat.le_of_ble_eq_true rfl)
  rw [lg_entry_eq]
  generalize (lg_sl ([.ref (K.2.2.1 0), .int a0, .int a1]) ++ List.replicate (3 - (lg_sl ([.ref (K.2.2.1 0), .int a0, .int a1])).length) Slot.unset).toArray = ls at hl ⊢
  have hl : lv_has ls 3 [(0, .ref (K.2.2.1 0)), (1, .int a0), (2, .int a1)] := hl
  rw [F_X6_rings] at h
  refine lv_iload_n hx hb dX6_rings_0 rfl (lv_at hl 1 rfl) ?_
  refine lv_i2l hx hb dX6_rings_1 rfl ?_
  refine lv_ldc2 hx hb hown (hts (.constantLong RX6 195 (2)) (by decide +kernel)) dX6_rings_2 ?_
  refine lv_ldc2 hx hb hown (hts (.constantLong RX6 104 (1000)) (by decide +kernel)) dX6_rings_5 ?_
  obtain ⟨r1, qr1, h⟩ := gn_bd h
  refine pc_S (rest := []) ⟨hx, hb, hml, hown, hts⟩ hN (c_X6_lies l z _ _ _ r1 qr1) (va_cwS 3 hts gX6_rings_X6_lies rfl rfl rfl (by decide +kernel) ⟨(Nat.le_of_ble_eq_true rfl), (Nat.le_of_ble_eq_true rfl)⟩) rfl hl.1 rfl (Nat.le_of_ble_eq_true rfl) dX6_rings_8 hcl hsl ?_
  refine lv_if_ne (tgt := 16) hx hb dX6_rings_11 (by decide) (fun c2 => ?_) (fun c2 => ?_)
  · have h := gn_f h c2
    refine lv_aload_n hx hb dX6_rings_16 rfl (lv_at hl 0 rfl) ?_
    refine va_get (D := K.1) (ci := 5) (v := .ref (K.2.2.1 2)) (C := RX6) (T := TX6) (N := 9) hx hb hts in_X6_rings_X6 hown hK hP 0 rfl rfl 1 (by decide) (hts (.fieldLink RX6 19 "SawSums" "classes" "LSawSums$Classes;") (by decide +kernel)) (fun _ h9 => h9) rfl dX6_rings_17 ?_
    refine lv_iload_n hx hb dX6_rings_20 rfl (lv_at hl 1 rfl) ?_
    obtain ⟨S3, qS3, h⟩ := gn_bd h
    refine hc_V (rest := []) ⟨hx, hb, hml, hown, hts⟩ hN hF hK hP hD hS (c_X0_gather l z K _ o g _ _  S3 qS3) (cwV 1 hts gX6_rings_X0_gather rfl rfl rfl (by decide +kernel) ⟨(Nat.le_of_ble_eq_true rfl), (Nat.le_of_ble_eq_true rfl)⟩) (va_recv hK hP (ci := 0) (q0 := 2) rfl rfl) rfl hl.1 rfl (Nat.le_of_ble_eq_true rfl) dX6_rings_21 hcl hsl (fun H locs hP hD hS => ?_)
    have hP : va_P K.1 vwCl (wd K S3 M o g) H := hP
    have hD : va_D (inA K) (wd K S3 M o g) := hD
    refine W.eq (g2 := F0 m 24 ls []) rfl ?_
    refine lv_aload_n hx hb dX6_rings_24 rfl (lv_at hl 0 rfl) ?_
    refine va_get (D := K.1) (ci := 5) (v := .ref (K.2.2.1 2)) (C := RX6) (T := TX6) (N := 9) hx hb hts in_X6_rings_X6 hown hK hP 0 rfl rfl 1 (by decide) (hts (.fieldLink RX6 19 "SawSums" "classes" "LSawSums$Classes;") (by decide +kernel)) (fun _ h9 => h9) rfl dX6_rings_25 ?_
    refine lv_iload_n hx hb dX6_rings_28 rfl (lv_at hl 2 rfl) ?_
    obtain ⟨r4, S5, qS5, h⟩ := gn_bd2 h
    refine hc_V (rest := []) ⟨hx, hb, hml, hown, hts⟩ hN hF hK hP hD hS (c_X0_numberAt l z K _ o g _ _ r4 S5 qS5) (cwV 1 hts gX6_rings_X0_numberAt rfl rfl rfl (by decide +kernel) ⟨(Nat.le_of_ble_eq_true rfl), (Nat.le_of_ble_eq_true rfl)⟩) (va_recv hK hP (ci := 0) (q0 := 2) rfl rfl) rfl hl.1 rfl (Nat.le_of_ble_eq_true rfl) dX6_rings_29 hcl hsl (fun H locs hP hD hS => ?_)
    have hP : va_P K.1 vwCl (wd K S5 M o g) H := hP
    have hD : va_D (inA K) (wd K S5 M o g) := hD
    refine W.eq (g2 := F0 m 32 ls [.int r4]) rfl ?_
    obtain ⟨rfl, rfl⟩ := Prod.mk.inj (gn_some h)
    exact W.iret hx hb hr (fun t ht _ => ⟨rfl, by rw [ht]; exact hP, hD, hS.F ht⟩) hS.2.2 dX6_rings_32 hlk
  · have h := gn_t h c2
    refine lv_iconst (v := (-1 : Int32)) hx hb dX6_rings_14 (by decide) ?_
    obtain ⟨rfl, rfl⟩ := Prod.mk.inj (gn_some h)
    exact W.iret hx hb hr (fun t ht _ => ⟨rfl, by rw [ht]; exact hP, hD, hS.F ht⟩) hS.2.2 dX6_rings_15 hlk
theorem in_X6_twins_X6 : ∀ w ∈ wsX60, w ∈ wsX6_twins := fun _ h => List.mem_cons_of_mem _ (List.mem_append_left _ (List.mem_append_right _ h))
def rm_X6_twins : Room := { frames := 4, cells := 0, slots := 0, locals := 108 }
section
variable {p : Program} {l : Launch} {e : Env} {s : State} {m : MethodId} {args : Array Value} {below : List Frame} {meth : Method} {c : Code} {z : Nat} {K : Ev} {M : MS} {o : Nat → Int64} {g : Gh}
end
set_option maxRecDepth 100000 in
theorem c_X6_twins (l : Launch) (z : Nat) (K : Ev) (M : MS) (o : Nat → Int64) (g : Gh) (a0 : Int32) (a1 : Int32) (S : CS) (r : Int32) (S' : CS) (h : F_X6_twins z a0 a1 S = some (r, S')) : Met l yX6_twins wsX6_twins rm_X6_twins (qH K [.ref (K.2.2.1 0), .int a0, .int a1] S M o g) (qR K (some (.int r)) S' M o g) 0 0 (inA K) := by
  refine Met.ofW (cc := cX6_twins) (maxL := 3) (ret := (some .int)) (by decide) rfl ?_
  intro p e s m args below meth c s₁ B hml hv
  obtain ⟨rfl, hN, hP, hK, hD, hF⟩ := hv
  have hx := B.exec
  have hb := B.bytes
  have hr := B.returns
  have hts := atoms_spec (ws := wsX6_twins) B.pre
  have hown : s.vm.findClass RX6 = some m.cls := findClass_of_methodNamed B.named
  have hlk := B.notSynchronized
  have hcl : 0 ≤ (rm_X6_twins).cells := Nat.zero_le _
  have hsl : 0 ≤ (rm_X6_twins).slots := Nat.zero_le _
  have Cc : Cx p s m _ meth c cX6_twins 3 RX6 wsX6_twins (some .int) := ⟨hx, hb, hml, hown, hts, hr, hlk, hN⟩
  have hS : va_S (inA K) s.heap s.heap [] := va_S.rf
  have hl := lv_entry ([.ref (K.2.2.1 0), .int a0, .int a1]) (n := 3) (Nat.le_of_ble_eq_true rfl)
  rw [lg_entry_eq]
  generalize (lg_sl ([.ref (K.2.2.1 0), .int a0, .int a1]) ++ List.replicate (3 - (lg_sl ([.ref (K.2.2.1 0), .int a0, .int a1])).length) Slot.unset).toArray = ls at hl ⊢
  have hl : lv_has ls 3 [(0, .ref (K.2.2.1 0)), (1, .int a0), (2, .int a1)] := hl
  rw [F_X6_twins] at h
  refine lv_iload_n hx hb dX6_twins_0 rfl (lv_at hl 1 rfl) ?_
  refine lv_i2l hx hb dX6_twins_1 rfl ?_
  refine lv_ldc2 hx hb hown (hts (.constantLong RX6 195 (2)) (by decide +kernel)) dX6_twins_2 ?_
  refine lv_ldc2 hx hb hown (hts (.constantLong RX6 104 (1000)) (by decide +kernel)) dX6_twins_5 ?_
  obtain ⟨r1, qr1, h⟩ := gn_bd h
  refine pc_S (rest := []) ⟨hx, hb, hml, hown, hts⟩ hN (c_X6_lies l z _ _ _ r1 qr1) (va_cwS 3 hts gX6_twins_X6_lies rfl rfl rfl (by decide +kernel) ⟨(Nat.le_of_ble_eq_true rfl), (Nat.le_of_ble_eq_true rfl)⟩) rfl hl.1 rfl (Nat.le_of_ble_eq_true rfl) dX6_twins_8 hcl hsl ?_
  refine lv_if_ne (tgt := 16) hx hb dX6_twins_11 (by decide) (fun c2 => ?_) (fun c2 => ?_)
  · have h := gn_f h c2
    refine lv_aload_n hx hb dX6_twins_16 rfl (lv_at hl 0 rfl) ?_
    refine va_get (D := K.1) (ci := 5) (v := .ref (K.2.2.1 2)) (C := RX6) (T := TX6) (N := 9) hx hb hts in_X6_twins_X6 hown hK hP 0 rfl rfl 1 (by decide) (hts (.fieldLink RX6 19 "SawSums" "classes" "LSawSums$Classes;") (by decide +kernel)) (fun _ h9 => h9) rfl dX6_twins_17 ?_
    refine lv_iload_n hx hb dX6_twins_20 rfl (lv_at hl 1 rfl) ?_
    obtain ⟨S3, qS3, h⟩ := gn_bd h
    refine hc_V (rest := []) ⟨hx, hb, hml, hown, hts⟩ hN hF hK hP hD hS (c_X0_gather l z K _ o g _ _  S3 qS3) (cwV 1 hts gX6_twins_X0_gather rfl rfl rfl (by decide +kernel) ⟨(Nat.le_of_ble_eq_true rfl), (Nat.le_of_ble_eq_true rfl)⟩) (va_recv hK hP (ci := 0) (q0 := 2) rfl rfl) rfl hl.1 rfl (Nat.le_of_ble_eq_true rfl) dX6_twins_21 hcl hsl (fun H locs hP hD hS => ?_)
    have hP : va_P K.1 vwCl (wd K S3 M o g) H := hP
    have hD : va_D (inA K) (wd K S3 M o g) := hD
    refine W.eq (g2 := F0 m 24 ls []) rfl ?_
    refine lv_aload_n hx hb dX6_twins_24 rfl (lv_at hl 0 rfl) ?_
    refine va_get (D := K.1) (ci := 5) (v := .ref (K.2.2.1 2)) (C := RX6) (T := TX6) (N := 9) hx hb hts in_X6_twins_X6 hown hK hP 0 rfl rfl 1 (by decide) (hts (.fieldLink RX6 19 "SawSums" "classes" "LSawSums$Classes;") (by decide +kernel)) (fun _ h9 => h9) rfl dX6_twins_25 ?_
    refine lv_iload_n hx hb dX6_twins_28 rfl (lv_at hl 2 rfl) ?_
    obtain ⟨r4, S5, qS5, h⟩ := gn_bd2 h
    refine hc_V (rest := []) ⟨hx, hb, hml, hown, hts⟩ hN hF hK hP hD hS (c_X0_twinsAt l z K _ o g _ _ r4 S5 qS5) (cwV 1 hts gX6_twins_X0_twinsAt rfl rfl rfl (by decide +kernel) ⟨(Nat.le_of_ble_eq_true rfl), (Nat.le_of_ble_eq_true rfl)⟩) (va_recv hK hP (ci := 0) (q0 := 2) rfl rfl) rfl hl.1 rfl (Nat.le_of_ble_eq_true rfl) dX6_twins_29 hcl hsl (fun H locs hP hD hS => ?_)
    have hP : va_P K.1 vwCl (wd K S5 M o g) H := hP
    have hD : va_D (inA K) (wd K S5 M o g) := hD
    refine W.eq (g2 := F0 m 32 ls [.int r4]) rfl ?_
    obtain ⟨rfl, rfl⟩ := Prod.mk.inj (gn_some h)
    exact W.iret hx hb hr (fun t ht _ => ⟨rfl, by rw [ht]; exact hP, hD, hS.F ht⟩) hS.2.2 dX6_twins_32 hlk
  · have h := gn_t h c2
    refine lv_iconst (v := (-1 : Int32)) hx hb dX6_twins_14 (by decide) ?_
    obtain ⟨rfl, rfl⟩ := Prod.mk.inj (gn_some h)
    exact W.iret hx hb hr (fun t ht _ => ⟨rfl, by rw [ht]; exact hP, hD, hS.F ht⟩) hS.2.2 dX6_twins_15 hlk
theorem in_X6_feedOne_X6 : ∀ w ∈ wsX60, w ∈ wsX6_feedOne := fun _ h => List.mem_cons_of_mem _ (List.mem_append_right _ h)
def rm_X6_feedOne : Room := { frames := 0, cells := 0, slots := 0, locals := 0 }
section
variable {p : Program} {l : Launch} {e : Env} {s : State} {m : MethodId} {args : Array Value} {below : List Frame} {meth : Method} {c : Code} {z : Nat} {K : Ev} {M : MS} {o : Nat → Int64} {g : Gh}
set_option maxRecDepth 100000 in
theorem w_X6_feedOne_3 (Cc : Cx p s m args meth c cX6_feedOne 3 RX6 wsX6_feedOne none) (hK : va_K K.1 vwCl (tysOf K) s) (hF : SF K s)  {S' : CS} (n : Nat) : ∀ (x1 : Int32) (x2 : Int32) (S : CS) (H : Heap) (locs : List Loc), va_P K.1 vwCl (wd K S M o g) H → va_D (inA K) (wd K S M o g) → va_S (inA K) s.heap H locs → G_X6_feedOne_3 z n x1 x2 S = some S' → ∀ ls, lv_has ls 3 [(0, .ref (K.2.2.1 0)), (1, .int x1), (2, .int x2)] → W p l e rm_X6_feedOne s m args below meth c H locs 0 0 (MQ below (qR K none S' M o g) args s 0 0 (inA K)) (F0 m 3 ls []) := by
  obtain ⟨hx, hb, hml, hown, hts, hr, hlk, hN⟩ := id Cc
  have hcl : 0 ≤ (rm_X6_feedOne).cells := Nat.zero_le _
  have hsl : 0 ≤ (rm_X6_feedOne).slots := Nat.zero_le _
  induction n with
  | zero => intro x1 x2 S H locs hP hD hS h; cases h
  | succ n ih =>
    intro x1 x2 S H locs hP hD hS h ls hl
    rw [G_X6_feedOne_3] at h
    refine lv_iload_n hx hb dX6_feedOne_3 rfl (lv_at hl 2 rfl) ?_
    refine lv_if_lt (tgt := 55) hx hb dX6_feedOne_4 (by decide) (fun c1 => ?_) (fun c1 => ?_)
    · have h := gn_t h c1
      obtain rfl := gn_some h
      exact W.vret hx hb hr (fun t ht _ => ⟨rfl, by rw [ht]; exact hP, hD, hS.F ht⟩) hS.2.2 dX6_feedOne_55 hlk
    · have h := gn_f h c1
      refine lv_aload_n hx hb dX6_feedOne_7 rfl (lv_at hl 0 rfl) ?_
      refine va_get (D := K.1) (ci := 5) (v := .int (cg_tapeLength S)) (C := RX6) (T := TX6) (N := 9) hx hb hts in_X6_feedOne_X6 hown hK hP 0 rfl rfl 5 (by decide) (hts (.fieldLink RX6 40 "SawSums" "tapeLength" "I") (by decide +kernel)) (fun _ h9 => h9) rfl dX6_feedOne_8 ?_
      refine lv_if_lt (tgt := 49) hx hb dX6_feedOne_11 (by decide) (fun c2 => ?_) (fun c2 => ?_)
      · have h := gn_t h c2
        obtain ⟨v3, ev3, h⟩ := gn_nm h
        refine lv_iinc (v := v3) (lv' := [(2, .int v3), (0, .ref (K.2.2.1 0)), (1, .int x1)]) hx hb dX6_feedOne_49 hl (k := 2) rfl (by rw [ev3]; rfl) (by decide) rfl (fun ls hl => ?_)
        refine lv_goto (tgt := 3) hx hb dX6_feedOne_52 (by decide) ?_
        exact ih x1 v3 S _ _ hP hD hS h ls (lv_sub hl [1, 2, 0] rfl)
      · have h := gn_f h c2
        refine lv_aload_n hx hb dX6_feedOne_14 rfl (lv_at hl 0 rfl) ?_
        refine va_get (D := K.1) (ci := 5) (v := .int (cg_tapeLength S)) (C := RX6) (T := TX6) (N := 9) hx hb hts in_X6_feedOne_X6 hown hK hP 0 rfl rfl 5 (by decide) (hts (.fieldLink RX6 40 "SawSums" "tapeLength" "I") (by decide +kernel)) (fun _ h9 => h9) rfl dX6_feedOne_15 ?_
        refine lv_aload_n hx hb dX6_feedOne_18 rfl (lv_at hl 0 rfl) ?_
        refine va_get (D := K.1) (ci := 5) (v := .ref (K.2.2.1 6)) (C := RX6) (T := TX6) (N := 9) hx hb hts in_X6_feedOne_X6 hown hK hP 0 rfl rfl 3 (by decide) (hts (.fieldLink RX6 27 "SawSums" "tape" "[B") (by decide +kernel)) (fun _ h9 => h9) rfl dX6_feedOne_19 ?_
        refine va_alen (v := (300 : Int32)) hx hb hK hP 6 1 rfl rfl rfl dX6_feedOne_22 ?_
        refine lv_icmp_ge (tgt := 49) hx hb dX6_feedOne_23 (by decide) (fun c4 => ?_) (fun c4 => ?_)
        · have h := gn_t h c4
          obtain ⟨v5, ev5, h⟩ := gn_nm h
          refine lv_iinc (v := v5) (lv' := [(2, .int v5), (0, .ref (K.2.2.1 0)), (1, .int x1)]) hx hb dX6_feedOne_49 hl (k := 2) rfl (by rw [ev5]; rfl) (by decide) rfl (fun ls hl => ?_)
          refine lv_goto (tgt := 3) hx hb dX6_feedOne_52 (by decide) ?_
          exact ih x1 v5 S _ _ hP hD hS h ls (lv_sub hl [1, 2, 0] rfl)
        · have h := gn_f h c4
          refine lv_aload_n hx hb dX6_feedOne_26 rfl (lv_at hl 0 rfl) ?_
          refine va_get (D := K.1) (ci := 5) (v := .ref (K.2.2.1 6)) (C := RX6) (T := TX6) (N := 9) hx hb hts in_X6_feedOne_X6 hown hK hP 0 rfl rfl 3 (by decide) (hts (.fieldLink RX6 27 "SawSums" "tape" "[B") (by decide +kernel)) (fun _ h9 => h9) rfl dX6_feedOne_27 ?_
          refine lv_aload_n hx hb dX6_feedOne_30 rfl (lv_at hl 0 rfl) ?_
          refine va_get (D := K.1) (ci := 5) (v := .int (cg_tapeLength S)) (C := RX6) (T := TX6) (N := 9) hx hb hts in_X6_feedOne_X6 hown hK hP 0 rfl rfl 5 (by decide) (hts (.fieldLink RX6 40 "SawSums" "tapeLength" "I") (by decide +kernel)) (fun _ h9 => h9) rfl dX6_feedOne_31 ?_
          refine lv_iload_n hx hb dX6_feedOne_34 rfl (lv_at hl 1 rfl) ?_
          refine lv_iload_n hx hb dX6_feedOne_35 rfl (lv_at hl 2 rfl) ?_
          refine lv_iushr hx hb dX6_feedOne_36 rfl ?_
          refine lv_i2b hx hb dX6_feedOne_37 rfl ?_
          obtain ⟨n6, h⟩ := gn_yz h
          obtain ⟨S7, eS7, h⟩ := gn_nm h
          refine va_bast hx hb hK hP hD hS 6 1 rfl rfl (ib_in n6) dX6_feedOne_38 (fun H locs hP hD hS => ?_)
          have hP : va_P K.1 vwCl (wd K S7 M o g) H := by rw [eS7]; exact hP
          have hD : va_D (inA K) (wd K S7 M o g) := by rw [eS7]; exact hD
          refine lv_aload_n hx hb dX6_feedOne_39 rfl (lv_at hl 0 rfl) ?_
          refine lv_dup hx hb dX6_feedOne_40 rfl ?_
          refine va_get (D := K.1) (ci := 5) (v := .int (cg_tapeLength S7)) (C := RX6) (T := TX6) (N := 9) hx hb hts in_X6_feedOne_X6 hown hK hP 0 rfl rfl 5 (by decide) (hts (.fieldLink RX6 40 "SawSums" "tapeLength" "I") (by decide +kernel)) (fun _ h9 => h9) rfl dX6_feedOne_41 ?_
          refine lv_iconst (v := (1 : Int32)) hx hb dX6_feedOne_44 (by decide) ?_
          refine lv_iadd hx hb dX6_feedOne_45 ?_
          obtain ⟨v8, ev8, h⟩ := gn_nm h
          refine ln_i ev8 ?_
          obtain ⟨S9, eS9, h⟩ := gn_nm h
          refine va_put (D := K.1) (ci := 5) (v := .int v8) (ty := .int) (C := RX6) (T := TX6) (N := 9) hx hb hts in_X6_feedOne_X6 tyX6 tyX6_ok nmX6 hown hK hP hD hS 0 rfl rfl 5 (by decide) (hts (.fieldLink RX6 40 "SawSums" "tapeLength" "I") (by decide +kernel)) (fun _ h9 => h9) rfl (by decide +kernel) rfl rfl (Nat.le_of_ble_eq_true rfl) dX6_feedOne_46 (fun H locs hP hD hS => ?_)
          have hP : va_P K.1 vwCl (wd K S9 M o g) H := by rw [eS9]; exact hP
          have hD : va_D (inA K) (wd K S9 M o g) := by rw [eS9]; exact hD
          obtain ⟨v10, ev10, h⟩ := gn_nm h
          refine lv_iinc (v := v10) (lv' := [(2, .int v10), (0, .ref (K.2.2.1 0)), (1, .int x1)]) hx hb dX6_feedOne_49 hl (k := 2) rfl (by rw [ev10]; rfl) (by decide) rfl (fun ls hl => ?_)
          refine lv_goto (tgt := 3) hx hb dX6_feedOne_52 (by decide) ?_
          exact ih x1 v10 S9 _ _ hP hD hS h ls (lv_sub hl [1, 2, 0] rfl)
end
set_option maxRecDepth 100000 in
theorem c_X6_feedOne (l : Launch) (z : Nat) (K : Ev) (M : MS) (o : Nat → Int64) (g : Gh) (a0 : Int32) (S : CS)  (S' : CS) (h : F_X6_feedOne z a0 S = some S') : Met l yX6_feedOne wsX6_feedOne rm_X6_feedOne (qH K [.ref (K.2.2.1 0), .int a0] S M o g) (qR K none S' M o g) 0 0 (inA K) := by
  refine Met.ofW (cc := cX6_feedOne) (maxL := 3) (ret := none) (by decide) rfl ?_
  intro p e s m args below meth c s₁ B hml hv
  obtain ⟨rfl, hN, hP, hK, hD, hF⟩ := hv
  have hx := B.exec
  have hb := B.bytes
  have hr := B.returns
  have hts := atoms_spec (ws := wsX6_feedOne) B.pre
  have hown : s.vm.findClass RX6 = some m.cls := findClass_of_methodNamed B.named
  have hlk := B.notSynchronized
  have hcl : 0 ≤ (rm_X6_feedOne).cells := Nat.zero_le _
  have hsl : 0 ≤ (rm_X6_feedOne).slots := Nat.zero_le _
  have Cc : Cx p s m _ meth c cX6_feedOne 3 RX6 wsX6_feedOne none := ⟨hx, hb, hml, hown, hts, hr, hlk, hN⟩
  have hS : va_S (inA K) s.heap s.heap [] := va_S.rf
  have hl := lv_entry ([.ref (K.2.2.1 0), .int a0]) (n := 3) (Nat.le_of_ble_eq_true rfl)
  rw [lg_entry_eq]
  generalize (lg_sl ([.ref (K.2.2.1 0), .int a0]) ++ List.replicate (3 - (lg_sl ([.ref (K.2.2.1 0), .int a0])).length) Slot.unset).toArray = ls at hl ⊢
  have hl : lv_has ls 3 [(0, .ref (K.2.2.1 0)), (1, .int a0)] := hl
  rw [F_X6_feedOne] at h
  refine lv_bipush (v := (24 : Int32)) hx hb dX6_feedOne_0 (by decide) ?_
  refine lv_istore_n (lv' := [(2, .int (24 : Int32)), (0, .ref (K.2.2.1 0)), (1, .int a0)]) hx hb dX6_feedOne_2 rfl hl (by decide) rfl (fun ls hl => ?_)
  exact w_X6_feedOne_3 Cc hK hF z a0 (24 : Int32) S _ _ hP hD hS h ls (lv_sub hl [1, 2, 0] rfl)
theorem in_X6_feed_X6 : ∀ w ∈ wsX60, w ∈ wsX6_feed := fun _ h => List.mem_cons_of_mem _ (List.mem_append_right _ h)
def rm_X6_feed : Room := { frames := 1, cells := 0, slots := 0, locals := 22 }
section
variable {p : Program} {l : Launch} {e : Env} {s : State} {m : MethodId} {args : Array Value} {below : List Frame} {meth : Method} {c : Code} {z : Nat} {K : Ev} {M : MS} {o : Nat → Int64} {g : Gh}
end
set_option maxRecDepth 100000 in
theorem c_X6_feed (l : Launch) (z : Nat) (K : Ev) (M : MS) (o : Nat → Int64) (g : Gh) (a0 : Int32) (a1 : Int32) (a2 : Int32) (a3 : Int32) (a4 : Int32) (S : CS) (r : Int32) (S' : CS) (h : F_X6_feed z a0 a1 a2 a3 a4 S = some (r, S')) : Met l yX6_feed wsX6_feed rm_X6_feed (qH K [.ref (K.2.2.1 0), .int a0, .int a1, .int a2, .int a3, .int a4] S M o g) (qR K (some (.int r)) S' M o g) 0 0 (inA K) := by
  refine Met.ofW (cc := cX6_feed) (maxL := 6) (ret := (some .int)) (by decide) rfl ?_
  intro p e s m args below meth c s₁ B hml hv
  obtain ⟨rfl, hN, hP, hK, hD, hF⟩ := hv
  have hx := B.exec
  have hb := B.bytes
  have hr := B.returns
  have hts := atoms_spec (ws := wsX6_feed) B.pre
  have hown : s.vm.findClass RX6 = some m.cls := findClass_of_methodNamed B.named
  have hlk := B.notSynchronized
  have hcl : 0 ≤ (rm_X6_feed).cells := Nat.zero_le _
  have hsl : 0 ≤ (rm_X6_feed).slots := Nat.zero_le _
  have Cc : Cx p s m _ meth c cX6_feed 6 RX6 wsX6_feed (some .int) := ⟨hx, hb, hml, hown, hts, hr, hlk, hN⟩
  have hS : va_S (inA K) s.heap s.heap [] := va_S.rf
  have hl := lv_entry ([.ref (K.2.2.1 0), .int a0, .int a1, .int a2, .int a3, .int a4]) (n := 6) (Nat.le_of_ble_eq_true rfl)
  rw [lg_entry_eq]
  generalize (lg_sl ([.ref (K.2.2.1 0), .int a0, .int a1, .int a2, .int a3, .int a4]) ++ List.replicate (6 - (lg_sl ([.ref (K.2.2.1 0), .int a0, .int a1, .int a2, .int a3, .int a4])).length) Slot.unset).toArray = ls at hl ⊢
  have hl : lv_has ls 6 [(0, .ref (K.2.2.1 0)), (1, .int a0), (2, .int a1), (3, .int a2), (4, .int a3), (5, .int a4)] := hl
  rw [F_X6_feed] at h
  refine lv_aload_n hx hb dX6_feed_0 rfl (lv_at hl 0 rfl) ?_
  refine va_get (D := K.1) (ci := 5) (v := .int (cg_tapeLength S)) (C := RX6) (T := TX6) (N := 9) hx hb hts in_X6_feed_X6 hown hK hP 0 rfl rfl 5 (by decide) (hts (.fieldLink RX6 40 "SawSums" "tapeLength" "I") (by decide +kernel)) (fun _ h9 => h9) rfl dX6_feed_1 ?_
  refine lv_bipush (v := (20 : Int32)) hx hb dX6_feed_4 (by decide) ?_
  refine lv_iadd hx hb dX6_feed_6 ?_
  refine lv_sipush (v := (300 : Int32)) hx hb dX6_feed_7 (by decide) ?_
  refine lv_icmp_le (tgt := 15) hx hb dX6_feed_10 (by decide) (fun c1 => ?_) (fun c1 => ?_)
  · have h := gn_t h c1
    refine lv_aload_n hx hb dX6_feed_15 rfl (lv_at hl 0 rfl) ?_
    refine lv_iload_n hx hb dX6_feed_16 rfl (lv_at hl 1 rfl) ?_
    obtain ⟨S2, qS2, h⟩ := gn_bd h
    refine hc_V (rest := []) ⟨hx, hb, hml, hown, hts⟩ hN hF hK hP hD hS (c_X6_feedOne l z K _ o g _ _  S2 qS2) (cwV 1 hts gX6_feed_X6_feedOne rfl rfl rfl (by decide +kernel) ⟨(Nat.le_of_ble_eq_true rfl), (Nat.le_of_ble_eq_true rfl)⟩) (va_recv hK hP (ci := 5) (q0 := 0) rfl rfl) rfl hl.1 rfl (Nat.le_of_ble_eq_true rfl) dX6_feed_17 hcl hsl (fun H locs hP hD hS => ?_)
    have hP : va_P K.1 vwCl (wd K S2 M o g) H := hP
    have hD : va_D (inA K) (wd K S2 M o g) := hD
    refine W.eq (g2 := F0 m 20 ls []) rfl ?_
    refine lv_aload_n hx hb dX6_feed_20 rfl (lv_at hl 0 rfl) ?_
    refine lv_iload_n hx hb dX6_feed_21 rfl (lv_at hl 2 rfl) ?_
    obtain ⟨S3, qS3, h⟩ := gn_bd h
    refine hc_V (rest := []) ⟨hx, hb, hml, hown, hts⟩ hN hF hK hP hD hS (c_X6_feedOne l z K _ o g _ _  S3 qS3) (cwV 1 hts gX6_feed_X6_feedOne rfl rfl rfl (by decide +kernel) ⟨(Nat.le_of_ble_eq_true rfl), (Nat.le_of_ble_eq_true rfl)⟩) (va_recv hK hP (ci := 5) (q0 := 0) rfl rfl) rfl hl.1 rfl (Nat.le_of_ble_eq_true rfl) dX6_feed_22 hcl hsl (fun H locs hP hD hS => ?_)
    have hP : va_P K.1 vwCl (wd K S3 M o g) H := hP
    have hD : va_D (inA K) (wd K S3 M o g) := hD
    refine W.eq (g2 := F0 m 25 ls []) rfl ?_
    refine lv_aload_n hx hb dX6_feed_25 rfl (lv_at hl 0 rfl) ?_
    refine lv_iload_n hx hb dX6_feed_26 rfl (lv_at hl 3 rfl) ?_
    obtain ⟨S4, qS4, h⟩ := gn_bd h
    refine hc_V (rest := []) ⟨hx, hb, hml, hown, hts⟩ hN hF hK hP hD hS (c_X6_feedOne l z K _ o g _ _  S4 qS4) (cwV 1 hts gX6_feed_X6_feedOne rfl rfl rfl (by decide +kernel) ⟨(Nat.le_of_ble_eq_true rfl), (Nat.le_of_ble_eq_true rfl)⟩) (va_recv hK hP (ci := 5) (q0 := 0) rfl rfl) rfl hl.1 rfl (Nat.le_of_ble_eq_true rfl) dX6_feed_27 hcl hsl (fun H locs hP hD hS => ?_)
    have hP : va_P K.1 vwCl (wd K S4 M o g) H := hP
    have hD : va_D (inA K) (wd K S4 M o g) := hD
    refine W.eq (g2 := F0 m 30 ls []) rfl ?_
    refine lv_aload_n hx hb dX6_feed_30 rfl (lv_at hl 0 rfl) ?_
    refine lv_iload hx hb dX6_feed_31 (lv_at hl 4 rfl) ?_
    obtain ⟨S5, qS5, h⟩ := gn_bd h
    refine hc_V (rest := []) ⟨hx, hb, hml, hown, hts⟩ hN hF hK hP hD hS (c_X6_feedOne l z K _ o g _ _  S5 qS5) (cwV 1 hts gX6_feed_X6_feedOne rfl rfl rfl (by decide +kernel) ⟨(Nat.le_of_ble_eq_true rfl), (Nat.le_of_ble_eq_true rfl)⟩) (va_recv hK hP (ci := 5) (q0 := 0) rfl rfl) rfl hl.1 rfl (Nat.le_of_ble_eq_true rfl) dX6_feed_33 hcl hsl (fun H locs hP hD hS => ?_)
    have hP : va_P K.1 vwCl (wd K S5 M o g) H := hP
    have hD : va_D (inA K) (wd K S5 M o g) := hD
    refine W.eq (g2 := F0 m 36 ls []) rfl ?_
    refine lv_aload_n hx hb dX6_feed_36 rfl (lv_at hl 0 rfl) ?_
    refine lv_iload hx hb dX6_feed_37 (lv_at hl 5 rfl) ?_
    obtain ⟨S6, qS6, h⟩ := gn_bd h
    refine hc_V (rest := []) ⟨hx, hb, hml, hown, hts⟩ hN hF hK hP hD hS (c_X6_feedOne l z K _ o g _ _  S6 qS6) (cwV 1 hts gX6_feed_X6_feedOne rfl rfl rfl (by decide +kernel) ⟨(Nat.le_of_ble_eq_true rfl), (Nat.le_of_ble_eq_true rfl)⟩) (va_recv hK hP (ci := 5) (q0 := 0) rfl rfl) rfl hl.1 rfl (Nat.le_of_ble_eq_true rfl) dX6_feed_39 hcl hsl (fun H locs hP hD hS => ?_)
    have hP : va_P K.1 vwCl (wd K S6 M o g) H := hP
    have hD : va_D (inA K) (wd K S6 M o g) := hD
    refine W.eq (g2 := F0 m 42 ls []) rfl ?_
    refine lv_aload_n hx hb dX6_feed_42 rfl (lv_at hl 0 rfl) ?_
    refine va_get (D := K.1) (ci := 5) (v := .int (cg_tapeLength S6)) (C := RX6) (T := TX6) (N := 9) hx hb hts in_X6_feed_X6 hown hK hP 0 rfl rfl 5 (by decide) (hts (.fieldLink RX6 40 "SawSums" "tapeLength" "I") (by decide +kernel)) (fun _ h9 => h9) rfl dX6_feed_43 ?_
    obtain ⟨rfl, rfl⟩ := Prod.mk.inj (gn_some h)
    exact W.iret hx hb hr (fun t ht _ => ⟨rfl, by rw [ht]; exact hP, hD, hS.F ht⟩) hS.2.2 dX6_feed_46 hlk
  · have h := gn_f h c1
    refine lv_iconst (v := (-1 : Int32)) hx hb dX6_feed_13 (by decide) ?_
    obtain ⟨rfl, rfl⟩ := Prod.mk.inj (gn_some h)
    exact W.iret hx hb hr (fun t ht _ => ⟨rfl, by rw [ht]; exact hP, hD, hS.F ht⟩) hS.2.2 dX6_feed_14 hlk
theorem in_X6_end_X6 : ∀ w ∈ wsX60, w ∈ wsX6_end := fun _ h => List.mem_cons_of_mem _ (List.mem_append_right _ h)
def rm_X6_end : Room := { frames := 1, cells := 0, slots := 0, locals := 25 }
section
variable {p : Program} {l : Launch} {e : Env} {s : State} {m : MethodId} {args : Array Value} {below : List Frame} {meth : Method} {c : Code} {z : Nat} {K : Ev} {M : MS} {o : Nat → Int64} {g : Gh}
end
set_option maxRecDepth 100000 in
theorem c_X6_end (l : Launch) (z : Nat) (K : Ev) (M : MS) (o : Nat → Int64) (g : Gh) (a0 : Int32) (S : CS) (r : Int32) (S' : CS) (h : F_X6_end z a0 S = some (r, S')) : Met l yX6_end wsX6_end rm_X6_end (qH K [.ref (K.2.2.1 0), .int a0] S M o g) (qR K (some (.int r)) S' M o g) 0 0 (inA K) := by
  refine Met.ofW (cc := cX6_end) (maxL := 2) (ret := (some .boolean)) (by decide) rfl ?_
  intro p e s m args below meth c s₁ B hml hv
  obtain ⟨rfl, hN, hP, hK, hD, hF⟩ := hv
  have hx := B.exec
  have hb := B.bytes
  have hr := B.returns
  have hts := atoms_spec (ws := wsX6_end) B.pre
  have hown : s.vm.findClass RX6 = some m.cls := findClass_of_methodNamed B.named
  have hlk := B.notSynchronized
  have hcl : 0 ≤ (rm_X6_end).cells := Nat.zero_le _
  have hsl : 0 ≤ (rm_X6_end).slots := Nat.zero_le _
  have Cc : Cx p s m _ meth c cX6_end 2 RX6 wsX6_end (some .boolean) := ⟨hx, hb, hml, hown, hts, hr, hlk, hN⟩
  have hS : va_S (inA K) s.heap s.heap [] := va_S.rf
  have hl := lv_entry ([.ref (K.2.2.1 0), .int a0]) (n := 2) (Nat.le_of_ble_eq_true rfl)
  rw [lg_entry_eq]
  generalize (lg_sl ([.ref (K.2.2.1 0), .int a0]) ++ List.replicate (2 - (lg_sl ([.ref (K.2.2.1 0), .int a0])).length) Slot.unset).toArray = ls at hl ⊢
  have hl : lv_has ls 2 [(0, .ref (K.2.2.1 0)), (1, .int a0)] := hl
  rw [F_X6_end] at h
  refine lv_iload_n hx hb dX6_end_0 rfl (lv_at hl 1 rfl) ?_
  refine lv_i2l hx hb dX6_end_1 rfl ?_
  refine lv_lconst (v := (0 : Int64)) hx hb dX6_end_2 (by decide) ?_
  refine lv_aload_n hx hb dX6_end_3 rfl (lv_at hl 0 rfl) ?_
  refine va_get (D := K.1) (ci := 5) (v := .int (cg_tapeLength S)) (C := RX6) (T := TX6) (N := 9) hx hb hts in_X6_end_X6 hown hK hP 0 rfl rfl 5 (by decide) (hts (.fieldLink RX6 40 "SawSums" "tapeLength" "I") (by decide +kernel)) (fun _ h9 => h9) rfl dX6_end_4 ?_
  refine lv_i2l hx hb dX6_end_7 rfl ?_
  obtain ⟨r1, qr1, h⟩ := gn_bd h
  refine pc_S (rest := []) ⟨hx, hb, hml, hown, hts⟩ hN (c_X6_lies l z _ _ _ r1 qr1) (va_cwS 3 hts gX6_end_X6_lies rfl rfl rfl (by decide +kernel) ⟨(Nat.le_of_ble_eq_true rfl), (Nat.le_of_ble_eq_true rfl)⟩) rfl hl.1 rfl (Nat.le_of_ble_eq_true rfl) dX6_end_8 hcl hsl ?_
  refine lv_if_ne (tgt := 16) hx hb dX6_end_11 (by decide) (fun c2 => ?_) (fun c2 => ?_)
  · have h := gn_f h c2
    refine lv_aload_n hx hb dX6_end_16 rfl (lv_at hl 0 rfl) ?_
    refine lv_iload_n hx hb dX6_end_17 rfl (lv_at hl 1 rfl) ?_
    obtain ⟨S3, eS3, h⟩ := gn_nm h
    refine va_put (D := K.1) (ci := 5) (v := .int a0) (ty := .int) (C := RX6) (T := TX6) (N := 9) hx hb hts in_X6_end_X6 tyX6 tyX6_ok nmX6 hown hK hP hD hS 0 rfl rfl 5 (by decide) (hts (.fieldLink RX6 40 "SawSums" "tapeLength" "I") (by decide +kernel)) (fun _ h9 => h9) rfl (by decide +kernel) rfl rfl (Nat.le_of_ble_eq_true rfl) dX6_end_18 (fun H locs hP hD hS => ?_)
    have hP : va_P K.1 vwCl (wd K S3 M o g) H := by rw [eS3]; exact hP
    have hD : va_D (inA K) (wd K S3 M o g) := by rw [eS3]; exact hD
    refine lv_iconst (v := (1 : Int32)) hx hb dX6_end_21 (by decide) ?_
    obtain ⟨rfl, rfl⟩ := Prod.mk.inj (gn_some h)
    exact W.zret (ty := .boolean) hx hb hr rfl (fun t ht _ => ⟨rfl, by rw [ht]; exact hP, hD, hS.F ht⟩) hS.2.2 dX6_end_22 hlk
  · have h := gn_t h c2
    refine lv_iconst (v := (0 : Int32)) hx hb dX6_end_14 (by decide) ?_
    obtain ⟨rfl, rfl⟩ := Prod.mk.inj (gn_some h)
    exact W.zret (ty := .boolean) hx hb hr rfl (fun t ht _ => ⟨rfl, by rw [ht]; exact hP, hD, hS.F ht⟩) hS.2.2 dX6_end_15 hlk
theorem in_X6_count_X6 : ∀ w ∈ wsX60, w ∈ wsX6_count := fun _ h => List.mem_cons_of_mem _ (List.mem_append_right _ h)
def rm_X6_count : Room := { frames := 0, cells := 0, slots := 0, locals := 0 }
section
variable {p : Program} {l : Launch} {e : Env} {s : State} {m : MethodId} {args : Array Value} {below : List Frame} {meth : Method} {c : Code} {z : Nat} {K : Ev} {M : MS} {o : Nat → Int64} {g : Gh}
end
set_option maxRecDepth 100000 in
theorem c_X6_count (l : Launch) (z : Nat) (K : Ev) (M : MS) (o : Nat → Int64) (g : Gh) (a0 : Int32) (S : CS) (r : Int32) (S' : CS) (h : F_X6_count z a0 S = some (r, S')) : Met l yX6_count wsX6_count rm_X6_count (qH K [.ref (K.2.2.1 0), .int a0] S M o g) (qR K (some (.int r)) S' M o g) 0 0 (inA K) := by
  refine Met.ofW (cc := cX6_count) (maxL := 2) (ret := (some .int)) (by decide) rfl ?_
  intro p e s m args below meth c s₁ B hml hv
  obtain ⟨rfl, hN, hP, hK, hD, hF⟩ := hv
  have hx := B.exec
  have hb := B.bytes
  have hr := B.returns
  have hts := atoms_spec (ws := wsX6_count) B.pre
  have hown : s.vm.findClass RX6 = some m.cls := findClass_of_methodNamed B.named
  have hlk := B.notSynchronized
  have hcl : 0 ≤ (rm_X6_count).cells := Nat.zero_le _
  have hsl : 0 ≤ (rm_X6_count).slots := Nat.zero_le _
  have Cc : Cx p s m _ meth c cX6_count 2 RX6 wsX6_count (some .int) := ⟨hx, hb, hml, hown, hts, hr, hlk, hN⟩
  have hS : va_S (inA K) s.heap s.heap [] := va_S.rf
  have hl := lv_entry ([.ref (K.2.2.1 0), .int a0]) (n := 2) (Nat.le_of_ble_eq_true rfl)
  rw [lg_entry_eq]
  generalize (lg_sl ([.ref (K.2.2.1 0), .int a0]) ++ List.replicate (2 - (lg_sl ([.ref (K.2.2.1 0), .int a0])).length) Slot.unset).toArray = ls at hl ⊢
  have hl : lv_has ls 2 [(0, .ref (K.2.2.1 0)), (1, .int a0)] := hl
  rw [F_X6_count] at h
  refine lv_iload_n hx hb dX6_count_0 rfl (lv_at hl 1 rfl) ?_
  by_cases c1 : a0 = (0 : Int32)
  · have h := gn_t h c1
    refine lv_tableIn (off := 27) (tgt := 28) hx hb dX6_count_1 (by rw [c1]; decide) (by rw [c1]; decide) (by rw [c1]; rfl) (by decide) ?_
    refine lv_aload_n hx hb dX6_count_28 rfl (lv_at hl 0 rfl) ?_
    refine va_get (D := K.1) (ci := 5) (v := .int (cg_tapeLength S)) (C := RX6) (T := TX6) (N := 9) hx hb hts in_X6_count_X6 hown hK hP 0 rfl rfl 5 (by decide) (hts (.fieldLink RX6 40 "SawSums" "tapeLength" "I") (by decide +kernel)) (fun _ h9 => h9) rfl dX6_count_29 ?_
    obtain ⟨rfl, rfl⟩ := Prod.mk.inj (gn_some h)
    exact W.iret hx hb hr (fun t ht _ => ⟨rfl, by rw [ht]; exact hP, hD, hS.F ht⟩) hS.2.2 dX6_count_32 hlk
  have h := gn_f h c1
  by_cases c2 : a0 = (1 : Int32)
  · have h := gn_t h c2
    refine lv_tableIn (off := 32) (tgt := 33) hx hb dX6_count_1 (by rw [c2]; decide) (by rw [c2]; decide) (by rw [c2]; rfl) (by decide) ?_
    refine lv_aload_n hx hb dX6_count_33 rfl (lv_at hl 0 rfl) ?_
    refine va_get (D := K.1) (ci := 5) (v := .int (cg_sumsTold S)) (C := RX6) (T := TX6) (N := 9) hx hb hts in_X6_count_X6 hown hK hP 0 rfl rfl 7 (by decide) (hts (.fieldLink RX6 53 "SawSums" "sumsTold" "I") (by decide +kernel)) (fun _ h9 => h9) rfl dX6_count_34 ?_
    obtain ⟨rfl, rfl⟩ := Prod.mk.inj (gn_some h)
    exact W.iret hx hb hr (fun t ht _ => ⟨rfl, by rw [ht]; exact hP, hD, hS.F ht⟩) hS.2.2 dX6_count_37 hlk
  have h := gn_f h c2
  by_cases c3 : a0 = (2 : Int32)
  · have h := gn_t h c3
    refine lv_tableIn (off := 37) (tgt := 38) hx hb dX6_count_1 (by rw [c3]; decide) (by rw [c3]; decide) (by rw [c3]; rfl) (by decide) ?_
    refine lv_aload_n hx hb dX6_count_38 rfl (lv_at hl 0 rfl) ?_
    refine va_get (D := K.1) (ci := 5) (v := .int (cg_inLatest S)) (C := RX6) (T := TX6) (N := 9) hx hb hts in_X6_count_X6 hown hK hP 0 rfl rfl 8 (by decide) (hts (.fieldLink RX6 56 "SawSums" "sawSumsInLatest" "I") (by decide +kernel)) (fun _ h9 => h9) rfl dX6_count_39 ?_
    obtain ⟨rfl, rfl⟩ := Prod.mk.inj (gn_some h)
    exact W.iret hx hb hr (fun t ht _ => ⟨rfl, by rw [ht]; exact hP, hD, hS.F ht⟩) hS.2.2 dX6_count_42 hlk
  have h := gn_f h c3
  refine lv_tableOut (tgt := 43) hx hb dX6_count_1 (tsw_out_3 c1 c2 c3) (by decide) ?_
  refine lv_iconst (v := (-1 : Int32)) hx hb dX6_count_43 (by decide) ?_
  obtain ⟨rfl, rfl⟩ := Prod.mk.inj (gn_some h)
  exact W.iret hx hb hr (fun t ht _ => ⟨rfl, by rw [ht]; exact hP, hD, hS.F ht⟩) hS.2.2 dX6_count_44 hlk
theorem in_X4_byteAt_X4 : ∀ w ∈ wsX40, w ∈ wsX4_byteAt := fun _ h => List.mem_cons_of_mem _ (List.mem_append_right _ h)
def rm_X4_byteAt : Room := { frames := 0, cells := 0, slots := 0, locals := 0 }
section
variable {p : Program} {l : Launch} {e : Env} {s : State} {m : MethodId} {args : Array Value} {below : List Frame} {meth : Method} {c : Code} {z : Nat} {K : Ev} {M : MS} {o : Nat → Int64} {g : Gh}
end
set_option maxRecDepth 100000 in
theorem c_X4_byteAt (l : Launch) (z : Nat) (K : Ev) (M : MS) (o : Nat → Int64) (g : Gh) (a0 : Int32) (S : CS) (r : Int32) (S' : CS) (h : F_X4_byteAt z a0 S = some (r, S')) : Met l yX4_byteAt wsX4_byteAt rm_X4_byteAt (qH K [.ref (K.2.2.1 8), .int a0] S M o g) (qR K (some (.int r)) S' M o g) 0 0 (inA K) := by
  refine Met.ofW (cc := cX4_byteAt) (maxL := 2) (ret := (some .int)) (by decide) rfl ?_
  intro p e s m args below meth c s₁ B hml hv
  obtain ⟨rfl, hN, hP, hK, hD, hF⟩ := hv
  have hx := B.exec
  have hb := B.bytes
  have hr := B.returns
  have hts := atoms_spec (ws := wsX4_byteAt) B.pre
  have hown : s.vm.findClass RX4 = some m.cls := findClass_of_methodNamed B.named
  have hlk := B.notSynchronized
  have hcl : 0 ≤ (rm_X4_byteAt).cells := Nat.zero_le _
  have hsl : 0 ≤ (rm_X4_byteAt).slots := Nat.zero_le _
  have Cc : Cx p s m _ meth c cX4_byteAt 2 RX4 wsX4_byteAt (some .int) := ⟨hx, hb, hml, hown, hts, hr, hlk, hN⟩
  have hS : va_S (inA K) s.heap s.heap [] := va_S.rf
  have hl := lv_entry ([.ref (K.2.2.1 8), .int a0]) (n := 2) (Nat.le_of_ble_eq_true rfl)
  rw [lg_entry_eq]
  generalize (lg_sl ([.ref (K.2.2.1 8), .int a0]) ++ List.replicate (2 - (lg_sl ([.ref (K.2.2.1 8), .int a0])).length) Slot.unset).toArray = ls at hl ⊢
  have hl : lv_has ls 2 [(0, .ref (K.2.2.1 8)), (1, .int a0)] := hl
  rw [F_X4_byteAt] at h
  refine lv_iload_n hx hb dX4_byteAt_0 rfl (lv_at hl 1 rfl) ?_
  refine lv_if_lt (tgt := 34) hx hb dX4_byteAt_1 (by decide) (fun c1 => ?_) (fun c1 => ?_)
  · have h := gn_t h c1
    refine lv_iconst (v := (-1 : Int32)) hx hb dX4_byteAt_34 (by decide) ?_
    obtain ⟨rfl, rfl⟩ := Prod.mk.inj (gn_some h)
    exact W.iret hx hb hr (fun t ht _ => ⟨rfl, by rw [ht]; exact hP, hD, hS.F ht⟩) hS.2.2 dX4_byteAt_35 hlk
  · have h := gn_f h c1
    refine lv_iload_n hx hb dX4_byteAt_4 rfl (lv_at hl 1 rfl) ?_
    refine lv_aload_n hx hb dX4_byteAt_5 rfl (lv_at hl 0 rfl) ?_
    refine va_get (D := K.1) (ci := 4) (v := .int (cg_tlength S)) (C := RX4) (T := TX4) (N := 6) hx hb hts in_X4_byteAt_X4 hown hK hP 8 rfl rfl 4 (by decide) (hts (.fieldLink RX4 25 "SawSums$Tokens" "length" "I") (by decide +kernel)) (fun _ h9 => h9) rfl dX4_byteAt_6 ?_
    refine lv_icmp_ge (tgt := 34) hx hb dX4_byteAt_9 (by decide) (fun c2 => ?_) (fun c2 => ?_)
    · have h := gn_t h c2
      refine lv_iconst (v := (-1 : Int32)) hx hb dX4_byteAt_34 (by decide) ?_
      obtain ⟨rfl, rfl⟩ := Prod.mk.inj (gn_some h)
      exact W.iret hx hb hr (fun t ht _ => ⟨rfl, by rw [ht]; exact hP, hD, hS.F ht⟩) hS.2.2 dX4_byteAt_35 hlk
    · have h := gn_f h c2
      refine lv_iload_n hx hb dX4_byteAt_12 rfl (lv_at hl 1 rfl) ?_
      refine lv_aload_n hx hb dX4_byteAt_13 rfl (lv_at hl 0 rfl) ?_
      refine va_get (D := K.1) (ci := 4) (v := .ref (K.2.2.1 6)) (C := RX4) (T := TX4) (N := 6) hx hb hts in_X4_byteAt_X4 hown hK hP 8 rfl rfl 0 (by decide) (hts (.fieldLink RX4 9 "SawSums$Tokens" "bytes" "[B") (by decide +kernel)) (fun _ h9 => h9) rfl dX4_byteAt_14 ?_
      refine va_alen (v := (300 : Int32)) hx hb hK hP 6 1 rfl rfl rfl dX4_byteAt_17 ?_
      refine lv_icmp_ge (tgt := 34) hx hb dX4_byteAt_18 (by decide) (fun c3 => ?_) (fun c3 => ?_)
      · have h := gn_t h c3
        refine lv_iconst (v := (-1 : Int32)) hx hb dX4_byteAt_34 (by decide) ?_
        obtain ⟨rfl, rfl⟩ := Prod.mk.inj (gn_some h)
        exact W.iret hx hb hr (fun t ht _ => ⟨rfl, by rw [ht]; exact hP, hD, hS.F ht⟩) hS.2.2 dX4_byteAt_35 hlk
      · have h := gn_f h c3
        refine lv_aload_n hx hb dX4_byteAt_21 rfl (lv_at hl 0 rfl) ?_
        refine va_get (D := K.1) (ci := 4) (v := .ref (K.2.2.1 6)) (C := RX4) (T := TX4) (N := 6) hx hb hts in_X4_byteAt_X4 hown hK hP 8 rfl rfl 0 (by decide) (hts (.fieldLink RX4 9 "SawSums$Tokens" "bytes" "[B") (by decide +kernel)) (fun _ h9 => h9) rfl dX4_byteAt_22 ?_
        refine lv_iload_n hx hb dX4_byteAt_25 rfl (lv_at hl 1 rfl) ?_
        obtain ⟨n4, h⟩ := gn_yz h
        refine va_bald hx hb hK hP 6 1 rfl rfl (ib_in n4) dX4_byteAt_26 ?_
        refine lv_sipush (v := (255 : Int32)) hx hb dX4_byteAt_27 (by decide) ?_
        refine lv_iand hx hb dX4_byteAt_30 ?_
        refine lv_goto (tgt := 35) hx hb dX4_byteAt_31 (by decide) ?_
        obtain ⟨rfl, rfl⟩ := Prod.mk.inj (gn_some h)
        exact W.iret hx hb hr (fun t ht _ => ⟨rfl, by rw [ht]; exact hP, hD, hS.F ht⟩) hS.2.2 dX4_byteAt_35 hlk

def rm_X4_sortAt : Room := { frames := 1, cells := 0, slots := 0, locals := 21 }
section
variable {p : Program} {l : Launch} {e : Env} {s : State} {m : MethodId} {args : Array Value} {below : List Frame} {meth : Method} {c : Code} {z : Nat} {K : Ev} {M : MS} {o : Nat → Int64} {g : Gh}
set_option maxRecDepth 100000 in
theorem w_X4_sortAt_34 (Cc : Cx p s m args meth c cX4_sortAt 3 RX4 wsX4_sortAt (some .int)) (hK : va_K K.1 vwCl (tysOf K) s) (hF : SF K s) {r : Int32} {S' : CS} : ∀ (x2 : Int32) (S : CS) (H : Heap) (locs : List Loc), va_P K.1 vwCl (wd K S M o g) H → va_D (inA K) (wd K S M o g) → va_S (inA K) s.heap H locs → G_X4_sortAt_34 z x2 S = some (r, S') → ∀ ls, lv_has ls 3 [(2, .int x2)] → W p l e rm_X4_sortAt s m args below meth c H locs 0 0 (MQ below (qR K (some (.int r)) S' M o g) args s 0 0 (inA K)) (F0 m 34 ls []) := by
  obtain ⟨hx, hb, hml, hown, hts, hr, hlk, hN⟩ := id Cc
  have hcl : 0 ≤ (rm_X4_sortAt).cells := Nat.zero_le _
  have hsl : 0 ≤ (rm_X4_sortAt).slots := Nat.zero_le _
  intro x2 S H locs hP hD hS h ls hl
  rw [G_X4_sortAt_34] at h
  refine lv_iload_n hx hb dX4_sortAt_34 rfl (lv_at hl 0 rfl) ?_
  refine lv_bipush (v := (48 : Int32)) hx hb dX4_sortAt_35 (by decide) ?_
  refine lv_icmp_lt (tgt := 50) hx hb dX4_sortAt_37 (by decide) (fun c1 => ?_) (fun c1 => ?_)
  · have h := gn_t h c1
    refine lv_iconst (v := (0 : Int32)) hx hb dX4_sortAt_50 (by decide) ?_
    obtain ⟨rfl, rfl⟩ := Prod.mk.inj (gn_some h)
    exact W.iret hx hb hr (fun t ht _ => ⟨rfl, by rw [ht]; exact hP, hD, hS.F ht⟩) hS.2.2 dX4_sortAt_51 hlk
  · have h := gn_f h c1
    refine lv_iload_n hx hb dX4_sortAt_40 rfl (lv_at hl 0 rfl) ?_
    refine lv_bipush (v := (57 : Int32)) hx hb dX4_sortAt_41 (by decide) ?_
    refine lv_icmp_gt (tgt := 50) hx hb dX4_sortAt_43 (by decide) (fun c2 => ?_) (fun c2 => ?_)
    · have h := gn_t h c2
      refine lv_iconst (v := (0 : Int32)) hx hb dX4_sortAt_50 (by decide) ?_
      obtain ⟨rfl, rfl⟩ := Prod.mk.inj (gn_some h)
      exact W.iret hx hb hr (fun t ht _ => ⟨rfl, by rw [ht]; exact hP, hD, hS.F ht⟩) hS.2.2 dX4_sortAt_51 hlk
    · have h := gn_f h c2
      refine lv_iconst (v := (3 : Int32)) hx hb dX4_sortAt_46 (by decide) ?_
      refine lv_goto (tgt := 51) hx hb dX4_sortAt_47 (by decide) ?_
      obtain ⟨rfl, rfl⟩ := Prod.mk.inj (gn_some h)
      exact W.iret hx hb hr (fun t ht _ => ⟨rfl, by rw [ht]; exact hP, hD, hS.F ht⟩) hS.2.2 dX4_sortAt_51 hlk
end
set_option maxRecDepth 100000 in
theorem c_X4_sortAt (l : Launch) (z : Nat) (K : Ev) (M : MS) (o : Nat → Int64) (g : Gh) (a0 : Int32) (S : CS) (r : Int32) (S' : CS) (h : F_X4_sortAt z a0 S = some (r, S')) : Met l yX4_sortAt wsX4_sortAt rm_X4_sortAt (qH K [.ref (K.2.2.1 8), .int a0] S M o g) (qR K (some (.int r)) S' M o g) 0 0 (inA K) := by
  refine Met.ofW (cc := cX4_sortAt) (maxL := 3) (ret := (some .int)) (by decide) rfl ?_
  intro p e s m args below meth c s₁ B hml hv
  obtain ⟨rfl, hN, hP, hK, hD, hF⟩ := hv
  have hx := B.exec
  have hb := B.bytes
  have hr := B.returns
  have hts := atoms_spec (ws := wsX4_sortAt) B.pre
  have hown : s.vm.findClass RX4 = some m.cls := findClass_of_methodNamed B.named
  have hlk := B.notSynchronized
  have hcl : 0 ≤ (rm_X4_sortAt).cells := Nat.zero_le _
  have hsl : 0 ≤ (rm_X4_sortAt).slots := Nat.zero_le _
  have Cc : Cx p s m _ meth c cX4_sortAt 3 RX4 wsX4_sortAt (some .int) := ⟨hx, hb, hml, hown, hts, hr, hlk, hN⟩
  have hS : va_S (inA K) s.heap s.heap [] := va_S.rf
  have hl := lv_entry ([.ref (K.2.2.1 8), .int a0]) (n := 3) (Nat.le_of_ble_eq_true rfl)
  rw [lg_entry_eq]
  generalize (lg_sl ([.ref (K.2.2.1 8), .int a0]) ++ List.replicate (3 - (lg_sl ([.ref (K.2.2.1 8), .int a0])).length) Slot.unset).toArray = ls at hl ⊢
  have hl : lv_has ls 3 [(0, .ref (K.2.2.1 8)), (1, .int a0)] := hl
  rw [F_X4_sortAt] at h
  refine lv_aload_n hx hb dX4_sortAt_0 rfl (lv_at hl 0 rfl) ?_
  refine lv_iload_n hx hb dX4_sortAt_1 rfl (lv_at hl 1 rfl) ?_
  obtain ⟨r1, S2, qS2, h⟩ := gn_bd2 h
  refine hc_V (rest := []) ⟨hx, hb, hml, hown, hts⟩ hN hF hK hP hD hS (c_X4_byteAt l z K _ o g _ _ r1 S2 qS2) (cwV 1 hts gX4_sortAt_X4_byteAt rfl rfl rfl (by decide +kernel) ⟨(Nat.le_of_ble_eq_true rfl), (Nat.le_of_ble_eq_true rfl)⟩) (va_recv hK hP (ci := 4) (q0 := 8) rfl rfl) rfl hl.1 rfl (Nat.le_of_ble_eq_true rfl) dX4_sortAt_2 hcl hsl (fun H locs hP hD hS => ?_)
  have hP : va_P K.1 vwCl (wd K S2 M o g) H := hP
  have hD : va_D (inA K) (wd K S2 M o g) := hD
  refine W.eq (g2 := F0 m 5 ls [.int r1]) rfl ?_
  refine lv_istore_n (lv' := [(2, .int r1), (0, .ref (K.2.2.1 8)), (1, .int a0)]) hx hb dX4_sortAt_5 rfl hl (by decide) rfl (fun ls hl => ?_)
  refine lv_iload_n hx hb dX4_sortAt_6 rfl (lv_at hl 0 rfl) ?_
  refine lv_bipush (v := (32 : Int32)) hx hb dX4_sortAt_7 (by decide) ?_
  refine lv_icmp_eq (tgt := 18) hx hb dX4_sortAt_9 (by decide) (fun c3 => ?_) (fun c3 => ?_)
  · have h := gn_t h c3
    refine lv_iconst (v := (1 : Int32)) hx hb dX4_sortAt_18 (by decide) ?_
    obtain ⟨rfl, rfl⟩ := Prod.mk.inj (gn_some h)
    exact W.iret hx hb hr (fun t ht _ => ⟨rfl, by rw [ht]; exact hP, hD, hS.F ht⟩) hS.2.2 dX4_sortAt_19 hlk
  · have h := gn_f h c3
    refine lv_iload_n hx hb dX4_sortAt_12 rfl (lv_at hl 0 rfl) ?_
    refine lv_bipush (v := (10 : Int32)) hx hb dX4_sortAt_13 (by decide) ?_
    refine lv_icmp_ne (tgt := 20) hx hb dX4_sortAt_15 (by decide) (fun c4 => ?_) (fun c4 => ?_)
    · have h := gn_f h c4
      refine lv_iload_n hx hb dX4_sortAt_20 rfl (lv_at hl 0 rfl) ?_
      refine lv_bipush (v := (97 : Int32)) hx hb dX4_sortAt_21 (by decide) ?_
      refine lv_icmp_lt (tgt := 34) hx hb dX4_sortAt_23 (by decide) (fun c5 => ?_) (fun c5 => ?_)
      · have h := gn_t h c5
        exact w_X4_sortAt_34 Cc hK hF r1 S2 _ _ hP hD hS h ls (lv_sub hl [0] rfl)
      · have h := gn_f h c5
        refine lv_iload_n hx hb dX4_sortAt_26 rfl (lv_at hl 0 rfl) ?_
        refine lv_bipush (v := (122 : Int32)) hx hb dX4_sortAt_27 (by decide) ?_
        refine lv_icmp_gt (tgt := 34) hx hb dX4_sortAt_29 (by decide) (fun c6 => ?_) (fun c6 => ?_)
        · have h := gn_t h c6
          exact w_X4_sortAt_34 Cc hK hF r1 S2 _ _ hP hD hS h ls (lv_sub hl [0] rfl)
        · have h := gn_f h c6
          refine lv_iconst (v := (2 : Int32)) hx hb dX4_sortAt_32 (by decide) ?_
          obtain ⟨rfl, rfl⟩ := Prod.mk.inj (gn_some h)
          exact W.iret hx hb hr (fun t ht _ => ⟨rfl, by rw [ht]; exact hP, hD, hS.F ht⟩) hS.2.2 dX4_sortAt_33 hlk
    · have h := gn_t h c4
      refine lv_iconst (v := (1 : Int32)) hx hb dX4_sortAt_18 (by decide) ?_
      obtain ⟨rfl, rfl⟩ := Prod.mk.inj (gn_some h)
      exact W.iret hx hb hr (fun t ht _ => ⟨rfl, by rw [ht]; exact hP, hD, hS.F ht⟩) hS.2.2 dX4_sortAt_19 hlk

def rm_X4_pastRun : Room := { frames := 2, cells := 0, slots := 0, locals := 43 }
section
variable {p : Program} {l : Launch} {e : Env} {s : State} {m : MethodId} {args : Array Value} {below : List Frame} {meth : Method} {c : Code} {z : Nat} {K : Ev} {M : MS} {o : Nat → Int64} {g : Gh}
set_option maxRecDepth 100000 in
theorem w_X4_pastRun_5 (Cc : Cx p s m args meth c cX4_pastRun 5 RX4 wsX4_pastRun (some .int)) (hK : va_K K.1 vwCl (tysOf K) s) (hF : SF K s) {r : Int32} {S' : CS} (n : Nat) : ∀ (x2 : Int32) (x3 : Int32) (x4 : Int32) (S : CS) (H : Heap) (locs : List Loc), va_P K.1 vwCl (wd K S M o g) H → va_D (inA K) (wd K S M o g) → va_S (inA K) s.heap H locs → G_X4_pastRun_5 z n x2 x3 x4 S = some (r, S') → ∀ ls, lv_has ls 5 [(0, .ref (K.2.2.1 8)), (2, .int x2), (3, .int x3), (4, .int x4)] → W p l e rm_X4_pastRun s m args below meth c H locs 0 0 (MQ below (qR K (some (.int r)) S' M o g) args s 0 0 (inA K)) (F0 m 5 ls []) := by
  obtain ⟨hx, hb, hml, hown, hts, hr, hlk, hN⟩ := id Cc
  have hcl : 0 ≤ (rm_X4_pastRun).cells := Nat.zero_le _
  have hsl : 0 ≤ (rm_X4_pastRun).slots := Nat.zero_le _
  induction n with
  | zero => intro x2 x3 x4 S H locs hP hD hS h; cases h
  | succ n ih =>
    intro x2 x3 x4 S H locs hP hD hS h ls hl
    rw [G_X4_pastRun_5] at h
    refine lv_iload hx hb dX4_pastRun_5 (lv_at hl 3 rfl) ?_
    refine lv_sipush (v := (300 : Int32)) hx hb dX4_pastRun_7 (by decide) ?_
    refine lv_icmp_ge (tgt := 31) hx hb dX4_pastRun_10 (by decide) (fun c1 => ?_) (fun c1 => ?_)
    · have h := gn_t h c1
      refine lv_iload_n hx hb dX4_pastRun_31 rfl (lv_at hl 2 rfl) ?_
      obtain ⟨rfl, rfl⟩ := Prod.mk.inj (gn_some h)
      exact W.iret hx hb hr (fun t ht _ => ⟨rfl, by rw [ht]; exact hP, hD, hS.F ht⟩) hS.2.2 dX4_pastRun_32 hlk
    · have h := gn_f h c1
      refine lv_aload_n hx hb dX4_pastRun_13 rfl (lv_at hl 0 rfl) ?_
      refine lv_iload_n hx hb dX4_pastRun_14 rfl (lv_at hl 2 rfl) ?_
      obtain ⟨r2, S3, qS3, h⟩ := gn_bd2 h
      refine hc_V (rest := []) ⟨hx, hb, hml, hown, hts⟩ hN hF hK hP hD hS (c_X4_sortAt l z K _ o g _ _ r2 S3 qS3) (cwV 1 hts gX4_pastRun_X4_sortAt rfl rfl rfl (by decide +kernel) ⟨(Nat.le_of_ble_eq_true rfl), (Nat.le_of_ble_eq_true rfl)⟩) (va_recv hK hP (ci := 4) (q0 := 8) rfl rfl) rfl hl.1 rfl (Nat.le_of_ble_eq_true rfl) dX4_pastRun_15 hcl hsl (fun H locs hP hD hS => ?_)
      have hP : va_P K.1 vwCl (wd K S3 M o g) H := hP
      have hD : va_D (inA K) (wd K S3 M o g) := hD
      refine W.eq (g2 := F0 m 18 ls [.int r2]) rfl ?_
      refine lv_iload_n hx hb dX4_pastRun_18 rfl (lv_at hl 1 rfl) ?_
      refine lv_icmp_ne (tgt := 31) hx hb dX4_pastRun_19 (by decide) (fun c4 => ?_) (fun c4 => ?_)
      · have h := gn_f h c4
        refine lv_iload_n hx hb dX4_pastRun_31 rfl (lv_at hl 2 rfl) ?_
        obtain ⟨rfl, rfl⟩ := Prod.mk.inj (gn_some h)
        exact W.iret hx hb hr (fun t ht _ => ⟨rfl, by rw [ht]; exact hP, hD, hS.F ht⟩) hS.2.2 dX4_pastRun_32 hlk
      · have h := gn_t h c4
        obtain ⟨v5, ev5, h⟩ := gn_nm h
        refine lv_iinc (v := v5) (lv' := [(3, .int v5), (0, .ref (K.2.2.1 8)), (2, .int x2), (4, .int x4)]) hx hb dX4_pastRun_22 hl (k := 2) rfl (by rw [ev5]; rfl) (by decide) rfl (fun ls hl => ?_)
        obtain ⟨v6, ev6, h⟩ := gn_nm h
        refine lv_iinc (v := v6) (lv' := [(4, .int v6), (3, .int v5), (0, .ref (K.2.2.1 8)), (2, .int x2)]) hx hb dX4_pastRun_25 hl (k := 3) rfl (by rw [ev6]; rfl) (by decide) rfl (fun ls hl => ?_)
        refine lv_goto (tgt := 5) hx hb dX4_pastRun_28 (by decide) ?_
        exact ih x2 v5 v6 S3 _ _ hP hD hS h ls (lv_sub hl [2, 3, 1, 0] rfl)
end
set_option maxRecDepth 100000 in
theorem c_X4_pastRun (l : Launch) (z : Nat) (K : Ev) (M : MS) (o : Nat → Int64) (g : Gh) (a0 : Int32) (a1 : Int32) (S : CS) (r : Int32) (S' : CS) (h : F_X4_pastRun z a0 a1 S = some (r, S')) : Met l yX4_pastRun wsX4_pastRun rm_X4_pastRun (qH K [.ref (K.2.2.1 8), .int a0, .int a1] S M o g) (qR K (some (.int r)) S' M o g) 0 0 (inA K) := by
  refine Met.ofW (cc := cX4_pastRun) (maxL := 5) (ret := (some .int)) (by decide) rfl ?_
  intro p e s m args below meth c s₁ B hml hv
  obtain ⟨rfl, hN, hP, hK, hD, hF⟩ := hv
  have hx := B.exec
  have hb := B.bytes
  have hr := B.returns
  have hts := atoms_spec (ws := wsX4_pastRun) B.pre
  have hown : s.vm.findClass RX4 = some m.cls := findClass_of_methodNamed B.named
  have hlk := B.notSynchronized
  have hcl : 0 ≤ (rm_X4_pastRun).cells := Nat.zero_le _
  have hsl : 0 ≤ (rm_X4_pastRun).slots := Nat.zero_le _
  have Cc : Cx p s m _ meth c cX4_pastRun 5 RX4 wsX4_pastRun (some .int) := ⟨hx, hb, hml, hown, hts, hr, hlk, hN⟩
  have hS : va_S (inA K) s.heap s.heap [] := va_S.rf
  have hl := lv_entry ([.ref (K.2.2.1 8), .int a0, .int a1]) (n := 5) (Nat.le_of_ble_eq_true rfl)
  rw [lg_entry_eq]
  generalize (lg_sl ([.ref (K.2.2.1 8), .int a0, .int a1]) ++ List.replicate (5 - (lg_sl ([.ref (K.2.2.1 8), .int a0, .int a1])).length) Slot.unset).toArray = ls at hl ⊢
  have hl : lv_has ls 5 [(0, .ref (K.2.2.1 8)), (1, .int a0), (2, .int a1)] := hl
  rw [F_X4_pastRun] at h
  refine lv_iload_n hx hb dX4_pastRun_0 rfl (lv_at hl 1 rfl) ?_
  refine lv_istore_n (lv' := [(3, .int a0), (0, .ref (K.2.2.1 8)), (1, .int a0), (2, .int a1)]) hx hb dX4_pastRun_1 rfl hl (by decide) rfl (fun ls hl => ?_)
  refine lv_iconst (v := (0 : Int32)) hx hb dX4_pastRun_2 (by decide) ?_
  refine lv_istore (lv' := [(4, .int (0 : Int32)), (3, .int a0), (0, .ref (K.2.2.1 8)), (1, .int a0), (2, .int a1)]) hx hb dX4_pastRun_3 hl (by decide) rfl (fun ls hl => ?_)
  exact w_X4_pastRun_5 Cc hK hF z a1 a0 (0 : Int32) S _ _ hP hD hS h ls (lv_sub hl [2, 4, 1, 0] rfl)

def rm_X4_readDigits : Room := { frames := 2, cells := 0, slots := 0, locals := 43 }
section
variable {p : Program} {l : Launch} {e : Env} {s : State} {m : MethodId} {args : Array Value} {below : List Frame} {meth : Method} {c : Code} {z : Nat} {K : Ev} {M : MS} {o : Nat → Int64} {g : Gh}
set_option maxRecDepth 100000 in
theorem w_X4_readDigits_4 (Cc : Cx p s m args meth c cX4_readDigits 4 RX4 wsX4_readDigits (some .int)) (hK : va_K K.1 vwCl (tysOf K) s) (hF : SF K s) {r : Int32} {S' : CS} (n : Nat) : ∀ (x1 : Int32) (x2 : Int32) (x3 : Int32) (S : CS) (H : Heap) (locs : List Loc), va_P K.1 vwCl (wd K S M o g) H → va_D (inA K) (wd K S M o g) → va_S (inA K) s.heap H locs → G_X4_readDigits_4 z n x1 x2 x3 S = some (r, S') → ∀ ls, lv_has ls 4 [(0, .ref (K.2.2.1 8)), (1, .int x1), (2, .int x2), (3, .int x3)] → W p l e rm_X4_readDigits s m args below meth c H locs 0 0 (MQ below (qR K (some (.int r)) S' M o g) args s 0 0 (inA K)) (F0 m 4 ls []) := by
  obtain ⟨hx, hb, hml, hown, hts, hr, hlk, hN⟩ := id Cc
  have hcl : 0 ≤ (rm_X4_readDigits).cells := Nat.zero_le _
  have hsl : 0 ≤ (rm_X4_readDigits).slots := Nat.zero_le _
  induction n with
  | zero => intro x1 x2 x3 S H locs hP hD hS h; cases h
  | succ n ih =>
    intro x1 x2 x3 S H locs hP hD hS h ls hl
    rw [G_X4_readDigits_4] at h
    refine lv_iload_n hx hb dX4_readDigits_4 rfl (lv_at hl 3 rfl) ?_
    refine lv_bipush (v := (9 : Int32)) hx hb dX4_readDigits_5 (by decide) ?_
    refine lv_icmp_ge (tgt := 43) hx hb dX4_readDigits_7 (by decide) (fun c1 => ?_) (fun c1 => ?_)
    · have h := gn_t h c1
      refine lv_iload_n hx hb dX4_readDigits_43 rfl (lv_at hl 2 rfl) ?_
      obtain ⟨rfl, rfl⟩ := Prod.mk.inj (gn_some h)
      exact W.iret hx hb hr (fun t ht _ => ⟨rfl, by rw [ht]; exact hP, hD, hS.F ht⟩) hS.2.2 dX4_readDigits_44 hlk
    · have h := gn_f h c1
      refine lv_aload_n hx hb dX4_readDigits_10 rfl (lv_at hl 0 rfl) ?_
      refine lv_iload_n hx hb dX4_readDigits_11 rfl (lv_at hl 1 rfl) ?_
      refine lv_iload_n hx hb dX4_readDigits_12 rfl (lv_at hl 3 rfl) ?_
      refine lv_iadd hx hb dX4_readDigits_13 ?_
      obtain ⟨r2, S3, qS3, h⟩ := gn_bd2 h
      refine hc_V (rest := []) ⟨hx, hb, hml, hown, hts⟩ hN hF hK hP hD hS (c_X4_sortAt l z K _ o g _ _ r2 S3 qS3) (cwV 1 hts gX4_readDigits_X4_sortAt rfl rfl rfl (by decide +kernel) ⟨(Nat.le_of_ble_eq_true rfl), (Nat.le_of_ble_eq_true rfl)⟩) (va_recv hK hP (ci := 4) (q0 := 8) rfl rfl) rfl hl.1 rfl (Nat.le_of_ble_eq_true rfl) dX4_readDigits_14 hcl hsl (fun H locs hP hD hS => ?_)
      have hP : va_P K.1 vwCl (wd K S3 M o g) H := hP
      have hD : va_D (inA K) (wd K S3 M o g) := hD
      refine W.eq (g2 := F0 m 17 ls [.int r2]) rfl ?_
      refine lv_iconst (v := (3 : Int32)) hx hb dX4_readDigits_17 (by decide) ?_
      refine lv_icmp_ne (tgt := 43) hx hb dX4_readDigits_18 (by decide) (fun c4 => ?_) (fun c4 => ?_)
      · have h := gn_f h c4
        refine lv_iload_n hx hb dX4_readDigits_43 rfl (lv_at hl 2 rfl) ?_
        obtain ⟨rfl, rfl⟩ := Prod.mk.inj (gn_some h)
        exact W.iret hx hb hr (fun t ht _ => ⟨rfl, by rw [ht]; exact hP, hD, hS.F ht⟩) hS.2.2 dX4_readDigits_44 hlk
      · have h := gn_t h c4
        refine lv_bipush (v := (10 : Int32)) hx hb dX4_readDigits_21 (by decide) ?_
        refine lv_iload_n hx hb dX4_readDigits_23 rfl (lv_at hl 2 rfl) ?_
        refine lv_imul hx hb dX4_readDigits_24 ?_
        refine lv_aload_n hx hb dX4_readDigits_25 rfl (lv_at hl 0 rfl) ?_
        refine lv_iload_n hx hb dX4_readDigits_26 rfl (lv_at hl 1 rfl) ?_
        refine lv_iload_n hx hb dX4_readDigits_27 rfl (lv_at hl 3 rfl) ?_
        refine lv_iadd hx hb dX4_readDigits_28 ?_
        obtain ⟨r5, S6, qS6, h⟩ := gn_bd2 h
        refine hc_V (rest := [.int ((10 : Int32) * x2)]) ⟨hx, hb, hml, hown, hts⟩ hN hF hK hP hD hS (c_X4_byteAt l z K _ o g _ _ r5 S6 qS6) (cwV 1 hts gX4_readDigits_X4_byteAt rfl rfl rfl (by decide +kernel) ⟨(Nat.le_of_ble_eq_true rfl), (Nat.le_of_ble_eq_true rfl)⟩) (va_recv hK hP (ci := 4) (q0 := 8) rfl rfl) rfl hl.1 rfl (Nat.le_of_ble_eq_true rfl) dX4_readDigits_29 hcl hsl (fun H locs hP hD hS => ?_)
        have hP : va_P K.1 vwCl (wd K S6 M o g) H := hP
        have hD : va_D (inA K) (wd K S6 M o g) := hD
        refine W.eq (g2 := F0 m 32 ls [.int r5, .int ((10 : Int32) * x2)]) rfl ?_
        refine lv_iadd hx hb dX4_readDigits_32 ?_
        refine lv_bipush (v := (48 : Int32)) hx hb dX4_readDigits_33 (by decide) ?_
        refine lv_isub hx hb dX4_readDigits_35 ?_
        obtain ⟨v7, ev7, h⟩ := gn_nm h
        refine ln_i ev7 ?_
        refine lv_istore_n (lv' := [(2, .int v7), (0, .ref (K.2.2.1 8)), (1, .int x1), (3, .int x3)]) hx hb dX4_readDigits_36 rfl hl (by decide) rfl (fun ls hl => ?_)
        obtain ⟨v8, ev8, h⟩ := gn_nm h
        refine lv_iinc (v := v8) (lv' := [(3, .int v8), (2, .int v7), (0, .ref (K.2.2.1 8)), (1, .int x1)]) hx hb dX4_readDigits_37 hl (k := 3) rfl (by rw [ev8]; rfl) (by decide) rfl (fun ls hl => ?_)
        refine lv_goto (tgt := 4) hx hb dX4_readDigits_40 (by decide) ?_
        exact ih x1 v7 v8 S6 _ _ hP hD hS h ls (lv_sub hl [2, 3, 1, 0] rfl)
end
set_option maxRecDepth 100000 in
theorem c_X4_readDigits (l : Launch) (z : Nat) (K : Ev) (M : MS) (o : Nat → Int64) (g : Gh) (a0 : Int32) (S : CS) (r : Int32) (S' : CS) (h : F_X4_readDigits z a0 S = some (r, S')) : Met l yX4_readDigits wsX4_readDigits rm_X4_readDigits (qH K [.ref (K.2.2.1 8), .int a0] S M o g) (qR K (some (.int r)) S' M o g) 0 0 (inA K) := by
  refine Met.ofW (cc := cX4_readDigits) (maxL := 4) (ret := (some .int)) (by decide) rfl ?_
  intro p e s m args below meth c s₁ B hml hv
  obtain ⟨rfl, hN, hP, hK, hD, hF⟩ := hv
  have hx := B.exec
  have hb := B.bytes
  have hr := B.returns
  have hts := atoms_spec (ws := wsX4_readDigits) B.pre
  have hown : s.vm.findClass RX4 = some m.cls := findClass_of_methodNamed B.named
  have hlk := B.notSynchronized
  have hcl : 0 ≤ (rm_X4_readDigits).cells := Nat.zero_le _
  have hsl : 0 ≤ (rm_X4_readDigits).slots := Nat.zero_le _
  have Cc : Cx p s m _ meth c cX4_readDigits 4 RX4 wsX4_readDigits (some .int) := ⟨hx, hb, hml, hown, hts, hr, hlk, hN⟩
  have hS : va_S (inA K) s.heap s.heap [] := va_S.rf
  have hl := lv_entry ([.ref (K.2.2.1 8), .int a0]) (n := 4) (Nat.le_of_ble_eq_true rfl)
  rw [lg_entry_eq]
  generalize (lg_sl ([.ref (K.2.2.1 8), .int a0]) ++ List.replicate (4 - (lg_sl ([.ref (K.2.2.1 8), .int a0])).length) Slot.unset).toArray = ls at hl ⊢
  have hl : lv_has ls 4 [(0, .ref (K.2.2.1 8)), (1, .int a0)] := hl
  rw [F_X4_readDigits] at h
  refine lv_iconst (v := (0 : Int32)) hx hb dX4_readDigits_0 (by decide) ?_
  refine lv_istore_n (lv' := [(2, .int (0 : Int32)), (0, .ref (K.2.2.1 8)), (1, .int a0)]) hx hb dX4_readDigits_1 rfl hl (by decide) rfl (fun ls hl => ?_)
  refine lv_iconst (v := (0 : Int32)) hx hb dX4_readDigits_2 (by decide) ?_
  refine lv_istore_n (lv' := [(3, .int (0 : Int32)), (2, .int (0 : Int32)), (0, .ref (K.2.2.1 8)), (1, .int a0)]) hx hb dX4_readDigits_3 rfl hl (by decide) rfl (fun ls hl => ?_)
  exact w_X4_readDigits_4 Cc hK hF z a0 (0 : Int32) (0 : Int32) S _ _ hP hD hS h ls (lv_sub hl [2, 3, 1, 0] rfl)
theorem in_X4_put_X4 : ∀ w ∈ wsX40, w ∈ wsX4_put := fun _ h => List.mem_cons_of_mem _ (List.mem_append_right _ h)
def rm_X4_put : Room := { frames := 3, cells := 0, slots := 0, locals := 66 }
section
variable {p : Program} {l : Launch} {e : Env} {s : State} {m : MethodId} {args : Array Value} {below : List Frame} {meth : Method} {c : Code} {z : Nat} {K : Ev} {M : MS} {o : Nat → Int64} {g : Gh}
end
set_option maxRecDepth 100000 in
theorem c_X4_put (l : Launch) (z : Nat) (K : Ev) (M : MS) (o : Nat → Int64) (g : Gh) (a0 : Int32) (a1 : Int32) (S : CS)  (S' : CS) (h : F_X4_put z a0 a1 S = some S') : Met l yX4_put wsX4_put rm_X4_put (qH K [.ref (K.2.2.1 8), .int a0, .int a1] S M o g) (qR K none S' M o g) 0 0 (inA K) := by
  refine Met.ofW (cc := cX4_put) (maxL := 3) (ret := none) (by decide) rfl ?_
  intro p e s m args below meth c s₁ B hml hv
  obtain ⟨rfl, hN, hP, hK, hD, hF⟩ := hv
  have hx := B.exec
  have hb := B.bytes
  have hr := B.returns
  have hts := atoms_spec (ws := wsX4_put) B.pre
  have hown : s.vm.findClass RX4 = some m.cls := findClass_of_methodNamed B.named
  have hlk := B.notSynchronized
  have hcl : 0 ≤ (rm_X4_put).cells := Nat.zero_le _
  have hsl : 0 ≤ (rm_X4_put).slots := Nat.zero_le _
  have Cc : Cx p s m _ meth c cX4_put 3 RX4 wsX4_put none := ⟨hx, hb, hml, hown, hts, hr, hlk, hN⟩
  have hS : va_S (inA K) s.heap s.heap [] := va_S.rf
  have hl := lv_entry ([.ref (K.2.2.1 8), .int a0, .int a1]) (n := 3) (Nat.le_of_ble_eq_true rfl)
  rw [lg_entry_eq]
  generalize (lg_sl ([.ref (K.2.2.1 8), .int a0, .int a1]) ++ List.replicate (3 - (lg_sl ([.ref (K.2.2.1 8), .int a0, .int a1])).length) Slot.unset).toArray = ls at hl ⊢
  have hl : lv_has ls 3 [(0, .ref (K.2.2.1 8)), (1, .int a0), (2, .int a1)] := hl
  rw [F_X4_put] at h
  refine lv_aload_n hx hb dX4_put_0 rfl (lv_at hl 0 rfl) ?_
  refine va_get (D := K.1) (ci := 4) (v := .int (cg_tmany S)) (C := RX4) (T := TX4) (N := 6) hx hb hts in_X4_put_X4 hown hK hP 8 rfl rfl 5 (by decide) (hts (.fieldLink RX4 29 "SawSums$Tokens" "many" "I") (by decide +kernel)) (fun _ h9 => h9) rfl dX4_put_1 ?_
  refine lv_if_lt (tgt := 97) hx hb dX4_put_4 (by decide) (fun c1 => ?_) (fun c1 => ?_)
  · have h := gn_t h c1
    obtain rfl := gn_some h
    exact W.vret hx hb hr (fun t ht _ => ⟨rfl, by rw [ht]; exact hP, hD, hS.F ht⟩) hS.2.2 dX4_put_97 hlk
  · have h := gn_f h c1
    refine lv_aload_n hx hb dX4_put_7 rfl (lv_at hl 0 rfl) ?_
    refine va_get (D := K.1) (ci := 4) (v := .int (cg_tmany S)) (C := RX4) (T := TX4) (N := 6) hx hb hts in_X4_put_X4 hown hK hP 8 rfl rfl 5 (by decide) (hts (.fieldLink RX4 29 "SawSums$Tokens" "many" "I") (by decide +kernel)) (fun _ h9 => h9) rfl dX4_put_8 ?_
    refine lv_aload_n hx hb dX4_put_11 rfl (lv_at hl 0 rfl) ?_
    refine va_get (D := K.1) (ci := 4) (v := .ref (K.2.2.1 9)) (C := RX4) (T := TX4) (N := 6) hx hb hts in_X4_put_X4 hown hK hP 8 rfl rfl 1 (by decide) (hts (.fieldLink RX4 15 "SawSums$Tokens" "kinds" "[I") (by decide +kernel)) (fun _ h9 => h9) rfl dX4_put_12 ?_
    refine va_alen (v := (301 : Int32)) hx hb hK hP 9 2 rfl rfl rfl dX4_put_15 ?_
    refine lv_icmp_ge (tgt := 97) hx hb dX4_put_16 (by decide) (fun c2 => ?_) (fun c2 => ?_)
    · have h := gn_t h c2
      obtain rfl := gn_some h
      exact W.vret hx hb hr (fun t ht _ => ⟨rfl, by rw [ht]; exact hP, hD, hS.F ht⟩) hS.2.2 dX4_put_97 hlk
    · have h := gn_f h c2
      refine lv_aload_n hx hb dX4_put_19 rfl (lv_at hl 0 rfl) ?_
      refine va_get (D := K.1) (ci := 4) (v := .int (cg_tmany S)) (C := RX4) (T := TX4) (N := 6) hx hb hts in_X4_put_X4 hown hK hP 8 rfl rfl 5 (by decide) (hts (.fieldLink RX4 29 "SawSums$Tokens" "many" "I") (by decide +kernel)) (fun _ h9 => h9) rfl dX4_put_20 ?_
      refine lv_aload_n hx hb dX4_put_23 rfl (lv_at hl 0 rfl) ?_
      refine va_get (D := K.1) (ci := 4) (v := .ref (K.2.2.1 10)) (C := RX4) (T := TX4) (N := 6) hx hb hts in_X4_put_X4 hown hK hP 8 rfl rfl 2 (by decide) (hts (.fieldLink RX4 19 "SawSums$Tokens" "places" "[I") (by decide +kernel)) (fun _ h9 => h9) rfl dX4_put_24 ?_
      refine va_alen (v := (301 : Int32)) hx hb hK hP 10 2 rfl rfl rfl dX4_put_27 ?_
      refine lv_icmp_ge (tgt := 97) hx hb dX4_put_28 (by decide) (fun c3 => ?_) (fun c3 => ?_)
      · have h := gn_t h c3
        obtain rfl := gn_some h
        exact W.vret hx hb hr (fun t ht _ => ⟨rfl, by rw [ht]; exact hP, hD, hS.F ht⟩) hS.2.2 dX4_put_97 hlk
      · have h := gn_f h c3
        refine lv_aload_n hx hb dX4_put_31 rfl (lv_at hl 0 rfl) ?_
        refine va_get (D := K.1) (ci := 4) (v := .int (cg_tmany S)) (C := RX4) (T := TX4) (N := 6) hx hb hts in_X4_put_X4 hown hK hP 8 rfl rfl 5 (by decide) (hts (.fieldLink RX4 29 "SawSums$Tokens" "many" "I") (by decide +kernel)) (fun _ h9 => h9) rfl dX4_put_32 ?_
        refine lv_aload_n hx hb dX4_put_35 rfl (lv_at hl 0 rfl) ?_
        refine va_get (D := K.1) (ci := 4) (v := .ref (K.2.2.1 11)) (C := RX4) (T := TX4) (N := 6) hx hb hts in_X4_put_X4 hown hK hP 8 rfl rfl 3 (by decide) (hts (.fieldLink RX4 22 "SawSums$Tokens" "numbers" "[I") (by decide +kernel)) (fun _ h9 => h9) rfl dX4_put_36 ?_
        refine va_alen (v := (301 : Int32)) hx hb hK hP 11 2 rfl rfl rfl dX4_put_39 ?_
        refine lv_icmp_ge (tgt := 97) hx hb dX4_put_40 (by decide) (fun c4 => ?_) (fun c4 => ?_)
        · have h := gn_t h c4
          obtain rfl := gn_some h
          exact W.vret hx hb hr (fun t ht _ => ⟨rfl, by rw [ht]; exact hP, hD, hS.F ht⟩) hS.2.2 dX4_put_97 hlk
        · have h := gn_f h c4
          refine lv_aload_n hx hb dX4_put_43 rfl (lv_at hl 0 rfl) ?_
          refine va_get (D := K.1) (ci := 4) (v := .ref (K.2.2.1 9)) (C := RX4) (T := TX4) (N := 6) hx hb hts in_X4_put_X4 hown hK hP 8 rfl rfl 1 (by decide) (hts (.fieldLink RX4 15 "SawSums$Tokens" "kinds" "[I") (by decide +kernel)) (fun _ h9 => h9) rfl dX4_put_44 ?_
          refine lv_aload_n hx hb dX4_put_47 rfl (lv_at hl 0 rfl) ?_
          refine va_get (D := K.1) (ci := 4) (v := .int (cg_tmany S)) (C := RX4) (T := TX4) (N := 6) hx hb hts in_X4_put_X4 hown hK hP 8 rfl rfl 5 (by decide) (hts (.fieldLink RX4 29 "SawSums$Tokens" "many" "I") (by decide +kernel)) (fun _ h9 => h9) rfl dX4_put_48 ?_
          refine lv_iload_n hx hb dX4_put_51 rfl (lv_at hl 1 rfl) ?_
          obtain ⟨n5, h⟩ := gn_yz h
          obtain ⟨S6, eS6, h⟩ := gn_nm h
          refine va_iast hx hb hK hP hD hS 9 2 rfl rfl (ib_in n5) dX4_put_52 (fun H locs hP hD hS => ?_)
          have hP : va_P K.1 vwCl (wd K S6 M o g) H := by rw [eS6]; exact hP
          have hD : va_D (inA K) (wd K S6 M o g) := by rw [eS6]; exact hD
          refine lv_aload_n hx hb dX4_put_53 rfl (lv_at hl 0 rfl) ?_
          refine va_get (D := K.1) (ci := 4) (v := .ref (K.2.2.1 10)) (C := RX4) (T := TX4) (N := 6) hx hb hts in_X4_put_X4 hown hK hP 8 rfl rfl 2 (by decide) (hts (.fieldLink RX4 19 "SawSums$Tokens" "places" "[I") (by decide +kernel)) (fun _ h9 => h9) rfl dX4_put_54 ?_
          refine lv_aload_n hx hb dX4_put_57 rfl (lv_at hl 0 rfl) ?_
          refine va_get (D := K.1) (ci := 4) (v := .int (cg_tmany S6)) (C := RX4) (T := TX4) (N := 6) hx hb hts in_X4_put_X4 hown hK hP 8 rfl rfl 5 (by decide) (hts (.fieldLink RX4 29 "SawSums$Tokens" "many" "I") (by decide +kernel)) (fun _ h9 => h9) rfl dX4_put_58 ?_
          refine lv_iload_n hx hb dX4_put_61 rfl (lv_at hl 2 rfl) ?_
          obtain ⟨n7, h⟩ := gn_yz h
          obtain ⟨S8, eS8, h⟩ := gn_nm h
          refine va_iast hx hb hK hP hD hS 10 2 rfl rfl (ib_in n7) dX4_put_62 (fun H locs hP hD hS => ?_)
          have hP : va_P K.1 vwCl (wd K S8 M o g) H := by rw [eS8]; exact hP
          have hD : va_D (inA K) (wd K S8 M o g) := by rw [eS8]; exact hD
          refine lv_aload_n hx hb dX4_put_63 rfl (lv_at hl 0 rfl) ?_
          refine va_get (D := K.1) (ci := 4) (v := .ref (K.2.2.1 11)) (C := RX4) (T := TX4) (N := 6) hx hb hts in_X4_put_X4 hown hK hP 8 rfl rfl 3 (by decide) (hts (.fieldLink RX4 22 "SawSums$Tokens" "numbers" "[I") (by decide +kernel)) (fun _ h9 => h9) rfl dX4_put_64 ?_
          refine lv_aload_n hx hb dX4_put_67 rfl (lv_at hl 0 rfl) ?_
          refine va_get (D := K.1) (ci := 4) (v := .int (cg_tmany S8)) (C := RX4) (T := TX4) (N := 6) hx hb hts in_X4_put_X4 hown hK hP 8 rfl rfl 5 (by decide) (hts (.fieldLink RX4 29 "SawSums$Tokens" "many" "I") (by decide +kernel)) (fun _ h9 => h9) rfl dX4_put_68 ?_
          refine lv_iload_n hx hb dX4_put_71 rfl (lv_at hl 1 rfl) ?_
          refine lv_bipush (v := (-2 : Int32)) hx hb dX4_put_72 (by decide) ?_
          refine lv_icmp_ne (tgt := 85) hx hb dX4_put_74 (by decide) (fun c9 => ?_) (fun c9 => ?_)
          · have h := gn_f h c9
            refine lv_iconst (v := (0 : Int32)) hx hb dX4_put_85 (by decide) ?_
            obtain ⟨n10, h⟩ := gn_yz h
            obtain ⟨S11, eS11, h⟩ := gn_nm h
            refine va_iast hx hb hK hP hD hS 11 2 rfl rfl (ib_in n10) dX4_put_86 (fun H locs hP hD hS => ?_)
            have hP : va_P K.1 vwCl (wd K S11 M o g) H := by rw [eS11]; exact hP
            have hD : va_D (inA K) (wd K S11 M o g) := by rw [eS11]; exact hD
            refine lv_aload_n hx hb dX4_put_87 rfl (lv_at hl 0 rfl) ?_
            refine lv_dup hx hb dX4_put_88 rfl ?_
            refine va_get (D := K.1) (ci := 4) (v := .int (cg_tmany S11)) (C := RX4) (T := TX4) (N := 6) hx hb hts in_X4_put_X4 hown hK hP 8 rfl rfl 5 (by decide) (hts (.fieldLink RX4 29 "SawSums$Tokens" "many" "I") (by decide +kernel)) (fun _ h9 => h9) rfl dX4_put_89 ?_
            refine lv_iconst (v := (1 : Int32)) hx hb dX4_put_92 (by decide) ?_
            refine lv_iadd hx hb dX4_put_93 ?_
            obtain ⟨v12, ev12, h⟩ := gn_nm h
            refine ln_i ev12 ?_
            obtain ⟨S13, eS13, h⟩ := gn_nm h
            refine va_put (D := K.1) (ci := 4) (v := .int v12) (ty := .int) (C := RX4) (T := TX4) (N := 6) hx hb hts in_X4_put_X4 tyX4 tyX4_ok nmX4 hown hK hP hD hS 8 rfl rfl 5 (by decide) (hts (.fieldLink RX4 29 "SawSums$Tokens" "many" "I") (by decide +kernel)) (fun _ h9 => h9) rfl (by decide +kernel) rfl rfl (Nat.le_of_ble_eq_true rfl) dX4_put_94 (fun H locs hP hD hS => ?_)
            have hP : va_P K.1 vwCl (wd K S13 M o g) H := by rw [eS13]; exact hP
            have hD : va_D (inA K) (wd K S13 M o g) := by rw [eS13]; exact hD
            obtain rfl := gn_some h
            exact W.vret hx hb hr (fun t ht _ => ⟨rfl, by rw [ht]; exact hP, hD, hS.F ht⟩) hS.2.2 dX4_put_97 hlk
          · have h := gn_t h c9
            refine lv_aload_n hx hb dX4_put_77 rfl (lv_at hl 0 rfl) ?_
            refine lv_iload_n hx hb dX4_put_78 rfl (lv_at hl 2 rfl) ?_
            obtain ⟨r14, S15, qS15, h⟩ := gn_bd2 h
            refine hc_V (rest := [.int (cg_tmany S8), .ref (K.2.2.1 11)]) ⟨hx, hb, hml, hown, hts⟩ hN hF hK hP hD hS (c_X4_readDigits l z K _ o g _ _ r14 S15 qS15) (cwV 1 hts gX4_put_X4_readDigits rfl rfl rfl (by decide +kernel) ⟨(Nat.le_of_ble_eq_true rfl), (Nat.le_of_ble_eq_true rfl)⟩) (va_recv hK hP (ci := 4) (q0 := 8) rfl rfl) rfl hl.1 rfl (Nat.le_of_ble_eq_true rfl) dX4_put_79 hcl hsl (fun H locs hP hD hS => ?_)
            have hP : va_P K.1 vwCl (wd K S15 M o g) H := hP
            have hD : va_D (inA K) (wd K S15 M o g) := hD
            refine W.eq (g2 := F0 m 82 ls [.int r14, .int (cg_tmany S8), .ref (K.2.2.1 11)]) rfl ?_
            refine lv_goto (tgt := 86) hx hb dX4_put_82 (by decide) ?_
            obtain ⟨n16, h⟩ := gn_yz h
            obtain ⟨S17, eS17, h⟩ := gn_nm h
            refine va_iast hx hb hK hP hD hS 11 2 rfl rfl (ib_in n16) dX4_put_86 (fun H locs hP hD hS => ?_)
            have hP : va_P K.1 vwCl (wd K S17 M o g) H := by rw [eS17]; exact hP
            have hD : va_D (inA K) (wd K S17 M o g) := by rw [eS17]; exact hD
            refine lv_aload_n hx hb dX4_put_87 rfl (lv_at hl 0 rfl) ?_
            refine lv_dup hx hb dX4_put_88 rfl ?_
            refine va_get (D := K.1) (ci := 4) (v := .int (cg_tmany S17)) (C := RX4) (T := TX4) (N := 6) hx hb hts in_X4_put_X4 hown hK hP 8 rfl rfl 5 (by decide) (hts (.fieldLink RX4 29 "SawSums$Tokens" "many" "I") (by decide +kernel)) (fun _ h9 => h9) rfl dX4_put_89 ?_
            refine lv_iconst (v := (1 : Int32)) hx hb dX4_put_92 (by decide) ?_
            refine lv_iadd hx hb dX4_put_93 ?_
            obtain ⟨v18, ev18, h⟩ := gn_nm h
            refine ln_i ev18 ?_
            obtain ⟨S19, eS19, h⟩ := gn_nm h
            refine va_put (D := K.1) (ci := 4) (v := .int v18) (ty := .int) (C := RX4) (T := TX4) (N := 6) hx hb hts in_X4_put_X4 tyX4 tyX4_ok nmX4 hown hK hP hD hS 8 rfl rfl 5 (by decide) (hts (.fieldLink RX4 29 "SawSums$Tokens" "many" "I") (by decide +kernel)) (fun _ h9 => h9) rfl (by decide +kernel) rfl rfl (Nat.le_of_ble_eq_true rfl) dX4_put_94 (fun H locs hP hD hS => ?_)
            have hP : va_P K.1 vwCl (wd K S19 M o g) H := by rw [eS19]; exact hP
            have hD : va_D (inA K) (wd K S19 M o g) := by rw [eS19]; exact hD
            obtain rfl := gn_some h
            exact W.vret hx hb hr (fun t ht _ => ⟨rfl, by rw [ht]; exact hP, hD, hS.F ht⟩) hS.2.2 dX4_put_97 hlk
theorem in_X4_kindAt_X4 : ∀ w ∈ wsX40, w ∈ wsX4_kindAt := fun _ h => List.mem_cons_of_mem _ (List.mem_append_right _ h)
def rm_X4_kindAt : Room := { frames := 0, cells := 0, slots := 0, locals := 0 }
section
variable {p : Program} {l : Launch} {e : Env} {s : State} {m : MethodId} {args : Array Value} {below : List Frame} {meth : Method} {c : Code} {z : Nat} {K : Ev} {M : MS} {o : Nat → Int64} {g : Gh}
end
set_option maxRecDepth 100000 in
theorem c_X4_kindAt (l : Launch) (z : Nat) (K : Ev) (M : MS) (o : Nat → Int64) (g : Gh) (a0 : Int32) (S : CS) (r : Int32) (S' : CS) (h : F_X4_kindAt z a0 S = some (r, S')) : Met l yX4_kindAt wsX4_kindAt rm_X4_kindAt (qH K [.ref (K.2.2.1 8), .int a0] S M o g) (qR K (some (.int r)) S' M o g) 0 0 (inA K) := by
  refine Met.ofW (cc := cX4_kindAt) (maxL := 2) (ret := (some .int)) (by decide) rfl ?_
  intro p e s m args below meth c s₁ B hml hv
  obtain ⟨rfl, hN, hP, hK, hD, hF⟩ := hv
  have hx := B.exec
  have hb := B.bytes
  have hr := B.returns
  have hts := atoms_spec (ws := wsX4_kindAt) B.pre
  have hown : s.vm.findClass RX4 = some m.cls := findClass_of_methodNamed B.named
  have hlk := B.notSynchronized
  have hcl : 0 ≤ (rm_X4_kindAt).cells := Nat.zero_le _
  have hsl : 0 ≤ (rm_X4_kindAt).slots := Nat.zero_le _
  have Cc : Cx p s m _ meth c cX4_kindAt 2 RX4 wsX4_kindAt (some .int) := ⟨hx, hb, hml, hown, hts, hr, hlk, hN⟩
  have hS : va_S (inA K) s.heap s.heap [] := va_S.rf
  have hl := lv_entry ([.ref (K.2.2.1 8), .int a0]) (n := 2) (Nat.le_of_ble_eq_true rfl)
  rw [lg_entry_eq]
  generalize (lg_sl ([.ref (K.2.2.1 8), .int a0]) ++ List.replicate (2 - (lg_sl ([.ref (K.2.2.1 8), .int a0])).length) Slot.unset).toArray = ls at hl ⊢
  have hl : lv_has ls 2 [(0, .ref (K.2.2.1 8)), (1, .int a0)] := hl
  rw [F_X4_kindAt] at h
  refine lv_iload_n hx hb dX4_kindAt_0 rfl (lv_at hl 1 rfl) ?_
  refine lv_if_lt (tgt := 30) hx hb dX4_kindAt_1 (by decide) (fun c1 => ?_) (fun c1 => ?_)
  · have h := gn_t h c1
    refine lv_iconst (v := (-1 : Int32)) hx hb dX4_kindAt_30 (by decide) ?_
    obtain ⟨rfl, rfl⟩ := Prod.mk.inj (gn_some h)
    exact W.iret hx hb hr (fun t ht _ => ⟨rfl, by rw [ht]; exact hP, hD, hS.F ht⟩) hS.2.2 dX4_kindAt_31 hlk
  · have h := gn_f h c1
    refine lv_iload_n hx hb dX4_kindAt_4 rfl (lv_at hl 1 rfl) ?_
    refine lv_aload_n hx hb dX4_kindAt_5 rfl (lv_at hl 0 rfl) ?_
    refine va_get (D := K.1) (ci := 4) (v := .int (cg_tmany S)) (C := RX4) (T := TX4) (N := 6) hx hb hts in_X4_kindAt_X4 hown hK hP 8 rfl rfl 5 (by decide) (hts (.fieldLink RX4 29 "SawSums$Tokens" "many" "I") (by decide +kernel)) (fun _ h9 => h9) rfl dX4_kindAt_6 ?_
    refine lv_icmp_ge (tgt := 30) hx hb dX4_kindAt_9 (by decide) (fun c2 => ?_) (fun c2 => ?_)
    · have h := gn_t h c2
      refine lv_iconst (v := (-1 : Int32)) hx hb dX4_kindAt_30 (by decide) ?_
      obtain ⟨rfl, rfl⟩ := Prod.mk.inj (gn_some h)
      exact W.iret hx hb hr (fun t ht _ => ⟨rfl, by rw [ht]; exact hP, hD, hS.F ht⟩) hS.2.2 dX4_kindAt_31 hlk
    · have h := gn_f h c2
      refine lv_iload_n hx hb dX4_kindAt_12 rfl (lv_at hl 1 rfl) ?_
      refine lv_aload_n hx hb dX4_kindAt_13 rfl (lv_at hl 0 rfl) ?_
      refine va_get (D := K.1) (ci := 4) (v := .ref (K.2.2.1 9)) (C := RX4) (T := TX4) (N := 6) hx hb hts in_X4_kindAt_X4 hown hK hP 8 rfl rfl 1 (by decide) (hts (.fieldLink RX4 15 "SawSums$Tokens" "kinds" "[I") (by decide +kernel)) (fun _ h9 => h9) rfl dX4_kindAt_14 ?_
      refine va_alen (v := (301 : Int32)) hx hb hK hP 9 2 rfl rfl rfl dX4_kindAt_17 ?_
      refine lv_icmp_ge (tgt := 30) hx hb dX4_kindAt_18 (by decide) (fun c3 => ?_) (fun c3 => ?_)
      · have h := gn_t h c3
        refine lv_iconst (v := (-1 : Int32)) hx hb dX4_kindAt_30 (by decide) ?_
        obtain ⟨rfl, rfl⟩ := Prod.mk.inj (gn_some h)
        exact W.iret hx hb hr (fun t ht _ => ⟨rfl, by rw [ht]; exact hP, hD, hS.F ht⟩) hS.2.2 dX4_kindAt_31 hlk
      · have h := gn_f h c3
        refine lv_aload_n hx hb dX4_kindAt_21 rfl (lv_at hl 0 rfl) ?_
        refine va_get (D := K.1) (ci := 4) (v := .ref (K.2.2.1 9)) (C := RX4) (T := TX4) (N := 6) hx hb hts in_X4_kindAt_X4 hown hK hP 8 rfl rfl 1 (by decide) (hts (.fieldLink RX4 15 "SawSums$Tokens" "kinds" "[I") (by decide +kernel)) (fun _ h9 => h9) rfl dX4_kindAt_22 ?_
        refine lv_iload_n hx hb dX4_kindAt_25 rfl (lv_at hl 1 rfl) ?_
        obtain ⟨n4, h⟩ := gn_yz h
        refine va_iald hx hb hK hP 9 2 rfl rfl (ib_in n4) dX4_kindAt_26 ?_
        refine lv_goto (tgt := 31) hx hb dX4_kindAt_27 (by decide) ?_
        obtain ⟨rfl, rfl⟩ := Prod.mk.inj (gn_some h)
        exact W.iret hx hb hr (fun t ht _ => ⟨rfl, by rw [ht]; exact hP, hD, hS.F ht⟩) hS.2.2 dX4_kindAt_31 hlk
theorem in_X4_placeAt_X4 : ∀ w ∈ wsX40, w ∈ wsX4_placeAt := fun _ h => List.mem_cons_of_mem _ (List.mem_append_right _ h)
def rm_X4_placeAt : Room := { frames := 0, cells := 0, slots := 0, locals := 0 }
section
variable {p : Program} {l : Launch} {e : Env} {s : State} {m : MethodId} {args : Array Value} {below : List Frame} {meth : Method} {c : Code} {z : Nat} {K : Ev} {M : MS} {o : Nat → Int64} {g : Gh}
end
set_option maxRecDepth 100000 in
theorem c_X4_placeAt (l : Launch) (z : Nat) (K : Ev) (M : MS) (o : Nat → Int64) (g : Gh) (a0 : Int32) (S : CS) (r : Int32) (S' : CS) (h : F_X4_placeAt z a0 S = some (r, S')) : Met l yX4_placeAt wsX4_placeAt rm_X4_placeAt (qH K [.ref (K.2.2.1 8), .int a0] S M o g) (qR K (some (.int r)) S' M o g) 0 0 (inA K) := by
  refine Met.ofW (cc := cX4_placeAt) (maxL := 2) (ret := (some .int)) (by decide) rfl ?_
  intro p e s m args below meth c s₁ B hml hv
  obtain ⟨rfl, hN, hP, hK, hD, hF⟩ := hv
  have hx := B.exec
  have hb := B.bytes
  have hr := B.returns
  have hts := atoms_spec (ws := wsX4_placeAt) B.pre
  have hown : s.vm.findClass RX4 = some m.cls := findClass_of_methodNamed B.named
  have hlk := B.notSynchronized
  have hcl : 0 ≤ (rm_X4_placeAt).cells := Nat.zero_le _
  have hsl : 0 ≤ (rm_X4_placeAt).slots := Nat.zero_le _
  have Cc : Cx p s m _ meth c cX4_placeAt 2 RX4 wsX4_placeAt (some .int) := ⟨hx, hb, hml, hown, hts, hr, hlk, hN⟩
  have hS : va_S (inA K) s.heap s.heap [] := va_S.rf
  have hl := lv_entry ([.ref (K.2.2.1 8), .int a0]) (n := 2) (Nat.le_of_ble_eq_true rfl)
  rw [lg_entry_eq]
  generalize (lg_sl ([.ref (K.2.2.1 8), .int a0]) ++ List.replicate (2 - (lg_sl ([.ref (K.2.2.1 8), .int a0])).length) Slot.unset).toArray = ls at hl ⊢
  have hl : lv_has ls 2 [(0, .ref (K.2.2.1 8)), (1, .int a0)] := hl
  rw [F_X4_placeAt] at h
  refine lv_iload_n hx hb dX4_placeAt_0 rfl (lv_at hl 1 rfl) ?_
  refine lv_if_lt (tgt := 30) hx hb dX4_placeAt_1 (by decide) (fun c1 => ?_) (fun c1 => ?_)
  · have h := gn_t h c1
    refine lv_aload_n hx hb dX4_placeAt_30 rfl (lv_at hl 0 rfl) ?_
    refine va_get (D := K.1) (ci := 4) (v := .int (cg_tlength S)) (C := RX4) (T := TX4) (N := 6) hx hb hts in_X4_placeAt_X4 hown hK hP 8 rfl rfl 4 (by decide) (hts (.fieldLink RX4 25 "SawSums$Tokens" "length" "I") (by decide +kernel)) (fun _ h9 => h9) rfl dX4_placeAt_31 ?_
    obtain ⟨rfl, rfl⟩ := Prod.mk.inj (gn_some h)
    exact W.iret hx hb hr (fun t ht _ => ⟨rfl, by rw [ht]; exact hP, hD, hS.F ht⟩) hS.2.2 dX4_placeAt_34 hlk
  · have h := gn_f h c1
    refine lv_iload_n hx hb dX4_placeAt_4 rfl (lv_at hl 1 rfl) ?_
    refine lv_aload_n hx hb dX4_placeAt_5 rfl (lv_at hl 0 rfl) ?_
    refine va_get (D := K.1) (ci := 4) (v := .int (cg_tmany S)) (C := RX4) (T := TX4) (N := 6) hx hb hts in_X4_placeAt_X4 hown hK hP 8 rfl rfl 5 (by decide) (hts (.fieldLink RX4 29 "SawSums$Tokens" "many" "I") (by decide +kernel)) (fun _ h9 => h9) rfl dX4_placeAt_6 ?_
    refine lv_icmp_ge (tgt := 30) hx hb dX4_placeAt_9 (by decide) (fun c2 => ?_) (fun c2 => ?_)
    · have h := gn_t h c2
      refine lv_aload_n hx hb dX4_placeAt_30 rfl (lv_at hl 0 rfl) ?_
      refine va_get (D := K.1) (ci := 4) (v := .int (cg_tlength S)) (C := RX4) (T := TX4) (N := 6) hx hb hts in_X4_placeAt_X4 hown hK hP 8 rfl rfl 4 (by decide) (hts (.fieldLink RX4 25 "SawSums$Tokens" "length" "I") (by decide +kernel)) (fun _ h9 => h9) rfl dX4_placeAt_31 ?_
      obtain ⟨rfl, rfl⟩ := Prod.mk.inj (gn_some h)
      exact W.iret hx hb hr (fun t ht _ => ⟨rfl, by rw [ht]; exact hP, hD, hS.F ht⟩) hS.2.2 dX4_placeAt_34 hlk
    · have h := gn_f h c2
      refine lv_iload_n hx hb dX4_placeAt_12 rfl (lv_at hl 1 rfl) ?_
      refine lv_aload_n hx hb dX4_placeAt_13 rfl (lv_at hl 0 rfl) ?_
      refine va_get (D := K.1) (ci := 4) (v := .ref (K.2.2.1 10)) (C := RX4) (T := TX4) (N := 6) hx hb hts in_X4_placeAt_X4 hown hK hP 8 rfl rfl 2 (by decide) (hts (.fieldLink RX4 19 "SawSums$Tokens" "places" "[I") (by decide +kernel)) (fun _ h9 => h9) rfl dX4_placeAt_14 ?_
      refine va_alen (v := (301 : Int32)) hx hb hK hP 10 2 rfl rfl rfl dX4_placeAt_17 ?_
      refine lv_icmp_ge (tgt := 30) hx hb dX4_placeAt_18 (by decide) (fun c3 => ?_) (fun c3 => ?_)
      · have h := gn_t h c3
        refine lv_aload_n hx hb dX4_placeAt_30 rfl (lv_at hl 0 rfl) ?_
        refine va_get (D := K.1) (ci := 4) (v := .int (cg_tlength S)) (C := RX4) (T := TX4) (N := 6) hx hb hts in_X4_placeAt_X4 hown hK hP 8 rfl rfl 4 (by decide) (hts (.fieldLink RX4 25 "SawSums$Tokens" "length" "I") (by decide +kernel)) (fun _ h9 => h9) rfl dX4_placeAt_31 ?_
        obtain ⟨rfl, rfl⟩ := Prod.mk.inj (gn_some h)
        exact W.iret hx hb hr (fun t ht _ => ⟨rfl, by rw [ht]; exact hP, hD, hS.F ht⟩) hS.2.2 dX4_placeAt_34 hlk
      · have h := gn_f h c3
        refine lv_aload_n hx hb dX4_placeAt_21 rfl (lv_at hl 0 rfl) ?_
        refine va_get (D := K.1) (ci := 4) (v := .ref (K.2.2.1 10)) (C := RX4) (T := TX4) (N := 6) hx hb hts in_X4_placeAt_X4 hown hK hP 8 rfl rfl 2 (by decide) (hts (.fieldLink RX4 19 "SawSums$Tokens" "places" "[I") (by decide +kernel)) (fun _ h9 => h9) rfl dX4_placeAt_22 ?_
        refine lv_iload_n hx hb dX4_placeAt_25 rfl (lv_at hl 1 rfl) ?_
        obtain ⟨n4, h⟩ := gn_yz h
        refine va_iald hx hb hK hP 10 2 rfl rfl (ib_in n4) dX4_placeAt_26 ?_
        refine lv_goto (tgt := 34) hx hb dX4_placeAt_27 (by decide) ?_
        obtain ⟨rfl, rfl⟩ := Prod.mk.inj (gn_some h)
        exact W.iret hx hb hr (fun t ht _ => ⟨rfl, by rw [ht]; exact hP, hD, hS.F ht⟩) hS.2.2 dX4_placeAt_34 hlk
theorem in_X4_numberAt_X4 : ∀ w ∈ wsX40, w ∈ wsX4_numberAt := fun _ h => List.mem_cons_of_mem _ (List.mem_append_right _ h)
def rm_X4_numberAt : Room := { frames := 0, cells := 0, slots := 0, locals := 0 }
section
variable {p : Program} {l : Launch} {e : Env} {s : State} {m : MethodId} {args : Array Value} {below : List Frame} {meth : Method} {c : Code} {z : Nat} {K : Ev} {M : MS} {o : Nat → Int64} {g : Gh}
end
set_option maxRecDepth 100000 in
theorem c_X4_numberAt (l : Launch) (z : Nat) (K : Ev) (M : MS) (o : Nat → Int64) (g : Gh) (a0 : Int32) (S : CS) (r : Int32) (S' : CS) (h : F_X4_numberAt z a0 S = some (r, S')) : Met l yX4_numberAt wsX4_numberAt rm_X4_numberAt (qH K [.ref (K.2.2.1 8), .int a0] S M o g) (qR K (some (.int r)) S' M o g) 0 0 (inA K) := by
  refine Met.ofW (cc := cX4_numberAt) (maxL := 2) (ret := (some .int)) (by decide) rfl ?_
  intro p e s m args below meth c s₁ B hml hv
  obtain ⟨rfl, hN, hP, hK, hD, hF⟩ := hv
  have hx := B.exec
  have hb := B.bytes
  have hr := B.returns
  have hts := atoms_spec (ws := wsX4_numberAt) B.pre
  have hown : s.vm.findClass RX4 = some m.cls := findClass_of_methodNamed B.named
  have hlk := B.notSynchronized
  have hcl : 0 ≤ (rm_X4_numberAt).cells := Nat.zero_le _
  have hsl : 0 ≤ (rm_X4_numberAt).slots := Nat.zero_le _
  have Cc : Cx p s m _ meth c cX4_numberAt 2 RX4 wsX4_numberAt (some .int) := ⟨hx, hb, hml, hown, hts, hr, hlk, hN⟩
  have hS : va_S (inA K) s.heap s.heap [] := va_S.rf
  have hl := lv_entry ([.ref (K.2.2.1 8), .int a0]) (n := 2) (Nat.le_of_ble_eq_true rfl)
  rw [lg_entry_eq]
  generalize (lg_sl ([.ref (K.2.2.1 8), .int a0]) ++ List.replicate (2 - (lg_sl ([.ref (K.2.2.1 8), .int a0])).length) Slot.unset).toArray = ls at hl ⊢
  have hl : lv_has ls 2 [(0, .ref (K.2.2.1 8)), (1, .int a0)] := hl
  rw [F_X4_numberAt] at h
  refine lv_iload_n hx hb dX4_numberAt_0 rfl (lv_at hl 1 rfl) ?_
  refine lv_if_lt (tgt := 30) hx hb dX4_numberAt_1 (by decide) (fun c1 => ?_) (fun c1 => ?_)
  · have h := gn_t h c1
    refine lv_iconst (v := (0 : Int32)) hx hb dX4_numberAt_30 (by decide) ?_
    obtain ⟨rfl, rfl⟩ := Prod.mk.inj (gn_some h)
    exact W.iret hx hb hr (fun t ht _ => ⟨rfl, by rw [ht]; exact hP, hD, hS.F ht⟩) hS.2.2 dX4_numberAt_31 hlk
  · have h := gn_f h c1
    refine lv_iload_n hx hb dX4_numberAt_4 rfl (lv_at hl 1 rfl) ?_
    refine lv_aload_n hx hb dX4_numberAt_5 rfl (lv_at hl 0 rfl) ?_
    refine va_get (D := K.1) (ci := 4) (v := .int (cg_tmany S)) (C := RX4) (T := TX4) (N := 6) hx hb hts in_X4_numberAt_X4 hown hK hP 8 rfl rfl 5 (by decide) (hts (.fieldLink RX4 29 "SawSums$Tokens" "many" "I") (by decide +kernel)) (fun _ h9 => h9) rfl dX4_numberAt_6 ?_
    refine lv_icmp_ge (tgt := 30) hx hb dX4_numberAt_9 (by decide) (fun c2 => ?_) (fun c2 => ?_)
    · have h := gn_t h c2
      refine lv_iconst (v := (0 : Int32)) hx hb dX4_numberAt_30 (by decide) ?_
      obtain ⟨rfl, rfl⟩ := Prod.mk.inj (gn_some h)
      exact W.iret hx hb hr (fun t ht _ => ⟨rfl, by rw [ht]; exact hP, hD, hS.F ht⟩) hS.2.2 dX4_numberAt_31 hlk
    · have h := gn_f h c2
      refine lv_iload_n hx hb dX4_numberAt_12 rfl (lv_at hl 1 rfl) ?_
      refine lv_aload_n hx hb dX4_numberAt_13 rfl (lv_at hl 0 rfl) ?_
      refine va_get (D := K.1) (ci := 4) (v := .ref (K.2.2.1 11)) (C := RX4) (T := TX4) (N := 6) hx hb hts in_X4_numberAt_X4 hown hK hP 8 rfl rfl 3 (by decide) (hts (.fieldLink RX4 22 "SawSums$Tokens" "numbers" "[I") (by decide +kernel)) (fun _ h9 => h9) rfl dX4_numberAt_14 ?_
      refine va_alen (v := (301 : Int32)) hx hb hK hP 11 2 rfl rfl rfl dX4_numberAt_17 ?_
      refine lv_icmp_ge (tgt := 30) hx hb dX4_numberAt_18 (by decide) (fun c3 => ?_) (fun c3 => ?_)
      · have h := gn_t h c3
        refine lv_iconst (v := (0 : Int32)) hx hb dX4_numberAt_30 (by decide) ?_
        obtain ⟨rfl, rfl⟩ := Prod.mk.inj (gn_some h)
        exact W.iret hx hb hr (fun t ht _ => ⟨rfl, by rw [ht]; exact hP, hD, hS.F ht⟩) hS.2.2 dX4_numberAt_31 hlk
      · have h := gn_f h c3
        refine lv_aload_n hx hb dX4_numberAt_21 rfl (lv_at hl 0 rfl) ?_
        refine va_get (D := K.1) (ci := 4) (v := .ref (K.2.2.1 11)) (C := RX4) (T := TX4) (N := 6) hx hb hts in_X4_numberAt_X4 hown hK hP 8 rfl rfl 3 (by decide) (hts (.fieldLink RX4 22 "SawSums$Tokens" "numbers" "[I") (by decide +kernel)) (fun _ h9 => h9) rfl dX4_numberAt_22 ?_
        refine lv_iload_n hx hb dX4_numberAt_25 rfl (lv_at hl 1 rfl) ?_
        obtain ⟨n4, h⟩ := gn_yz h
        refine va_iald hx hb hK hP 11 2 rfl rfl (ib_in n4) dX4_numberAt_26 ?_
        refine lv_goto (tgt := 31) hx hb dX4_numberAt_27 (by decide) ?_
        obtain ⟨rfl, rfl⟩ := Prod.mk.inj (gn_some h)
        exact W.iret hx hb hr (fun t ht _ => ⟨rfl, by rw [ht]; exact hP, hD, hS.F ht⟩) hS.2.2 dX4_numberAt_31 hlk
theorem in_X3_fault_X3 : ∀ w ∈ wsX30, w ∈ wsX3_fault := fun _ h => List.mem_cons_of_mem _ (List.mem_append_right _ h)
def rm_X3_fault : Room := { frames := 0, cells := 0, slots := 0, locals := 0 }
section
variable {p : Program} {l : Launch} {e : Env} {s : State} {m : MethodId} {args : Array Value} {below : List Frame} {meth : Method} {c : Code} {z : Nat} {K : Ev} {M : MS} {o : Nat → Int64} {g : Gh}
end
set_option maxRecDepth 100000 in
theorem c_X3_fault (l : Launch) (z : Nat) (K : Ev) (M : MS) (o : Nat → Int64) (g : Gh)  (S : CS) (r : Int32) (S' : CS) (h : F_X3_fault z S = some (r, S')) : Met l yX3_fault wsX3_fault rm_X3_fault (qH K [.ref (K.2.2.1 7)] S M o g) (qR K (some (.int r)) S' M o g) 0 0 (inA K) := by
  refine Met.ofW (cc := cX3_fault) (maxL := 1) (ret := (some .int)) (by decide) rfl ?_
  intro p e s m args below meth c s₁ B hml hv
  obtain ⟨rfl, hN, hP, hK, hD, hF⟩ := hv
  have hx := B.exec
  have hb := B.bytes
  have hr := B.returns
  have hts := atoms_spec (ws := wsX3_fault) B.pre
  have hown : s.vm.findClass RX3 = some m.cls := findClass_of_methodNamed B.named
  have hlk := B.notSynchronized
  have hcl : 0 ≤ (rm_X3_fault).cells := Nat.zero_le _
  have hsl : 0 ≤ (rm_X3_fault).slots := Nat.zero_le _
  have Cc : Cx p s m _ meth c cX3_fault 1 RX3 wsX3_fault (some .int) := ⟨hx, hb, hml, hown, hts, hr, hlk, hN⟩
  have hS : va_S (inA K) s.heap s.heap [] := va_S.rf
  have hl := lv_entry ([.ref (K.2.2.1 7)]) (n := 1) (Nat.le_of_ble_eq_true rfl)
  rw [lg_entry_eq]
  generalize (lg_sl ([.ref (K.2.2.1 7)]) ++ List.replicate (1 - (lg_sl ([.ref (K.2.2.1 7)])).length) Slot.unset).toArray = ls at hl ⊢
  have hl : lv_has ls 1 [(0, .ref (K.2.2.1 7))] := hl
  rw [F_X3_fault] at h
  refine lv_aload_n hx hb dX3_fault_0 rfl (lv_at hl 0 rfl) ?_
  refine va_get (D := K.1) (ci := 3) (v := .int (cg_refused S)) (C := RX3) (T := TX3) (N := 8) hx hb hts in_X3_fault_X3 hown hK hP 7 rfl rfl 5 (by decide) (hts (.fieldLink RX3 40 "SawSums$Reader" "refused" "I") (by decide +kernel)) (fun _ h9 => h9) rfl dX3_fault_1 ?_
  refine lv_if_eq (tgt := 14) hx hb dX3_fault_4 (by decide) (fun c1 => ?_) (fun c1 => ?_)
  · have h := gn_t h c1
    refine lv_aload_n hx hb dX3_fault_14 rfl (lv_at hl 0 rfl) ?_
    refine va_get (D := K.1) (ci := 3) (v := .int (cg_exceeded S)) (C := RX3) (T := TX3) (N := 8) hx hb hts in_X3_fault_X3 hown hK hP 7 rfl rfl 6 (by decide) (hts (.fieldLink RX3 43 "SawSums$Reader" "exceeded" "I") (by decide +kernel)) (fun _ h9 => h9) rfl dX3_fault_15 ?_
    obtain ⟨rfl, rfl⟩ := Prod.mk.inj (gn_some h)
    exact W.iret hx hb hr (fun t ht _ => ⟨rfl, by rw [ht]; exact hP, hD, hS.F ht⟩) hS.2.2 dX3_fault_18 hlk
  · have h := gn_f h c1
    refine lv_aload_n hx hb dX3_fault_7 rfl (lv_at hl 0 rfl) ?_
    refine va_get (D := K.1) (ci := 3) (v := .int (cg_refused S)) (C := RX3) (T := TX3) (N := 8) hx hb hts in_X3_fault_X3 hown hK hP 7 rfl rfl 5 (by decide) (hts (.fieldLink RX3 40 "SawSums$Reader" "refused" "I") (by decide +kernel)) (fun _ h9 => h9) rfl dX3_fault_8 ?_
    refine lv_goto (tgt := 18) hx hb dX3_fault_11 (by decide) ?_
    obtain ⟨rfl, rfl⟩ := Prod.mk.inj (gn_some h)
    exact W.iret hx hb hr (fun t ht _ => ⟨rfl, by rw [ht]; exact hP, hD, hS.F ht⟩) hS.2.2 dX3_fault_18 hlk
theorem in_X3_refuse_X3 : ∀ w ∈ wsX30, w ∈ wsX3_refuse := fun _ h => List.mem_cons_of_mem _ (List.mem_append_left _ (List.mem_append_right _ h))
def rm_X3_refuse : Room := { frames := 1, cells := 0, slots := 0, locals := 21 }
section
variable {p : Program} {l : Launch} {e : Env} {s : State} {m : MethodId} {args : Array Value} {below : List Frame} {meth : Method} {c : Code} {z : Nat} {K : Ev} {M : MS} {o : Nat → Int64} {g : Gh}
end
set_option maxRecDepth 100000 in
theorem c_X3_refuse (l : Launch) (z : Nat) (K : Ev) (M : MS) (o : Nat → Int64) (g : Gh) (a0 : Int32) (S : CS)  (S' : CS) (h : F_X3_refuse z a0 S = some S') : Met l yX3_refuse wsX3_refuse rm_X3_refuse (qH K [.ref (K.2.2.1 7), .int a0] S M o g) (qR K none S' M o g) 0 0 (inA K) := by
  refine Met.ofW (cc := cX3_refuse) (maxL := 2) (ret := none) (by decide) rfl ?_
  intro p e s m args below meth c s₁ B hml hv
  obtain ⟨rfl, hN, hP, hK, hD, hF⟩ := hv
  have hx := B.exec
  have hb := B.bytes
  have hr := B.returns
  have hts := atoms_spec (ws := wsX3_refuse) B.pre
  have hown : s.vm.findClass RX3 = some m.cls := findClass_of_methodNamed B.named
  have hlk := B.notSynchronized
  have hcl : 0 ≤ (rm_X3_refuse).cells := Nat.zero_le _
  have hsl : 0 ≤ (rm_X3_refuse).slots := Nat.zero_le _
  have Cc : Cx p s m _ meth c cX3_refuse 2 RX3 wsX3_refuse none := ⟨hx, hb, hml, hown, hts, hr, hlk, hN⟩
  have hS : va_S (inA K) s.heap s.heap [] := va_S.rf
  have hl := lv_entry ([.ref (K.2.2.1 7), .int a0]) (n := 2) (Nat.le_of_ble_eq_true rfl)
  rw [lg_entry_eq]
  generalize (lg_sl ([.ref (K.2.2.1 7), .int a0]) ++ List.replicate (2 - (lg_sl ([.ref (K.2.2.1 7), .int a0])).length) Slot.unset).toArray = ls at hl ⊢
  have hl : lv_has ls 2 [(0, .ref (K.2.2.1 7)), (1, .int a0)] := hl
  rw [F_X3_refuse] at h
  refine lv_aload_n hx hb dX3_refuse_0 rfl (lv_at hl 0 rfl) ?_
  refine va_get (D := K.1) (ci := 3) (v := .int (cg_refused S)) (C := RX3) (T := TX3) (N := 8) hx hb hts in_X3_refuse_X3 hown hK hP 7 rfl rfl 5 (by decide) (hts (.fieldLink RX3 40 "SawSums$Reader" "refused" "I") (by decide +kernel)) (fun _ h9 => h9) rfl dX3_refuse_1 ?_
  refine lv_if_ne (tgt := 33) hx hb dX3_refuse_4 (by decide) (fun c1 => ?_) (fun c1 => ?_)
  · have h := gn_f h c1
    obtain rfl := gn_some h
    exact W.vret hx hb hr (fun t ht _ => ⟨rfl, by rw [ht]; exact hP, hD, hS.F ht⟩) hS.2.2 dX3_refuse_33 hlk
  · have h := gn_t h c1
    refine lv_aload_n hx hb dX3_refuse_7 rfl (lv_at hl 0 rfl) ?_
    refine lv_iload_n hx hb dX3_refuse_8 rfl (lv_at hl 1 rfl) ?_
    refine lv_bipush (v := (8 : Int32)) hx hb dX3_refuse_9 (by decide) ?_
    refine lv_aload_n hx hb dX3_refuse_11 rfl (lv_at hl 0 rfl) ?_
    refine va_get (D := K.1) (ci := 3) (v := .ref (K.2.2.1 8)) (C := RX3) (T := TX3) (N := 8) hx hb hts in_X3_refuse_X3 hown hK hP 7 rfl rfl 0 (by decide) (hts (.fieldLink RX3 14 "SawSums$Reader" "tokens" "LSawSums$Tokens;") (by decide +kernel)) (fun _ h9 => h9) rfl dX3_refuse_12 ?_
    refine lv_aload_n hx hb dX3_refuse_15 rfl (lv_at hl 0 rfl) ?_
    refine va_get (D := K.1) (ci := 3) (v := .int (cg_at S)) (C := RX3) (T := TX3) (N := 8) hx hb hts in_X3_refuse_X3 hown hK hP 7 rfl rfl 3 (by decide) (hts (.fieldLink RX3 33 "SawSums$Reader" "at" "I") (by decide +kernel)) (fun _ h9 => h9) rfl dX3_refuse_16 ?_
    obtain ⟨r2, S3, qS3, h⟩ := gn_bd2 h
    refine hc_V (rest := [.int (8 : Int32), .int a0, .ref (K.2.2.1 7)]) ⟨hx, hb, hml, hown, hts⟩ hN hF hK hP hD hS (c_X4_placeAt l z K _ o g _ _ r2 S3 qS3) (cwV 1 hts gX3_refuse_X4_placeAt rfl rfl rfl (by decide +kernel) ⟨(Nat.le_of_ble_eq_true rfl), (Nat.le_of_ble_eq_true rfl)⟩) (va_recv hK hP (ci := 4) (q0 := 8) rfl rfl) rfl hl.1 rfl (Nat.le_of_ble_eq_true rfl) dX3_refuse_19 hcl hsl (fun H locs hP hD hS => ?_)
    have hP : va_P K.1 vwCl (wd K S3 M o g) H := hP
    have hD : va_D (inA K) (wd K S3 M o g) := hD
    refine W.eq (g2 := F0 m 22 ls [.int r2, .int (8 : Int32), .int a0, .ref (K.2.2.1 7)]) rfl ?_
    refine lv_imul hx hb dX3_refuse_22 ?_
    refine lv_iadd hx hb dX3_refuse_23 ?_
    obtain ⟨v4, ev4, h⟩ := gn_nm h
    refine ln_i ev4 ?_
    obtain ⟨S5, eS5, h⟩ := gn_nm h
    refine va_put (D := K.1) (ci := 3) (v := .int v4) (ty := .int) (C := RX3) (T := TX3) (N := 8) hx hb hts in_X3_refuse_X3 tyX3 tyX3_ok nmX3 hown hK hP hD hS 7 rfl rfl 5 (by decide) (hts (.fieldLink RX3 40 "SawSums$Reader" "refused" "I") (by decide +kernel)) (fun _ h9 => h9) rfl (by decide +kernel) rfl rfl (Nat.le_of_ble_eq_true rfl) dX3_refuse_24 (fun H locs hP hD hS => ?_)
    have hP : va_P K.1 vwCl (wd K S5 M o g) H := by rw [eS5]; exact hP
    have hD : va_D (inA K) (wd K S5 M o g) := by rw [eS5]; exact hD
    refine lv_aload_n hx hb dX3_refuse_27 rfl (lv_at hl 0 rfl) ?_
    refine lv_bipush (v := (-6 : Int32)) hx hb dX3_refuse_28 (by decide) ?_
    obtain ⟨S6, eS6, h⟩ := gn_nm h
    refine va_put (D := K.1) (ci := 3) (v := .int (-6 : Int32)) (ty := .int) (C := RX3) (T := TX3) (N := 8) hx hb hts in_X3_refuse_X3 tyX3 tyX3_ok nmX3 hown hK hP hD hS 7 rfl rfl 4 (by decide) (hts (.fieldLink RX3 37 "SawSums$Reader" "token" "I") (by decide +kernel)) (fun _ h9 => h9) rfl (by decide +kernel) rfl rfl (Nat.le_of_ble_eq_true rfl) dX3_refuse_30 (fun H locs hP hD hS => ?_)
    have hP : va_P K.1 vwCl (wd K S6 M o g) H := by rw [eS6]; exact hP
    have hD : va_D (inA K) (wd K S6 M o g) := by rw [eS6]; exact hD
    obtain rfl := gn_some h
    exact W.vret hx hb hr (fun t ht _ => ⟨rfl, by rw [ht]; exact hP, hD, hS.F ht⟩) hS.2.2 dX3_refuse_33 hlk
theorem in_X3_advance_X3 : ∀ w ∈ wsX30, w ∈ wsX3_advance := fun _ h => List.mem_cons_of_mem _ (List.mem_append_left _ (List.mem_append_right _ h))
def rm_X3_advance : Room := { frames := 1, cells := 0, slots := 0, locals := 21 }
section
variable {p : Program} {l : Launch} {e : Env} {s : State} {m : MethodId} {args : Array Value} {below : List Frame} {meth : Method} {c : Code} {z : Nat} {K : Ev} {M : MS} {o : Nat → Int64} {g : Gh}
end
set_option maxRecDepth 100000 in
theorem c_X3_advance (l : Launch) (z : Nat) (K : Ev) (M : MS) (o : Nat → Int64) (g : Gh)  (S : CS)  (S' : CS) (h : F_X3_advance z S = some S') : Met l yX3_advance wsX3_advance rm_X3_advance (qH K [.ref (K.2.2.1 7)] S M o g) (qR K none S' M o g) 0 0 (inA K) := by
  refine Met.ofW (cc := cX3_advance) (maxL := 1) (ret := none) (by decide) rfl ?_
  intro p e s m args below meth c s₁ B hml hv
  obtain ⟨rfl, hN, hP, hK, hD, hF⟩ := hv
  have hx := B.exec
  have hb := B.bytes
  have hr := B.returns
  have hts := atoms_spec (ws := wsX3_advance) B.pre
  have hown : s.vm.findClass RX3 = some m.cls := findClass_of_methodNamed B.named
  have hlk := B.notSynchronized
  have hcl : 0 ≤ (rm_X3_advance).cells := Nat.zero_le _
  have hsl : 0 ≤ (rm_X3_advance).slots := Nat.zero_le _
  have Cc : Cx p s m _ meth c cX3_advance 1 RX3 wsX3_advance none := ⟨hx, hb, hml, hown, hts, hr, hlk, hN⟩
  have hS : va_S (inA K) s.heap s.heap [] := va_S.rf
  have hl := lv_entry ([.ref (K.2.2.1 7)]) (n := 1) (Nat.le_of_ble_eq_true rfl)
  rw [lg_entry_eq]
  generalize (lg_sl ([.ref (K.2.2.1 7)]) ++ List.replicate (1 - (lg_sl ([.ref (K.2.2.1 7)])).length) Slot.unset).toArray = ls at hl ⊢
  have hl : lv_has ls 1 [(0, .ref (K.2.2.1 7))] := hl
  rw [F_X3_advance] at h
  refine lv_aload_n hx hb dX3_advance_0 rfl (lv_at hl 0 rfl) ?_
  refine va_get (D := K.1) (ci := 3) (v := .int (cg_refused S)) (C := RX3) (T := TX3) (N := 8) hx hb hts in_X3_advance_X3 hown hK hP 7 rfl rfl 5 (by decide) (hts (.fieldLink RX3 40 "SawSums$Reader" "refused" "I") (by decide +kernel)) (fun _ h9 => h9) rfl dX3_advance_1 ?_
  refine lv_if_ne (tgt := 32) hx hb dX3_advance_4 (by decide) (fun c1 => ?_) (fun c1 => ?_)
  · have h := gn_f h c1
    obtain rfl := gn_some h
    exact W.vret hx hb hr (fun t ht _ => ⟨rfl, by rw [ht]; exact hP, hD, hS.F ht⟩) hS.2.2 dX3_advance_32 hlk
  · have h := gn_t h c1
    refine lv_aload_n hx hb dX3_advance_7 rfl (lv_at hl 0 rfl) ?_
    refine lv_dup hx hb dX3_advance_8 rfl ?_
    refine va_get (D := K.1) (ci := 3) (v := .int (cg_at S)) (C := RX3) (T := TX3) (N := 8) hx hb hts in_X3_advance_X3 hown hK hP 7 rfl rfl 3 (by decide) (hts (.fieldLink RX3 33 "SawSums$Reader" "at" "I") (by decide +kernel)) (fun _ h9 => h9) rfl dX3_advance_9 ?_
    refine lv_iconst (v := (1 : Int32)) hx hb dX3_advance_12 (by decide) ?_
    refine lv_iadd hx hb dX3_advance_13 ?_
    obtain ⟨v2, ev2, h⟩ := gn_nm h
    refine ln_i ev2 ?_
    obtain ⟨S3, eS3, h⟩ := gn_nm h
    refine va_put (D := K.1) (ci := 3) (v := .int v2) (ty := .int) (C := RX3) (T := TX3) (N := 8) hx hb hts in_X3_advance_X3 tyX3 tyX3_ok nmX3 hown hK hP hD hS 7 rfl rfl 3 (by decide) (hts (.fieldLink RX3 33 "SawSums$Reader" "at" "I") (by decide +kernel)) (fun _ h9 => h9) rfl (by decide +kernel) rfl rfl (Nat.le_of_ble_eq_true rfl) dX3_advance_14 (fun H locs hP hD hS => ?_)
    have hP : va_P K.1 vwCl (wd K S3 M o g) H := by rw [eS3]; exact hP
    have hD : va_D (inA K) (wd K S3 M o g) := by rw [eS3]; exact hD
    refine lv_aload_n hx hb dX3_advance_17 rfl (lv_at hl 0 rfl) ?_
    refine lv_aload_n hx hb dX3_advance_18 rfl (lv_at hl 0 rfl) ?_
    refine va_get (D := K.1) (ci := 3) (v := .ref (K.2.2.1 8)) (C := RX3) (T := TX3) (N := 8) hx hb hts in_X3_advance_X3 hown hK hP 7 rfl rfl 0 (by decide) (hts (.fieldLink RX3 14 "SawSums$Reader" "tokens" "LSawSums$Tokens;") (by decide +kernel)) (fun _ h9 => h9) rfl dX3_advance_19 ?_
    refine lv_aload_n hx hb dX3_advance_22 rfl (lv_at hl 0 rfl) ?_
    refine va_get (D := K.1) (ci := 3) (v := .int (cg_at S3)) (C := RX3) (T := TX3) (N := 8) hx hb hts in_X3_advance_X3 hown hK hP 7 rfl rfl 3 (by decide) (hts (.fieldLink RX3 33 "SawSums$Reader" "at" "I") (by decide +kernel)) (fun _ h9 => h9) rfl dX3_advance_23 ?_
    obtain ⟨r4, S5, qS5, h⟩ := gn_bd2 h
    refine hc_V (rest := [.ref (K.2.2.1 7)]) ⟨hx, hb, hml, hown, hts⟩ hN hF hK hP hD hS (c_X4_kindAt l z K _ o g _ _ r4 S5 qS5) (cwV 1 hts gX3_advance_X4_kindAt rfl rfl rfl (by decide +kernel) ⟨(Nat.le_of_ble_eq_true rfl), (Nat.le_of_ble_eq_true rfl)⟩) (va_recv hK hP (ci := 4) (q0 := 8) rfl rfl) rfl hl.1 rfl (Nat.le_of_ble_eq_true rfl) dX3_advance_26 hcl hsl (fun H locs hP hD hS => ?_)
    have hP : va_P K.1 vwCl (wd K S5 M o g) H := hP
    have hD : va_D (inA K) (wd K S5 M o g) := hD
    refine W.eq (g2 := F0 m 29 ls [.int r4, .ref (K.2.2.1 7)]) rfl ?_
    obtain ⟨S6, eS6, h⟩ := gn_nm h
    refine va_put (D := K.1) (ci := 3) (v := .int r4) (ty := .int) (C := RX3) (T := TX3) (N := 8) hx hb hts in_X3_advance_X3 tyX3 tyX3_ok nmX3 hown hK hP hD hS 7 rfl rfl 4 (by decide) (hts (.fieldLink RX3 37 "SawSums$Reader" "token" "I") (by decide +kernel)) (fun _ h9 => h9) rfl (by decide +kernel) rfl rfl (Nat.le_of_ble_eq_true rfl) dX3_advance_29 (fun H locs hP hD hS => ?_)
    have hP : va_P K.1 vwCl (wd K S6 M o g) H := by rw [eS6]; exact hP
    have hD : va_D (inA K) (wd K S6 M o g) := by rw [eS6]; exact hD
    obtain rfl := gn_some h
    exact W.vret hx hb hr (fun t ht _ => ⟨rfl, by rw [ht]; exact hP, hD, hS.F ht⟩) hS.2.2 dX3_advance_32 hlk
theorem in_X3_pass_X3 : ∀ w ∈ wsX30, w ∈ wsX3_pass := fun _ h => List.mem_cons_of_mem _ (List.mem_append_left _ (List.mem_append_right _ h))
def rm_X3_pass : Room := { frames := 2, cells := 0, slots := 0, locals := 42 }
section
variable {p : Program} {l : Launch} {e : Env} {s : State} {m : MethodId} {args : Array Value} {below : List Frame} {meth : Method} {c : Code} {z : Nat} {K : Ev} {M : MS} {o : Nat → Int64} {g : Gh}
end
set_option maxRecDepth 100000 in
theorem c_X3_pass (l : Launch) (z : Nat) (K : Ev) (M : MS) (o : Nat → Int64) (g : Gh) (a0 : Int32) (S : CS)  (S' : CS) (h : F_X3_pass z a0 S = some S') : Met l yX3_pass wsX3_pass rm_X3_pass (qH K [.ref (K.2.2.1 7), .int a0] S M o g) (qR K none S' M o g) 0 0 (inA K) := by
  refine Met.ofW (cc := cX3_pass) (maxL := 2) (ret := none) (by decide) rfl ?_
  intro p e s m args below meth c s₁ B hml hv
  obtain ⟨rfl, hN, hP, hK, hD, hF⟩ := hv
  have hx := B.exec
  have hb := B.bytes
  have hr := B.returns
  have hts := atoms_spec (ws := wsX3_pass) B.pre
  have hown : s.vm.findClass RX3 = some m.cls := findClass_of_methodNamed B.named
  have hlk := B.notSynchronized
  have hcl : 0 ≤ (rm_X3_pass).cells := Nat.zero_le _
  have hsl : 0 ≤ (rm_X3_pass).slots := Nat.zero_le _
  have Cc : Cx p s m _ meth c cX3_pass 2 RX3 wsX3_pass none := ⟨hx, hb, hml, hown, hts, hr, hlk, hN⟩
  have hS : va_S (inA K) s.heap s.heap [] := va_S.rf
  have hl := lv_entry ([.ref (K.2.2.1 7), .int a0]) (n := 2) (Nat.le_of_ble_eq_true rfl)
  rw [lg_entry_eq]
  generalize (lg_sl ([.ref (K.2.2.1 7), .int a0]) ++ List.replicate (2 - (lg_sl ([.ref (K.2.2.1 7), .int a0])).length) Slot.unset).toArray = ls at hl ⊢
  have hl : lv_has ls 2 [(0, .ref (K.2.2.1 7)), (1, .int a0)] := hl
  rw [F_X3_pass] at h
  refine lv_aload_n hx hb dX3_pass_0 rfl (lv_at hl 0 rfl) ?_
  refine va_get (D := K.1) (ci := 3) (v := .int (cg_token S)) (C := RX3) (T := TX3) (N := 8) hx hb hts in_X3_pass_X3 hown hK hP 7 rfl rfl 4 (by decide) (hts (.fieldLink RX3 37 "SawSums$Reader" "token" "I") (by decide +kernel)) (fun _ h9 => h9) rfl dX3_pass_1 ?_
  refine lv_iload_n hx hb dX3_pass_4 rfl (lv_at hl 1 rfl) ?_
  refine lv_icmp_ne (tgt := 15) hx hb dX3_pass_5 (by decide) (fun c1 => ?_) (fun c1 => ?_)
  · have h := gn_f h c1
    refine lv_aload_n hx hb dX3_pass_15 rfl (lv_at hl 0 rfl) ?_
    refine lv_iconst (v := (1 : Int32)) hx hb dX3_pass_16 (by decide) ?_
    obtain ⟨S2, qS2, h⟩ := gn_bd h
    refine hc_V (rest := []) ⟨hx, hb, hml, hown, hts⟩ hN hF hK hP hD hS (c_X3_refuse l z K _ o g _ _  S2 qS2) (cwV 1 hts gX3_pass_X3_refuse rfl rfl rfl (by decide +kernel) ⟨(Nat.le_of_ble_eq_true rfl), (Nat.le_of_ble_eq_true rfl)⟩) (va_recv hK hP (ci := 3) (q0 := 7) rfl rfl) rfl hl.1 rfl (Nat.le_of_ble_eq_true rfl) dX3_pass_17 hcl hsl (fun H locs hP hD hS => ?_)
    have hP : va_P K.1 vwCl (wd K S2 M o g) H := hP
    have hD : va_D (inA K) (wd K S2 M o g) := hD
    refine W.eq (g2 := F0 m 20 ls []) rfl ?_
    obtain rfl := gn_some h
    exact W.vret hx hb hr (fun t ht _ => ⟨rfl, by rw [ht]; exact hP, hD, hS.F ht⟩) hS.2.2 dX3_pass_20 hlk
  · have h := gn_t h c1
    refine lv_aload_n hx hb dX3_pass_8 rfl (lv_at hl 0 rfl) ?_
    obtain ⟨S3, qS3, h⟩ := gn_bd h
    refine hc_V (rest := []) ⟨hx, hb, hml, hown, hts⟩ hN hF hK hP hD hS (c_X3_advance l z K _ o g  _  S3 qS3) (cwV 0 hts gX3_pass_X3_advance rfl rfl rfl (by decide +kernel) ⟨(Nat.le_of_ble_eq_true rfl), (Nat.le_of_ble_eq_true rfl)⟩) (va_recv hK hP (ci := 3) (q0 := 7) rfl rfl) rfl hl.1 rfl (Nat.le_of_ble_eq_true rfl) dX3_pass_9 hcl hsl (fun H locs hP hD hS => ?_)
    have hP : va_P K.1 vwCl (wd K S3 M o g) H := hP
    have hD : va_D (inA K) (wd K S3 M o g) := hD
    refine W.eq (g2 := F0 m 12 ls []) rfl ?_
    refine lv_goto (tgt := 20) hx hb dX3_pass_12 (by decide) ?_
    obtain rfl := gn_some h
    exact W.vret hx hb hr (fun t ht _ => ⟨rfl, by rw [ht]; exact hP, hD, hS.F ht⟩) hS.2.2 dX3_pass_20 hlk
theorem in_X3_goesIn_X3 : ∀ w ∈ wsX30, w ∈ wsX3_goesIn := fun _ h => List.mem_cons_of_mem _ (List.mem_append_left _ (List.mem_append_right _ h))
def rm_X3_goesIn : Room := { frames := 3, cells := 0, slots := 0, locals := 63 }
section
variable {p : Program} {l : Launch} {e : Env} {s : State} {m : MethodId} {args : Array Value} {below : List Frame} {meth : Method} {c : Code} {z : Nat} {K : Ev} {M : MS} {o : Nat → Int64} {g : Gh}
set_option maxRecDepth 100000 in
theorem w_X3_goesIn_23 (Cc : Cx p s m args meth c cX3_goesIn 2 RX3 wsX3_goesIn (some .boolean)) (hK : va_K K.1 vwCl (tysOf K) s) (hF : SF K s) {r : Int32} {S' : CS} : ∀  (S : CS) (H : Heap) (locs : List Loc), va_P K.1 vwCl (wd K S M o g) H → va_D (inA K) (wd K S M o g) → va_S (inA K) s.heap H locs → G_X3_goesIn_23 z S = some (r, S') → ∀ ls, lv_has ls 2 [(0, .ref (K.2.2.1 7))] → W p l e rm_X3_goesIn s m args below meth c H locs 0 0 (MQ below (qR K (some (.int r)) S' M o g) args s 0 0 (inA K)) (F0 m 23 ls []) := by
  obtain ⟨hx, hb, hml, hown, hts, hr, hlk, hN⟩ := id Cc
  have hcl : 0 ≤ (rm_X3_goesIn).cells := Nat.zero_le _
  have hsl : 0 ≤ (rm_X3_goesIn).slots := Nat.zero_le _
  intro S H locs hP hD hS h ls hl
  rw [G_X3_goesIn_23] at h
  refine lv_aload_n hx hb dX3_goesIn_23 rfl (lv_at hl 0 rfl) ?_
  refine lv_bipush (v := (40 : Int32)) hx hb dX3_goesIn_24 (by decide) ?_
  obtain ⟨S1, qS1, h⟩ := gn_bd h
  refine hc_V (rest := []) ⟨hx, hb, hml, hown, hts⟩ hN hF hK hP hD hS (c_X3_pass l z K _ o g _ _  S1 qS1) (cwV 1 hts gX3_goesIn_X3_pass rfl rfl rfl (by decide +kernel) ⟨(Nat.le_of_ble_eq_true rfl), (Nat.le_of_ble_eq_true rfl)⟩) (va_recv hK hP (ci := 3) (q0 := 7) rfl rfl) rfl hl.1 rfl (Nat.le_of_ble_eq_true rfl) dX3_goesIn_26 hcl hsl (fun H locs hP hD hS => ?_)
  have hP : va_P K.1 vwCl (wd K S1 M o g) H := hP
  have hD : va_D (inA K) (wd K S1 M o g) := hD
  refine W.eq (g2 := F0 m 29 ls []) rfl ?_
  refine lv_aload_n hx hb dX3_goesIn_29 rfl (lv_at hl 0 rfl) ?_
  refine va_get (D := K.1) (ci := 3) (v := .int (cg_refused S1)) (C := RX3) (T := TX3) (N := 8) hx hb hts in_X3_goesIn_X3 hown hK hP 7 rfl rfl 5 (by decide) (hts (.fieldLink RX3 40 "SawSums$Reader" "refused" "I") (by decide +kernel)) (fun _ h9 => h9) rfl dX3_goesIn_30 ?_
  refine lv_if_ne (tgt := 40) hx hb dX3_goesIn_33 (by decide) (fun c2 => ?_) (fun c2 => ?_)
  · have h := gn_f h c2
    refine lv_iconst (v := (0 : Int32)) hx hb dX3_goesIn_40 (by decide) ?_
    obtain ⟨rfl, rfl⟩ := Prod.mk.inj (gn_some h)
    exact W.zret (ty := .boolean) hx hb hr rfl (fun t ht _ => ⟨rfl, by rw [ht]; exact hP, hD, hS.F ht⟩) hS.2.2 dX3_goesIn_41 hlk
  · have h := gn_t h c2
    refine lv_iconst (v := (1 : Int32)) hx hb dX3_goesIn_36 (by decide) ?_
    refine lv_goto (tgt := 41) hx hb dX3_goesIn_37 (by decide) ?_
    obtain ⟨rfl, rfl⟩ := Prod.mk.inj (gn_some h)
    exact W.zret (ty := .boolean) hx hb hr rfl (fun t ht _ => ⟨rfl, by rw [ht]; exact hP, hD, hS.F ht⟩) hS.2.2 dX3_goesIn_41 hlk
end
set_option maxRecDepth 100000 in
theorem c_X3_goesIn (l : Launch) (z : Nat) (K : Ev) (M : MS) (o : Nat → Int64) (g : Gh) (a0 : Int32) (S : CS) (r : Int32) (S' : CS) (h : F_X3_goesIn z a0 S = some (r, S')) : Met l yX3_goesIn wsX3_goesIn rm_X3_goesIn (qH K [.ref (K.2.2.1 7), .int a0] S M o g) (qR K (some (.int r)) S' M o g) 0 0 (inA K) := by
  refine Met.ofW (cc := cX3_goesIn) (maxL := 2) (ret := (some .boolean)) (by decide) rfl ?_
  intro p e s m args below meth c s₁ B hml hv
  obtain ⟨rfl, hN, hP, hK, hD, hF⟩ := hv
  have hx := B.exec
  have hb := B.bytes
  have hr := B.returns
  have hts := atoms_spec (ws := wsX3_goesIn) B.pre
  have hown : s.vm.findClass RX3 = some m.cls := findClass_of_methodNamed B.named
  have hlk := B.notSynchronized
  have hcl : 0 ≤ (rm_X3_goesIn).cells := Nat.zero_le _
  have hsl : 0 ≤ (rm_X3_goesIn).slots := Nat.zero_le _
  have Cc : Cx p s m _ meth c cX3_goesIn 2 RX3 wsX3_goesIn (some .boolean) := ⟨hx, hb, hml, hown, hts, hr, hlk, hN⟩
  have hS : va_S (inA K) s.heap s.heap [] := va_S.rf
  have hl := lv_entry ([.ref (K.2.2.1 7), .int a0]) (n := 2) (Nat.le_of_ble_eq_true rfl)
  rw [lg_entry_eq]
  generalize (lg_sl ([.ref (K.2.2.1 7), .int a0]) ++ List.replicate (2 - (lg_sl ([.ref (K.2.2.1 7), .int a0])).length) Slot.unset).toArray = ls at hl ⊢
  have hl : lv_has ls 2 [(0, .ref (K.2.2.1 7)), (1, .int a0)] := hl
  rw [F_X3_goesIn] at h
  refine lv_aload_n hx hb dX3_goesIn_0 rfl (lv_at hl 0 rfl) ?_
  refine va_get (D := K.1) (ci := 3) (v := .int (cg_token S)) (C := RX3) (T := TX3) (N := 8) hx hb hts in_X3_goesIn_X3 hown hK hP 7 rfl rfl 4 (by decide) (hts (.fieldLink RX3 37 "SawSums$Reader" "token" "I") (by decide +kernel)) (fun _ h9 => h9) rfl dX3_goesIn_1 ?_
  refine lv_bipush (v := (40 : Int32)) hx hb dX3_goesIn_4 (by decide) ?_
  refine lv_icmp_ne (tgt := 23) hx hb dX3_goesIn_6 (by decide) (fun c1 => ?_) (fun c1 => ?_)
  · have h := gn_f h c1
    exact w_X3_goesIn_23 Cc hK hF S _ _ hP hD hS h ls (lv_sub hl [0] rfl)
  · have h := gn_t h c1
    refine lv_iload_n hx hb dX3_goesIn_9 rfl (lv_at hl 1 rfl) ?_
    refine lv_bipush (v := (9 : Int32)) hx hb dX3_goesIn_10 (by decide) ?_
    refine lv_icmp_lt (tgt := 23) hx hb dX3_goesIn_12 (by decide) (fun c2 => ?_) (fun c2 => ?_)
    · have h := gn_t h c2
      exact w_X3_goesIn_23 Cc hK hF S _ _ hP hD hS h ls (lv_sub hl [0] rfl)
    · have h := gn_f h c2
      refine lv_aload_n hx hb dX3_goesIn_15 rfl (lv_at hl 0 rfl) ?_
      refine lv_iconst (v := (2 : Int32)) hx hb dX3_goesIn_16 (by decide) ?_
      obtain ⟨S3, qS3, h⟩ := gn_bd h
      refine hc_V (rest := []) ⟨hx, hb, hml, hown, hts⟩ hN hF hK hP hD hS (c_X3_refuse l z K _ o g _ _  S3 qS3) (cwV 1 hts gX3_goesIn_X3_refuse rfl rfl rfl (by decide +kernel) ⟨(Nat.le_of_ble_eq_true rfl), (Nat.le_of_ble_eq_true rfl)⟩) (va_recv hK hP (ci := 3) (q0 := 7) rfl rfl) rfl hl.1 rfl (Nat.le_of_ble_eq_true rfl) dX3_goesIn_17 hcl hsl (fun H locs hP hD hS => ?_)
      have hP : va_P K.1 vwCl (wd K S3 M o g) H := hP
      have hD : va_D (inA K) (wd K S3 M o g) := hD
      refine W.eq (g2 := F0 m 20 ls []) rfl ?_
      refine lv_goto (tgt := 29) hx hb dX3_goesIn_20 (by decide) ?_
      refine lv_aload_n hx hb dX3_goesIn_29 rfl (lv_at hl 0 rfl) ?_
      refine va_get (D := K.1) (ci := 3) (v := .int (cg_refused S3)) (C := RX3) (T := TX3) (N := 8) hx hb hts in_X3_goesIn_X3 hown hK hP 7 rfl rfl 5 (by decide) (hts (.fieldLink RX3 40 "SawSums$Reader" "refused" "I") (by decide +kernel)) (fun _ h9 => h9) rfl dX3_goesIn_30 ?_
      refine lv_if_ne (tgt := 40) hx hb dX3_goesIn_33 (by decide) (fun c4 => ?_) (fun c4 => ?_)
      · have h := gn_f h c4
        refine lv_iconst (v := (0 : Int32)) hx hb dX3_goesIn_40 (by decide) ?_
        obtain ⟨rfl, rfl⟩ := Prod.mk.inj (gn_some h)
        exact W.zret (ty := .boolean) hx hb hr rfl (fun t ht _ => ⟨rfl, by rw [ht]; exact hP, hD, hS.F ht⟩) hS.2.2 dX3_goesIn_41 hlk
      · have h := gn_t h c4
        refine lv_iconst (v := (1 : Int32)) hx hb dX3_goesIn_36 (by decide) ?_
        refine lv_goto (tgt := 41) hx hb dX3_goesIn_37 (by decide) ?_
        obtain ⟨rfl, rfl⟩ := Prod.mk.inj (gn_some h)
        exact W.zret (ty := .boolean) hx hb hr rfl (fun t ht _ => ⟨rfl, by rw [ht]; exact hP, hD, hS.F ht⟩) hS.2.2 dX3_goesIn_41 hlk
theorem in_X3_readNumber_X3 : ∀ w ∈ wsX30, w ∈ wsX3_readNumber := fun _ h => List.mem_cons_of_mem _ (List.mem_append_left _ (List.mem_append_right _ h))
def rm_X3_readNumber : Room := { frames := 2, cells := 0, slots := 0, locals := 42 }
section
variable {p : Program} {l : Launch} {e : Env} {s : State} {m : MethodId} {args : Array Value} {below : List Frame} {meth : Method} {c : Code} {z : Nat} {K : Ev} {M : MS} {o : Nat → Int64} {g : Gh}
end
set_option maxRecDepth 100000 in
theorem c_X3_readNumber (l : Launch) (z : Nat) (K : Ev) (M : MS) (o : Nat → Int64) (g : Gh) (a0 : Int32) (a1 : Int32) (S : CS) (r : Int64) (S' : CS) (h : F_X3_readNumber z a0 a1 S = some (r, S')) : Met l yX3_readNumber wsX3_readNumber rm_X3_readNumber (qH K [.ref (K.2.2.1 7), .int a0, .int a1] S M o g) (qR K (some (.long r)) S' M o g) 0 0 (inA K) := by
  refine Met.ofW (cc := cX3_readNumber) (maxL := 5) (ret := (some .long)) (by decide) rfl ?_
  intro p e s m args below meth c s₁ B hml hv
  obtain ⟨rfl, hN, hP, hK, hD, hF⟩ := hv
  have hx := B.exec
  have hb := B.bytes
  have hr := B.returns
  have hts := atoms_spec (ws := wsX3_readNumber) B.pre
  have hown : s.vm.findClass RX3 = some m.cls := findClass_of_methodNamed B.named
  have hlk := B.notSynchronized
  have hcl : 0 ≤ (rm_X3_readNumber).cells := Nat.zero_le _
  have hsl : 0 ≤ (rm_X3_readNumber).slots := Nat.zero_le _
  have Cc : Cx p s m _ meth c cX3_readNumber 5 RX3 wsX3_readNumber (some .long) := ⟨hx, hb, hml, hown, hts, hr, hlk, hN⟩
  have hS : va_S (inA K) s.heap s.heap [] := va_S.rf
  have hl := lv_entry ([.ref (K.2.2.1 7), .int a0, .int a1]) (n := 5) (Nat.le_of_ble_eq_true rfl)
  rw [lg_entry_eq]
  generalize (lg_sl ([.ref (K.2.2.1 7), .int a0, .int a1]) ++ List.replicate (5 - (lg_sl ([.ref (K.2.2.1 7), .int a0, .int a1])).length) Slot.unset).toArray = ls at hl ⊢
  have hl : lv_has ls 5 [(0, .ref (K.2.2.1 7)), (1, .int a0), (2, .int a1)] := hl
  rw [F_X3_readNumber] at h
  refine lv_aload_n hx hb dX3_readNumber_0 rfl (lv_at hl 0 rfl) ?_
  refine va_get (D := K.1) (ci := 3) (v := .int (cg_token S)) (C := RX3) (T := TX3) (N := 8) hx hb hts in_X3_readNumber_X3 hown hK hP 7 rfl rfl 4 (by decide) (hts (.fieldLink RX3 37 "SawSums$Reader" "token" "I") (by decide +kernel)) (fun _ h9 => h9) rfl dX3_readNumber_1 ?_
  refine lv_bipush (v := (-2 : Int32)) hx hb dX3_readNumber_4 (by decide) ?_
  refine lv_icmp_eq (tgt := 16) hx hb dX3_readNumber_6 (by decide) (fun c1 => ?_) (fun c1 => ?_)
  · have h := gn_t h c1
    refine lv_aload_n hx hb dX3_readNumber_16 rfl (lv_at hl 0 rfl) ?_
    refine va_get (D := K.1) (ci := 3) (v := .ref (K.2.2.1 8)) (C := RX3) (T := TX3) (N := 8) hx hb hts in_X3_readNumber_X3 hown hK hP 7 rfl rfl 0 (by decide) (hts (.fieldLink RX3 14 "SawSums$Reader" "tokens" "LSawSums$Tokens;") (by decide +kernel)) (fun _ h9 => h9) rfl dX3_readNumber_17 ?_
    refine lv_aload_n hx hb dX3_readNumber_20 rfl (lv_at hl 0 rfl) ?_
    refine va_get (D := K.1) (ci := 3) (v := .int (cg_at S)) (C := RX3) (T := TX3) (N := 8) hx hb hts in_X3_readNumber_X3 hown hK hP 7 rfl rfl 3 (by decide) (hts (.fieldLink RX3 33 "SawSums$Reader" "at" "I") (by decide +kernel)) (fun _ h9 => h9) rfl dX3_readNumber_21 ?_
    obtain ⟨r2, S3, qS3, h⟩ := gn_bd2 h
    refine hc_V (rest := []) ⟨hx, hb, hml, hown, hts⟩ hN hF hK hP hD hS (c_X4_numberAt l z K _ o g _ _ r2 S3 qS3) (cwV 1 hts gX3_readNumber_X4_numberAt rfl rfl rfl (by decide +kernel) ⟨(Nat.le_of_ble_eq_true rfl), (Nat.le_of_ble_eq_true rfl)⟩) (va_recv hK hP (ci := 4) (q0 := 8) rfl rfl) rfl hl.1 rfl (Nat.le_of_ble_eq_true rfl) dX3_readNumber_24 hcl hsl (fun H locs hP hD hS => ?_)
    have hP : va_P K.1 vwCl (wd K S3 M o g) H := hP
    have hD : va_D (inA K) (wd K S3 M o g) := hD
    refine W.eq (g2 := F0 m 27 ls [.int r2]) rfl ?_
    refine lv_i2l hx hb dX3_readNumber_27 rfl ?_
    obtain ⟨v4, ev4, h⟩ := gn_nm h
    refine ln_l ev4 ?_
    refine lv_lstore_n (lv' := [(3, .long v4), (0, .ref (K.2.2.1 7)), (1, .int a0), (2, .int a1)]) hx hb dX3_readNumber_28 rfl hl (by decide) rfl (fun ls hl => ?_)
    refine lv_iload_n hx hb dX3_readNumber_29 rfl (lv_at hl 3 rfl) ?_
    refine lv_if_eq (tgt := 50) hx hb dX3_readNumber_30 (by decide) (fun c5 => ?_) (fun c5 => ?_)
    · have h := gn_t h c5
      refine lv_aload_n hx hb dX3_readNumber_50 rfl (lv_at hl 1 rfl) ?_
      obtain ⟨S6, qS6, h⟩ := gn_bd h
      refine hc_V (rest := []) ⟨hx, hb, hml, hown, hts⟩ hN hF hK hP hD hS (c_X3_advance l z K _ o g  _  S6 qS6) (cwV 0 hts gX3_readNumber_X3_advance rfl rfl rfl (by decide +kernel) ⟨(Nat.le_of_ble_eq_true rfl), (Nat.le_of_ble_eq_true rfl)⟩) (va_recv hK hP (ci := 3) (q0 := 7) rfl rfl) rfl hl.1 rfl (Nat.le_of_ble_eq_true rfl) dX3_readNumber_51 hcl hsl (fun H locs hP hD hS => ?_)
      have hP : va_P K.1 vwCl (wd K S6 M o g) H := hP
      have hD : va_D (inA K) (wd K S6 M o g) := hD
      refine W.eq (g2 := F0 m 54 ls []) rfl ?_
      refine lv_iload_n hx hb dX3_readNumber_54 rfl (lv_at hl 2 rfl) ?_
      refine lv_if_eq (tgt := 63) hx hb dX3_readNumber_55 (by decide) (fun c7 => ?_) (fun c7 => ?_)
      · have h := gn_t h c7
        refine lv_lload_n hx hb dX3_readNumber_63 rfl (lv_at hl 0 rfl) ?_
        obtain ⟨rfl, rfl⟩ := Prod.mk.inj (gn_some h)
        exact W.lret hx hb hr (fun t ht _ => ⟨rfl, by rw [ht]; exact hP, hD, hS.F ht⟩) hS.2.2 dX3_readNumber_64 hlk
      · have h := gn_f h c7
        refine lv_lload_n hx hb dX3_readNumber_58 rfl (lv_at hl 0 rfl) ?_
        refine lv_lneg hx hb dX3_readNumber_59 ?_
        refine lv_goto (tgt := 64) hx hb dX3_readNumber_60 (by decide) ?_
        obtain ⟨rfl, rfl⟩ := Prod.mk.inj (gn_some h)
        exact W.lret hx hb hr (fun t ht _ => ⟨rfl, by rw [ht]; exact hP, hD, hS.F ht⟩) hS.2.2 dX3_readNumber_64 hlk
    · have h := gn_f h c5
      refine lv_iload_n hx hb dX3_readNumber_33 rfl (lv_at hl 2 rfl) ?_
      refine lv_if_ne (tgt := 43) hx hb dX3_readNumber_34 (by decide) (fun c8 => ?_) (fun c8 => ?_)
      · have h := gn_f h c8
        refine lv_aload_n hx hb dX3_readNumber_43 rfl (lv_at hl 1 rfl) ?_
        refine lv_iconst (v := (2 : Int32)) hx hb dX3_readNumber_44 (by decide) ?_
        obtain ⟨S9, qS9, h⟩ := gn_bd h
        refine hc_V (rest := []) ⟨hx, hb, hml, hown, hts⟩ hN hF hK hP hD hS (c_X3_refuse l z K _ o g _ _  S9 qS9) (cwV 1 hts gX3_readNumber_X3_refuse rfl rfl rfl (by decide +kernel) ⟨(Nat.le_of_ble_eq_true rfl), (Nat.le_of_ble_eq_true rfl)⟩) (va_recv hK hP (ci := 3) (q0 := 7) rfl rfl) rfl hl.1 rfl (Nat.le_of_ble_eq_true rfl) dX3_readNumber_45 hcl hsl (fun H locs hP hD hS => ?_)
        have hP : va_P K.1 vwCl (wd K S9 M o g) H := hP
        have hD : va_D (inA K) (wd K S9 M o g) := hD
        refine W.eq (g2 := F0 m 48 ls []) rfl ?_
        refine lv_lconst (v := (1 : Int64)) hx hb dX3_readNumber_48 (by decide) ?_
        obtain ⟨rfl, rfl⟩ := Prod.mk.inj (gn_some h)
        exact W.lret hx hb hr (fun t ht _ => ⟨rfl, by rw [ht]; exact hP, hD, hS.F ht⟩) hS.2.2 dX3_readNumber_49 hlk
      · have h := gn_t h c8
        refine lv_lload_n hx hb dX3_readNumber_37 rfl (lv_at hl 0 rfl) ?_
        refine lv_lconst (v := (1 : Int64)) hx hb dX3_readNumber_38 (by decide) ?_
        refine ll_ge (tgt := 50) hx hb dX3_readNumber_39 dX3_readNumber_40 (by decide) (fun c10 => ?_) (fun c10 => ?_)
        · have h := gn_t h c10
          refine lv_aload_n hx hb dX3_readNumber_50 rfl (lv_at hl 1 rfl) ?_
          obtain ⟨S11, qS11, h⟩ := gn_bd h
          refine hc_V (rest := []) ⟨hx, hb, hml, hown, hts⟩ hN hF hK hP hD hS (c_X3_advance l z K _ o g  _  S11 qS11) (cwV 0 hts gX3_readNumber_X3_advance rfl rfl rfl (by decide +kernel) ⟨(Nat.le_of_ble_eq_true rfl), (Nat.le_of_ble_eq_true rfl)⟩) (va_recv hK hP (ci := 3) (q0 := 7) rfl rfl) rfl hl.1 rfl (Nat.le_of_ble_eq_true rfl) dX3_readNumber_51 hcl hsl (fun H locs hP hD hS => ?_)
          have hP : va_P K.1 vwCl (wd K S11 M o g) H := hP
          have hD : va_D (inA K) (wd K S11 M o g) := hD
          refine W.eq (g2 := F0 m 54 ls []) rfl ?_
          refine lv_iload_n hx hb dX3_readNumber_54 rfl (lv_at hl 2 rfl) ?_
          refine lv_if_eq (tgt := 63) hx hb dX3_readNumber_55 (by decide) (fun c12 => ?_) (fun c12 => ?_)
          · have h := gn_t h c12
            refine lv_lload_n hx hb dX3_readNumber_63 rfl (lv_at hl 0 rfl) ?_
            obtain ⟨rfl, rfl⟩ := Prod.mk.inj (gn_some h)
            exact W.lret hx hb hr (fun t ht _ => ⟨rfl, by rw [ht]; exact hP, hD, hS.F ht⟩) hS.2.2 dX3_readNumber_64 hlk
          · have h := gn_f h c12
            refine lv_lload_n hx hb dX3_readNumber_58 rfl (lv_at hl 0 rfl) ?_
            refine lv_lneg hx hb dX3_readNumber_59 ?_
            refine lv_goto (tgt := 64) hx hb dX3_readNumber_60 (by decide) ?_
            obtain ⟨rfl, rfl⟩ := Prod.mk.inj (gn_some h)
            exact W.lret hx hb hr (fun t ht _ => ⟨rfl, by rw [ht]; exact hP, hD, hS.F ht⟩) hS.2.2 dX3_readNumber_64 hlk
        · have h := gn_f h c10
          refine lv_aload_n hx hb dX3_readNumber_43 rfl (lv_at hl 1 rfl) ?_
          refine lv_iconst (v := (2 : Int32)) hx hb dX3_readNumber_44 (by decide) ?_
          obtain ⟨S13, qS13, h⟩ := gn_bd h
          refine hc_V (rest := []) ⟨hx, hb, hml, hown, hts⟩ hN hF hK hP hD hS (c_X3_refuse l z K _ o g _ _  S13 qS13) (cwV 1 hts gX3_readNumber_X3_refuse rfl rfl rfl (by decide +kernel) ⟨(Nat.le_of_ble_eq_true rfl), (Nat.le_of_ble_eq_true rfl)⟩) (va_recv hK hP (ci := 3) (q0 := 7) rfl rfl) rfl hl.1 rfl (Nat.le_of_ble_eq_true rfl) dX3_readNumber_45 hcl hsl (fun H locs hP hD hS => ?_)
          have hP : va_P K.1 vwCl (wd K S13 M o g) H := hP
          have hD : va_D (inA K) (wd K S13 M o g) := hD
          refine W.eq (g2 := F0 m 48 ls []) rfl ?_
          refine lv_lconst (v := (1 : Int64)) hx hb dX3_readNumber_48 (by decide) ?_
          obtain ⟨rfl, rfl⟩ := Prod.mk.inj (gn_some h)
          exact W.lret hx hb hr (fun t ht _ => ⟨rfl, by rw [ht]; exact hP, hD, hS.F ht⟩) hS.2.2 dX3_readNumber_49 hlk
  · have h := gn_f h c1
    refine lv_aload_n hx hb dX3_readNumber_9 rfl (lv_at hl 0 rfl) ?_
    refine lv_iconst (v := (1 : Int32)) hx hb dX3_readNumber_10 (by decide) ?_
    obtain ⟨S14, qS14, h⟩ := gn_bd h
    refine hc_V (rest := []) ⟨hx, hb, hml, hown, hts⟩ hN hF hK hP hD hS (c_X3_refuse l z K _ o g _ _  S14 qS14) (cwV 1 hts gX3_readNumber_X3_refuse rfl rfl rfl (by decide +kernel) ⟨(Nat.le_of_ble_eq_true rfl), (Nat.le_of_ble_eq_true rfl)⟩) (va_recv hK hP (ci := 3) (q0 := 7) rfl rfl) rfl hl.1 rfl (Nat.le_of_ble_eq_true rfl) dX3_readNumber_11 hcl hsl (fun H locs hP hD hS => ?_)
    have hP : va_P K.1 vwCl (wd K S14 M o g) H := hP
    have hD : va_D (inA K) (wd K S14 M o g) := hD
    refine W.eq (g2 := F0 m 14 ls []) rfl ?_
    refine lv_lconst (v := (1 : Int64)) hx hb dX3_readNumber_14 (by decide) ?_
    obtain ⟨rfl, rfl⟩ := Prod.mk.inj (gn_some h)
    exact W.lret hx hb hr (fun t ht _ => ⟨rfl, by rw [ht]; exact hP, hD, hS.F ht⟩) hS.2.2 dX3_readNumber_15 hlk
theorem in_X3_readWhole_X3 : ∀ w ∈ wsX30, w ∈ wsX3_readWhole := fun _ h => List.mem_cons_of_mem _ (List.mem_append_left _ (List.mem_append_right _ h))
def rm_X3_readWhole : Room := { frames := 3, cells := 0, slots := 0, locals := 66 }
section
variable {p : Program} {l : Launch} {e : Env} {s : State} {m : MethodId} {args : Array Value} {below : List Frame} {meth : Method} {c : Code} {z : Nat} {K : Ev} {M : MS} {o : Nat → Int64} {g : Gh}
set_option maxRecDepth 100000 in
theorem w_X3_readWhole_14 (Cc : Cx p s m args meth c cX3_readWhole 3 RX3 wsX3_readWhole (some .long)) (hK : va_K K.1 vwCl (tysOf K) s) (hF : SF K s) {r : Int64} {S' : CS} : ∀ (x1 : Int32) (t0 : Int32) (S : CS) (H : Heap) (locs : List Loc), va_P K.1 vwCl (wd K S M o g) H → va_D (inA K) (wd K S M o g) → va_S (inA K) s.heap H locs → G_X3_readWhole_14 z x1 t0 S = some (r, S') → ∀ ls, lv_has ls 3 [(0, .ref (K.2.2.1 7)), (1, .int x1)] → W p l e rm_X3_readWhole s m args below meth c H locs 0 0 (MQ below (qR K (some (.long r)) S' M o g) args s 0 0 (inA K)) (F0 m 14 ls [.int t0]) := by
  obtain ⟨hx, hb, hml, hown, hts, hr, hlk, hN⟩ := id Cc
  have hcl : 0 ≤ (rm_X3_readWhole).cells := Nat.zero_le _
  have hsl : 0 ≤ (rm_X3_readWhole).slots := Nat.zero_le _
  intro x1 t0 S H locs hP hD hS h ls hl
  rw [G_X3_readWhole_14] at h
  refine lv_istore_n (lv' := [(2, .int t0), (0, .ref (K.2.2.1 7)), (1, .int x1)]) hx hb dX3_readWhole_14 rfl hl (by decide) rfl (fun ls hl => ?_)
  refine lv_iload_n hx hb dX3_readWhole_15 rfl (lv_at hl 0 rfl) ?_
  refine lv_if_eq (tgt := 23) hx hb dX3_readWhole_16 (by decide) (fun c1 => ?_) (fun c1 => ?_)
  · have h := gn_t h c1
    refine lv_aload_n hx hb dX3_readWhole_23 rfl (lv_at hl 1 rfl) ?_
    refine lv_iload_n hx hb dX3_readWhole_24 rfl (lv_at hl 0 rfl) ?_
    refine lv_iload_n hx hb dX3_readWhole_25 rfl (lv_at hl 2 rfl) ?_
    obtain ⟨r2, S3, qS3, h⟩ := gn_bd2 h
    refine hc_V (rest := []) ⟨hx, hb, hml, hown, hts⟩ hN hF hK hP hD hS (c_X3_readNumber l z K _ o g _ _ _ r2 S3 qS3) (cwV 2 hts gX3_readWhole_X3_readNumber rfl rfl rfl (by decide +kernel) ⟨(Nat.le_of_ble_eq_true rfl), (Nat.le_of_ble_eq_true rfl)⟩) (va_recv hK hP (ci := 3) (q0 := 7) rfl rfl) rfl hl.1 rfl (Nat.le_of_ble_eq_true rfl) dX3_readWhole_26 hcl hsl (fun H locs hP hD hS => ?_)
    have hP : va_P K.1 vwCl (wd K S3 M o g) H := hP
    have hD : va_D (inA K) (wd K S3 M o g) := hD
    refine W.eq (g2 := F0 m 29 ls [.long r2]) rfl ?_
    obtain ⟨rfl, rfl⟩ := Prod.mk.inj (gn_some h)
    exact W.lret hx hb hr (fun t ht _ => ⟨rfl, by rw [ht]; exact hP, hD, hS.F ht⟩) hS.2.2 dX3_readWhole_29 hlk
  · have h := gn_f h c1
    refine lv_aload_n hx hb dX3_readWhole_19 rfl (lv_at hl 1 rfl) ?_
    obtain ⟨S4, qS4, h⟩ := gn_bd h
    refine hc_V (rest := []) ⟨hx, hb, hml, hown, hts⟩ hN hF hK hP hD hS (c_X3_advance l z K _ o g  _  S4 qS4) (cwV 0 hts gX3_readWhole_X3_advance rfl rfl rfl (by decide +kernel) ⟨(Nat.le_of_ble_eq_true rfl), (Nat.le_of_ble_eq_true rfl)⟩) (va_recv hK hP (ci := 3) (q0 := 7) rfl rfl) rfl hl.1 rfl (Nat.le_of_ble_eq_true rfl) dX3_readWhole_20 hcl hsl (fun H locs hP hD hS => ?_)
    have hP : va_P K.1 vwCl (wd K S4 M o g) H := hP
    have hD : va_D (inA K) (wd K S4 M o g) := hD
    refine W.eq (g2 := F0 m 23 ls []) rfl ?_
    refine lv_aload_n hx hb dX3_readWhole_23 rfl (lv_at hl 1 rfl) ?_
    refine lv_iload_n hx hb dX3_readWhole_24 rfl (lv_at hl 0 rfl) ?_
    refine lv_iload_n hx hb dX3_readWhole_25 rfl (lv_at hl 2 rfl) ?_
    obtain ⟨r5, S6, qS6, h⟩ := gn_bd2 h
    refine hc_V (rest := []) ⟨hx, hb, hml, hown, hts⟩ hN hF hK hP hD hS (c_X3_readNumber l z K _ o g _ _ _ r5 S6 qS6) (cwV 2 hts gX3_readWhole_X3_readNumber rfl rfl rfl (by decide +kernel) ⟨(Nat.le_of_ble_eq_true rfl), (Nat.le_of_ble_eq_true rfl)⟩) (va_recv hK hP (ci := 3) (q0 := 7) rfl rfl) rfl hl.1 rfl (Nat.le_of_ble_eq_true rfl) dX3_readWhole_26 hcl hsl (fun H locs hP hD hS => ?_)
    have hP : va_P K.1 vwCl (wd K S6 M o g) H := hP
    have hD : va_D (inA K) (wd K S6 M o g) := hD
    refine W.eq (g2 := F0 m 29 ls [.long r5]) rfl ?_
    obtain ⟨rfl, rfl⟩ := Prod.mk.inj (gn_some h)
    exact W.lret hx hb hr (fun t ht _ => ⟨rfl, by rw [ht]; exact hP, hD, hS.F ht⟩) hS.2.2 dX3_readWhole_29 hlk
end
set_option maxRecDepth 100000 in
theorem c_X3_readWhole (l : Launch) (z : Nat) (K : Ev) (M : MS) (o : Nat → Int64) (g : Gh) (a0 : Int32) (S : CS) (r : Int64) (S' : CS) (h : F_X3_readWhole z a0 S = some (r, S')) : Met l yX3_readWhole wsX3_readWhole rm_X3_readWhole (qH K [.ref (K.2.2.1 7), .int a0] S M o g) (qR K (some (.long r)) S' M o g) 0 0 (inA K) := by
  refine Met.ofW (cc := cX3_readWhole) (maxL := 3) (ret := (some .long)) (by decide) rfl ?_
  intro p e s m args below meth c s₁ B hml hv
  obtain ⟨rfl, hN, hP, hK, hD, hF⟩ := hv
  have hx := B.exec
  have hb := B.bytes
  have hr := B.returns
  have hts := atoms_spec (ws := wsX3_readWhole) B.pre
  have hown : s.vm.findClass RX3 = some m.cls := findClass_of_methodNamed B.named
  have hlk := B.notSynchronized
  have hcl : 0 ≤ (rm_X3_readWhole).cells := Nat.zero_le _
  have hsl : 0 ≤ (rm_X3_readWhole).slots := Nat.zero_le _
  have Cc : Cx p s m _ meth c cX3_readWhole 3 RX3 wsX3_readWhole (some .long) := ⟨hx, hb, hml, hown, hts, hr, hlk, hN⟩
  have hS : va_S (inA K) s.heap s.heap [] := va_S.rf
  have hl := lv_entry ([.ref (K.2.2.1 7), .int a0]) (n := 3) (Nat.le_of_ble_eq_true rfl)
  rw [lg_entry_eq]
  generalize (lg_sl ([.ref (K.2.2.1 7), .int a0]) ++ List.replicate (3 - (lg_sl ([.ref (K.2.2.1 7), .int a0])).length) Slot.unset).toArray = ls at hl ⊢
  have hl : lv_has ls 3 [(0, .ref (K.2.2.1 7)), (1, .int a0)] := hl
  rw [F_X3_readWhole] at h
  refine lv_aload_n hx hb dX3_readWhole_0 rfl (lv_at hl 0 rfl) ?_
  refine va_get (D := K.1) (ci := 3) (v := .int (cg_token S)) (C := RX3) (T := TX3) (N := 8) hx hb hts in_X3_readWhole_X3 hown hK hP 7 rfl rfl 4 (by decide) (hts (.fieldLink RX3 37 "SawSums$Reader" "token" "I") (by decide +kernel)) (fun _ h9 => h9) rfl dX3_readWhole_1 ?_
  refine lv_bipush (v := (45 : Int32)) hx hb dX3_readWhole_4 (by decide) ?_
  refine lv_icmp_ne (tgt := 13) hx hb dX3_readWhole_6 (by decide) (fun c1 => ?_) (fun c1 => ?_)
  · have h := gn_f h c1
    refine lv_iconst (v := (0 : Int32)) hx hb dX3_readWhole_13 (by decide) ?_
    exact w_X3_readWhole_14 Cc hK hF a0 (0 : Int32) S _ _ hP hD hS h ls (lv_sub hl [0, 1] rfl)
  · have h := gn_t h c1
    refine lv_iconst (v := (1 : Int32)) hx hb dX3_readWhole_9 (by decide) ?_
    refine lv_goto (tgt := 14) hx hb dX3_readWhole_10 (by decide) ?_
    exact w_X3_readWhole_14 Cc hK hF a0 (1 : Int32) S _ _ hP hD hS h ls (lv_sub hl [0, 1] rfl)
