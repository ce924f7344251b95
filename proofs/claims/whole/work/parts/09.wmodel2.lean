theorem in_X7_becomes_X7 : ∀ w ∈ wsX70, w ∈ wsX7_becomes := fun _ h => List.mem_cons_of_mem _ (List.mem_append_right _ h)
def rm_X7_becomes : Room := { frames := 2, cells := 0, slots := 0, locals := 46 }
section
variable {p : Program} {l : Launch} {e : Env} {s : State} {m : MethodId} {args : Array Value} {below : List Frame} {meth : Method} {c : Code} {z : Nat} {K : Ev} {C : CS} {o : Nat → Int64} {g : Gh}
end
set_option maxRecDepth 100000 in
theorem c_X7_becomes (l : Launch) (z : Nat) (K : Ev) (C : CS) (o : Nat → Int64) (g : Gh) (a0 : Int64) (a1 : Int64) (a2 : Int64) (a3 : Int64) (S : MS) (r : Int32) (S' : MS) (h : F_X7_becomes z a0 a1 a2 a3 S = some (r, S')) : Met l yX7_becomes wsX7_becomes rm_X7_becomes (qH K [.ref (K.2.2.1 12), .long a0, .long a1, .long a2, .long a3] C S o g) (qR K (some (.int r)) C S' o g) 0 0 (inA K) := by
  refine Met.ofW (cc := cX7_becomes) (maxL := 9) (ret := (some .boolean)) (by decide) rfl ?_
  intro p e s m args below meth c s₁ B hml hv
  obtain ⟨rfl, hN, hP, hK, hD, hF⟩ := hv
  have hx := B.exec
  have hb := B.bytes
  have hr := B.returns
  have hts := atoms_spec (ws := wsX7_becomes) B.pre
  have hown : s.vm.findClass RX7 = some m.cls := findClass_of_methodNamed B.named
  have hlk := B.notSynchronized
  have hcl : 0 ≤ (rm_X7_becomes).cells := Nat.zero_le _
  have hsl : 0 ≤ (rm_X7_becomes).slots := Nat.zero_le _
  have Cc : Cx p s m _ meth c cX7_becomes 9 RX7 wsX7_becomes (some .boolean) := ⟨hx, hb, hml, hown, hts, hr, hlk, hN⟩
  have hS : va_S (inA K) s.heap s.heap [] := va_S.rf
  have hl := lv_entry ([.ref (K.2.2.1 12), .long a0, .long a1, .long a2, .long a3]) (n := 9) (Nat.le_of_ble_eq_true rfl)
  rw [lg_entry_eq]
  generalize (lg_sl ([.ref (K.2.2.1 12), .long a0, .long a1, .long a2, .long a3]) ++ List.replicate (9 - (lg_sl ([.ref (K.2.2.1 12), .long a0, .long a1, .long a2, .long a3])).length) Slot.unset).toArray = ls at hl ⊢
  have hl : lv_has ls 9 [(0, .ref (K.2.2.1 12)), (1, .long a0), (3, .long a1), (5, .long a2), (7, .long a3)] := hl
  rw [F_X7_becomes] at h
  refine lv_lload_n hx hb dX7_becomes_0 rfl (lv_at hl 1 rfl) ?_
  obtain ⟨r1, qr1, h⟩ := gn_bd h
  refine pc_S (rest := []) ⟨hx, hb, hml, hown, hts⟩ hN (c_X7_isEntry l z _ r1 qr1) (va_cwS 1 hts gX7_becomes_X7_isEntry rfl rfl rfl (by decide +kernel) ⟨(Nat.le_of_ble_eq_true rfl), (Nat.le_of_ble_eq_true rfl)⟩) rfl hl.1 rfl (Nat.le_of_ble_eq_true rfl) dX7_becomes_1 hcl hsl ?_
  refine lv_if_eq (tgt := 30) hx hb dX7_becomes_4 (by decide) (fun c2 => ?_) (fun c2 => ?_)
  · have h := gn_t h c2
    refine lv_iconst (v := (0 : Int32)) hx hb dX7_becomes_30 (by decide) ?_
    obtain ⟨rfl, rfl⟩ := Prod.mk.inj (gn_some h)
    exact W.zret (ty := .boolean) hx hb hr rfl (fun t ht _ => ⟨rfl, by rw [ht]; exact hP, hD, hS.F ht⟩) hS.2.2 dX7_becomes_31 hlk
  · have h := gn_f h c2
    refine lv_lload_n hx hb dX7_becomes_7 rfl (lv_at hl 2 rfl) ?_
    obtain ⟨r3, qr3, h⟩ := gn_bd h
    refine pc_S (rest := []) ⟨hx, hb, hml, hown, hts⟩ hN (c_X7_isEntry l z _ r3 qr3) (va_cwS 1 hts gX7_becomes_X7_isEntry rfl rfl rfl (by decide +kernel) ⟨(Nat.le_of_ble_eq_true rfl), (Nat.le_of_ble_eq_true rfl)⟩) rfl hl.1 rfl (Nat.le_of_ble_eq_true rfl) dX7_becomes_8 hcl hsl ?_
    refine lv_if_eq (tgt := 30) hx hb dX7_becomes_11 (by decide) (fun c4 => ?_) (fun c4 => ?_)
    · have h := gn_t h c4
      refine lv_iconst (v := (0 : Int32)) hx hb dX7_becomes_30 (by decide) ?_
      obtain ⟨rfl, rfl⟩ := Prod.mk.inj (gn_some h)
      exact W.zret (ty := .boolean) hx hb hr rfl (fun t ht _ => ⟨rfl, by rw [ht]; exact hP, hD, hS.F ht⟩) hS.2.2 dX7_becomes_31 hlk
    · have h := gn_f h c4
      refine lv_lload hx hb dX7_becomes_14 (lv_at hl 3 rfl) ?_
      obtain ⟨r5, qr5, h⟩ := gn_bd h
      refine pc_S (rest := []) ⟨hx, hb, hml, hown, hts⟩ hN (c_X7_isEntry l z _ r5 qr5) (va_cwS 1 hts gX7_becomes_X7_isEntry rfl rfl rfl (by decide +kernel) ⟨(Nat.le_of_ble_eq_true rfl), (Nat.le_of_ble_eq_true rfl)⟩) rfl hl.1 rfl (Nat.le_of_ble_eq_true rfl) dX7_becomes_16 hcl hsl ?_
      refine lv_if_eq (tgt := 30) hx hb dX7_becomes_19 (by decide) (fun c6 => ?_) (fun c6 => ?_)
      · have h := gn_t h c6
        refine lv_iconst (v := (0 : Int32)) hx hb dX7_becomes_30 (by decide) ?_
        obtain ⟨rfl, rfl⟩ := Prod.mk.inj (gn_some h)
        exact W.zret (ty := .boolean) hx hb hr rfl (fun t ht _ => ⟨rfl, by rw [ht]; exact hP, hD, hS.F ht⟩) hS.2.2 dX7_becomes_31 hlk
      · have h := gn_f h c6
        refine lv_lload hx hb dX7_becomes_22 (lv_at hl 4 rfl) ?_
        obtain ⟨r7, qr7, h⟩ := gn_bd h
        refine pc_S (rest := []) ⟨hx, hb, hml, hown, hts⟩ hN (c_X7_isEntry l z _ r7 qr7) (va_cwS 1 hts gX7_becomes_X7_isEntry rfl rfl rfl (by decide +kernel) ⟨(Nat.le_of_ble_eq_true rfl), (Nat.le_of_ble_eq_true rfl)⟩) rfl hl.1 rfl (Nat.le_of_ble_eq_true rfl) dX7_becomes_24 hcl hsl ?_
        refine lv_if_ne (tgt := 32) hx hb dX7_becomes_27 (by decide) (fun c8 => ?_) (fun c8 => ?_)
        · have h := gn_f h c8
          refine lv_aload_n hx hb dX7_becomes_32 rfl (lv_at hl 0 rfl) ?_
          refine lv_lload_n hx hb dX7_becomes_33 rfl (lv_at hl 1 rfl) ?_
          obtain ⟨S9, eS9, h⟩ := gn_nm h
          refine va_put (D := K.1) (ci := 6) (v := .long a0) (ty := .long) (C := RX7) (T := TX7) (N := 24) hx hb hts in_X7_becomes_X7 tyX7 tyX7_ok nmX7 hown hK hP hD hS 12 rfl rfl 4 (by decide) (hts (.fieldLink RX7 23 "SawSumsModel" "a0" "J") (by decide +kernel)) (fun _ h9 => h9) rfl (by decide +kernel) rfl rfl (Nat.le_of_ble_eq_true rfl) dX7_becomes_34 (fun H locs hP hD hS => ?_)
          have hP : va_P K.1 vwCl (wd K C S9 o g) H := by rw [eS9]; exact hP
          have hD : va_D (inA K) (wd K C S9 o g) := by rw [eS9]; exact hD
          refine lv_aload_n hx hb dX7_becomes_37 rfl (lv_at hl 0 rfl) ?_
          refine lv_lload_n hx hb dX7_becomes_38 rfl (lv_at hl 2 rfl) ?_
          obtain ⟨S10, eS10, h⟩ := gn_nm h
          refine va_put (D := K.1) (ci := 6) (v := .long a1) (ty := .long) (C := RX7) (T := TX7) (N := 24) hx hb hts in_X7_becomes_X7 tyX7 tyX7_ok nmX7 hown hK hP hD hS 12 rfl rfl 5 (by decide) (hts (.fieldLink RX7 140 "SawSumsModel" "b0" "J") (by decide +kernel)) (fun _ h9 => h9) rfl (by decide +kernel) rfl rfl (Nat.le_of_ble_eq_true rfl) dX7_becomes_39 (fun H locs hP hD hS => ?_)
          have hP : va_P K.1 vwCl (wd K C S10 o g) H := by rw [eS10]; exact hP
          have hD : va_D (inA K) (wd K C S10 o g) := by rw [eS10]; exact hD
          refine lv_aload_n hx hb dX7_becomes_42 rfl (lv_at hl 0 rfl) ?_
          refine lv_lload hx hb dX7_becomes_43 (lv_at hl 3 rfl) ?_
          obtain ⟨S11, eS11, h⟩ := gn_nm h
          refine va_put (D := K.1) (ci := 6) (v := .long a2) (ty := .long) (C := RX7) (T := TX7) (N := 24) hx hb hts in_X7_becomes_X7 tyX7 tyX7_ok nmX7 hown hK hP hD hS 12 rfl rfl 6 (by decide) (hts (.fieldLink RX7 143 "SawSumsModel" "c0" "J") (by decide +kernel)) (fun _ h9 => h9) rfl (by decide +kernel) rfl rfl (Nat.le_of_ble_eq_true rfl) dX7_becomes_45 (fun H locs hP hD hS => ?_)
          have hP : va_P K.1 vwCl (wd K C S11 o g) H := by rw [eS11]; exact hP
          have hD : va_D (inA K) (wd K C S11 o g) := by rw [eS11]; exact hD
          refine lv_aload_n hx hb dX7_becomes_48 rfl (lv_at hl 0 rfl) ?_
          refine lv_lload hx hb dX7_becomes_49 (lv_at hl 4 rfl) ?_
          obtain ⟨S12, eS12, h⟩ := gn_nm h
          refine va_put (D := K.1) (ci := 6) (v := .long a3) (ty := .long) (C := RX7) (T := TX7) (N := 24) hx hb hts in_X7_becomes_X7 tyX7 tyX7_ok nmX7 hown hK hP hD hS 12 rfl rfl 7 (by decide) (hts (.fieldLink RX7 27 "SawSumsModel" "d0" "J") (by decide +kernel)) (fun _ h9 => h9) rfl (by decide +kernel) rfl rfl (Nat.le_of_ble_eq_true rfl) dX7_becomes_51 (fun H locs hP hD hS => ?_)
          have hP : va_P K.1 vwCl (wd K C S12 o g) H := by rw [eS12]; exact hP
          have hD : va_D (inA K) (wd K C S12 o g) := by rw [eS12]; exact hD
          refine lv_iconst (v := (1 : Int32)) hx hb dX7_becomes_54 (by decide) ?_
          obtain ⟨rfl, rfl⟩ := Prod.mk.inj (gn_some h)
          exact W.zret (ty := .boolean) hx hb hr rfl (fun t ht _ => ⟨rfl, by rw [ht]; exact hP, hD, hS.F ht⟩) hS.2.2 dX7_becomes_55 hlk
        · have h := gn_t h c8
          refine lv_iconst (v := (0 : Int32)) hx hb dX7_becomes_30 (by decide) ?_
          obtain ⟨rfl, rfl⟩ := Prod.mk.inj (gn_some h)
          exact W.zret (ty := .boolean) hx hb hr rfl (fun t ht _ => ⟨rfl, by rw [ht]; exact hP, hD, hS.F ht⟩) hS.2.2 dX7_becomes_31 hlk
theorem in_X7_of_X7 : ∀ w ∈ wsX70, w ∈ wsX7_of := fun _ h => List.mem_cons_of_mem _ (List.mem_append_right _ h)
def rm_X7_of : Room := { frames := 1, cells := 0, slots := 0, locals := 25 }
section
variable {p : Program} {l : Launch} {e : Env} {s : State} {m : MethodId} {args : Array Value} {below : List Frame} {meth : Method} {c : Code} {z : Nat} {K : Ev} {C : CS} {o : Nat → Int64} {g : Gh}
set_option maxRecDepth 100000 in
theorem w_X7_of_18 (Cc : Cx p s m args meth c cX7_of 2 RX7 wsX7_of (some .int)) (hK : va_K K.1 vwCl (tysOf K) s) (hF : SF K s) {r : Int32} {S' : MS} : ∀ (x1 : Int32) (t0 : Int32) (S : MS) (H : Heap) (locs : List Loc), va_P K.1 vwCl (wd K C S o g) H → va_D (inA K) (wd K C S o g) → va_S (inA K) s.heap H locs → G_X7_of_18 z x1 t0 S = some (r, S') → ∀ ls, lv_has ls 2 [(0, .ref (K.2.2.1 12)), (1, .int x1)] → W p l e rm_X7_of s m args below meth c H locs 0 0 (MQ below (qR K (some (.int r)) C S' o g) args s 0 0 (inA K)) (F0 m 18 ls [.int t0, .ref (K.2.2.1 12)]) := by
  obtain ⟨hx, hb, hml, hown, hts, hr, hlk, hN⟩ := id Cc
  have hcl : 0 ≤ (rm_X7_of).cells := Nat.zero_le _
  have hsl : 0 ≤ (rm_X7_of).slots := Nat.zero_le _
  intro x1 t0 S H locs hP hD hS h ls hl
  rw [G_X7_of_18] at h
  obtain ⟨S1, eS1, h⟩ := gn_nm h
  refine va_put (D := K.1) (ci := 6) (v := .int t0) (ty := .int) (C := RX7) (T := TX7) (N := 24) hx hb hts in_X7_of_X7 tyX7 tyX7_ok nmX7 hown hK hP hD hS 12 rfl rfl 0 (by decide) (hts (.fieldLink RX7 33 "SawSumsModel" "thrown" "I") (by decide +kernel)) (fun _ h9 => h9) rfl (by decide +kernel) rfl rfl (Nat.le_of_ble_eq_true rfl) dX7_of_18 (fun H locs hP hD hS => ?_)
  have hP : va_P K.1 vwCl (wd K C S1 o g) H := by rw [eS1]; exact hP
  have hD : va_D (inA K) (wd K C S1 o g) := by rw [eS1]; exact hD
  refine lv_iload_n hx hb dX7_of_21 rfl (lv_at hl 1 rfl) ?_
  refine lv_if_ne (tgt := 32) hx hb dX7_of_22 (by decide) (fun c2 => ?_) (fun c2 => ?_)
  · have h := gn_f h c2
    refine lv_iload_n hx hb dX7_of_32 rfl (lv_at hl 1 rfl) ?_
    refine lv_iconst (v := (1 : Int32)) hx hb dX7_of_33 (by decide) ?_
    refine lv_icmp_ne (tgt := 44) hx hb dX7_of_34 (by decide) (fun c3 => ?_) (fun c3 => ?_)
    · have h := gn_f h c3
      refine lv_iload_n hx hb dX7_of_44 rfl (lv_at hl 1 rfl) ?_
      refine lv_iconst (v := (2 : Int32)) hx hb dX7_of_45 (by decide) ?_
      refine lv_icmp_ne (tgt := 56) hx hb dX7_of_46 (by decide) (fun c4 => ?_) (fun c4 => ?_)
      · have h := gn_f h c4
        refine lv_iload_n hx hb dX7_of_56 rfl (lv_at hl 1 rfl) ?_
        refine lv_iconst (v := (3 : Int32)) hx hb dX7_of_57 (by decide) ?_
        refine lv_icmp_ne (tgt := 68) hx hb dX7_of_58 (by decide) (fun c5 => ?_) (fun c5 => ?_)
        · have h := gn_f h c5
          refine lv_lconst (v := (0 : Int64)) hx hb dX7_of_68 (by decide) ?_
          refine lv_l2i hx hb dX7_of_69 rfl ?_
          obtain ⟨rfl, rfl⟩ := Prod.mk.inj (gn_some h)
          exact W.iret hx hb hr (fun t ht _ => ⟨rfl, by rw [ht]; exact hP, hD, hS.F ht⟩) hS.2.2 dX7_of_70 hlk
        · have h := gn_t h c5
          refine lv_aload_n hx hb dX7_of_61 rfl (lv_at hl 0 rfl) ?_
          refine va_get (D := K.1) (ci := 6) (v := .long (mg_d0 S1)) (C := RX7) (T := TX7) (N := 24) hx hb hts in_X7_of_X7 hown hK hP 12 rfl rfl 7 (by decide) (hts (.fieldLink RX7 27 "SawSumsModel" "d0" "J") (by decide +kernel)) (fun _ h9 => h9) rfl dX7_of_62 ?_
          refine lv_goto (tgt := 69) hx hb dX7_of_65 (by decide) ?_
          refine lv_l2i hx hb dX7_of_69 rfl ?_
          obtain ⟨rfl, rfl⟩ := Prod.mk.inj (gn_some h)
          exact W.iret hx hb hr (fun t ht _ => ⟨rfl, by rw [ht]; exact hP, hD, hS.F ht⟩) hS.2.2 dX7_of_70 hlk
      · have h := gn_t h c4
        refine lv_aload_n hx hb dX7_of_49 rfl (lv_at hl 0 rfl) ?_
        refine va_get (D := K.1) (ci := 6) (v := .long (mg_c0 S1)) (C := RX7) (T := TX7) (N := 24) hx hb hts in_X7_of_X7 hown hK hP 12 rfl rfl 6 (by decide) (hts (.fieldLink RX7 143 "SawSumsModel" "c0" "J") (by decide +kernel)) (fun _ h9 => h9) rfl dX7_of_50 ?_
        refine lv_goto (tgt := 69) hx hb dX7_of_53 (by decide) ?_
        refine lv_l2i hx hb dX7_of_69 rfl ?_
        obtain ⟨rfl, rfl⟩ := Prod.mk.inj (gn_some h)
        exact W.iret hx hb hr (fun t ht _ => ⟨rfl, by rw [ht]; exact hP, hD, hS.F ht⟩) hS.2.2 dX7_of_70 hlk
    · have h := gn_t h c3
      refine lv_aload_n hx hb dX7_of_37 rfl (lv_at hl 0 rfl) ?_
      refine va_get (D := K.1) (ci := 6) (v := .long (mg_b0 S1)) (C := RX7) (T := TX7) (N := 24) hx hb hts in_X7_of_X7 hown hK hP 12 rfl rfl 5 (by decide) (hts (.fieldLink RX7 140 "SawSumsModel" "b0" "J") (by decide +kernel)) (fun _ h9 => h9) rfl dX7_of_38 ?_
      refine lv_goto (tgt := 69) hx hb dX7_of_41 (by decide) ?_
      refine lv_l2i hx hb dX7_of_69 rfl ?_
      obtain ⟨rfl, rfl⟩ := Prod.mk.inj (gn_some h)
      exact W.iret hx hb hr (fun t ht _ => ⟨rfl, by rw [ht]; exact hP, hD, hS.F ht⟩) hS.2.2 dX7_of_70 hlk
  · have h := gn_t h c2
    refine lv_aload_n hx hb dX7_of_25 rfl (lv_at hl 0 rfl) ?_
    refine va_get (D := K.1) (ci := 6) (v := .long (mg_a0 S1)) (C := RX7) (T := TX7) (N := 24) hx hb hts in_X7_of_X7 hown hK hP 12 rfl rfl 4 (by decide) (hts (.fieldLink RX7 23 "SawSumsModel" "a0" "J") (by decide +kernel)) (fun _ h9 => h9) rfl dX7_of_26 ?_
    refine lv_goto (tgt := 69) hx hb dX7_of_29 (by decide) ?_
    refine lv_l2i hx hb dX7_of_69 rfl ?_
    obtain ⟨rfl, rfl⟩ := Prod.mk.inj (gn_some h)
    exact W.iret hx hb hr (fun t ht _ => ⟨rfl, by rw [ht]; exact hP, hD, hS.F ht⟩) hS.2.2 dX7_of_70 hlk
end
set_option maxRecDepth 100000 in
theorem c_X7_of (l : Launch) (z : Nat) (K : Ev) (C : CS) (o : Nat → Int64) (g : Gh) (a0 : Int32) (S : MS) (r : Int32) (S' : MS) (h : F_X7_of z a0 S = some (r, S')) : Met l yX7_of wsX7_of rm_X7_of (qH K [.ref (K.2.2.1 12), .int a0] C S o g) (qR K (some (.int r)) C S' o g) 0 0 (inA K) := by
  refine Met.ofW (cc := cX7_of) (maxL := 2) (ret := (some .int)) (by decide) rfl ?_
  intro p e s m args below meth c s₁ B hml hv
  obtain ⟨rfl, hN, hP, hK, hD, hF⟩ := hv
  have hx := B.exec
  have hb := B.bytes
  have hr := B.returns
  have hts := atoms_spec (ws := wsX7_of) B.pre
  have hown : s.vm.findClass RX7 = some m.cls := findClass_of_methodNamed B.named
  have hlk := B.notSynchronized
  have hcl : 0 ≤ (rm_X7_of).cells := Nat.zero_le _
  have hsl : 0 ≤ (rm_X7_of).slots := Nat.zero_le _
  have Cc : Cx p s m _ meth c cX7_of 2 RX7 wsX7_of (some .int) := ⟨hx, hb, hml, hown, hts, hr, hlk, hN⟩
  have hS : va_S (inA K) s.heap s.heap [] := va_S.rf
  have hl := lv_entry ([.ref (K.2.2.1 12), .int a0]) (n := 2) (Nat.le_of_ble_eq_true rfl)
  rw [lg_entry_eq]
  generalize (lg_sl ([.ref (K.2.2.1 12), .int a0]) ++ List.replicate (2 - (lg_sl ([.ref (K.2.2.1 12), .int a0])).length) Slot.unset).toArray = ls at hl ⊢
  have hl : lv_has ls 2 [(0, .ref (K.2.2.1 12)), (1, .int a0)] := hl
  rw [F_X7_of] at h
  refine lv_aload_n hx hb dX7_of_0 rfl (lv_at hl 0 rfl) ?_
  refine lv_iload_n hx hb dX7_of_1 rfl (lv_at hl 1 rfl) ?_
  refine lv_i2l hx hb dX7_of_2 rfl ?_
  refine lv_lconst (v := (0 : Int64)) hx hb dX7_of_3 (by decide) ?_
  refine lv_ldc2 hx hb hown (hts (.constantLong RX7 57 (3)) (by decide +kernel)) dX7_of_4 ?_
  obtain ⟨r1, qr1, h⟩ := gn_bd h
  refine pc_S (rest := [.ref (K.2.2.1 12)]) ⟨hx, hb, hml, hown, hts⟩ hN (c_X7_isIn l z _ _ _ r1 qr1) (va_cwS 3 hts gX7_of_X7_isIn rfl rfl rfl (by decide +kernel) ⟨(Nat.le_of_ble_eq_true rfl), (Nat.le_of_ble_eq_true rfl)⟩) rfl hl.1 rfl (Nat.le_of_ble_eq_true rfl) dX7_of_7 hcl hsl ?_
  refine lv_if_eq (tgt := 17) hx hb dX7_of_10 (by decide) (fun c2 => ?_) (fun c2 => ?_)
  · have h := gn_t h c2
    refine lv_iconst (v := (1 : Int32)) hx hb dX7_of_17 (by decide) ?_
    exact w_X7_of_18 Cc hK hF a0 (1 : Int32) S _ _ hP hD hS h ls (lv_sub hl [0, 1] rfl)
  · have h := gn_f h c2
    refine lv_iconst (v := (0 : Int32)) hx hb dX7_of_13 (by decide) ?_
    refine lv_goto (tgt := 18) hx hb dX7_of_14 (by decide) ?_
    exact w_X7_of_18 Cc hK hF a0 (0 : Int32) S _ _ hP hD hS h ls (lv_sub hl [0, 1] rfl)
theorem in_X7_set_X7 : ∀ w ∈ wsX70, w ∈ wsX7_set := fun _ h => List.mem_cons_of_mem _ (List.mem_append_right _ h)
def rm_X7_set : Room := { frames := 3, cells := 0, slots := 0, locals := 74 }
section
variable {p : Program} {l : Launch} {e : Env} {s : State} {m : MethodId} {args : Array Value} {below : List Frame} {meth : Method} {c : Code} {z : Nat} {K : Ev} {C : CS} {o : Nat → Int64} {g : Gh}
end
set_option maxRecDepth 100000 in
theorem c_X7_set (l : Launch) (z : Nat) (K : Ev) (C : CS) (o : Nat → Int64) (g : Gh) (a0 : Int32) (a1 : Int32) (a2 : Int32) (a3 : Int32) (S : MS) (r : Int32) (S' : MS) (h : F_X7_set z a0 a1 a2 a3 S = some (r, S')) : Met l yX7_set wsX7_set rm_X7_set (qH K [.ref (K.2.2.1 12), .int a0, .int a1, .int a2, .int a3] C S o g) (qR K (some (.int r)) C S' o g) 0 0 (inA K) := by
  refine Met.ofW (cc := cX7_set) (maxL := 5) (ret := (some .boolean)) (by decide) rfl ?_
  intro p e s m args below meth c s₁ B hml hv
  obtain ⟨rfl, hN, hP, hK, hD, hF⟩ := hv
  have hx := B.exec
  have hb := B.bytes
  have hr := B.returns
  have hts := atoms_spec (ws := wsX7_set) B.pre
  have hown : s.vm.findClass RX7 = some m.cls := findClass_of_methodNamed B.named
  have hlk := B.notSynchronized
  have hcl : 0 ≤ (rm_X7_set).cells := Nat.zero_le _
  have hsl : 0 ≤ (rm_X7_set).slots := Nat.zero_le _
  have Cc : Cx p s m _ meth c cX7_set 5 RX7 wsX7_set (some .boolean) := ⟨hx, hb, hml, hown, hts, hr, hlk, hN⟩
  have hS : va_S (inA K) s.heap s.heap [] := va_S.rf
  have hl := lv_entry ([.ref (K.2.2.1 12), .int a0, .int a1, .int a2, .int a3]) (n := 5) (Nat.le_of_ble_eq_true rfl)
  rw [lg_entry_eq]
  generalize (lg_sl ([.ref (K.2.2.1 12), .int a0, .int a1, .int a2, .int a3]) ++ List.replicate (5 - (lg_sl ([.ref (K.2.2.1 12), .int a0, .int a1, .int a2, .int a3])).length) Slot.unset).toArray = ls at hl ⊢
  have hl : lv_has ls 5 [(0, .ref (K.2.2.1 12)), (1, .int a0), (2, .int a1), (3, .int a2), (4, .int a3)] := hl
  rw [F_X7_set] at h
  refine lv_aload_n hx hb dX7_set_0 rfl (lv_at hl 0 rfl) ?_
  refine lv_iconst (v := (0 : Int32)) hx hb dX7_set_1 (by decide) ?_
  obtain ⟨S1, eS1, h⟩ := gn_nm h
  refine va_put (D := K.1) (ci := 6) (v := .int (0 : Int32)) (ty := .int) (C := RX7) (T := TX7) (N := 24) hx hb hts in_X7_set_X7 tyX7 tyX7_ok nmX7 hown hK hP hD hS 12 rfl rfl 0 (by decide) (hts (.fieldLink RX7 33 "SawSumsModel" "thrown" "I") (by decide +kernel)) (fun _ h9 => h9) rfl (by decide +kernel) rfl rfl (Nat.le_of_ble_eq_true rfl) dX7_set_2 (fun H locs hP hD hS => ?_)
  have hP : va_P K.1 vwCl (wd K C S1 o g) H := by rw [eS1]; exact hP
  have hD : va_D (inA K) (wd K C S1 o g) := by rw [eS1]; exact hD
  refine lv_iload_n hx hb dX7_set_5 rfl (lv_at hl 1 rfl) ?_
  refine lv_iload_n hx hb dX7_set_6 rfl (lv_at hl 2 rfl) ?_
  refine lv_iload_n hx hb dX7_set_7 rfl (lv_at hl 3 rfl) ?_
  refine lv_iload hx hb dX7_set_8 (lv_at hl 4 rfl) ?_
  obtain ⟨r2, qr2, h⟩ := gn_bd h
  refine pc_S (rest := []) ⟨hx, hb, hml, hown, hts⟩ hN (c_X7_isMatrix l z _ _ _ _ r2 qr2) (va_cwS 4 hts gX7_set_X7_isMatrix rfl rfl rfl (by decide +kernel) ⟨(Nat.le_of_ble_eq_true rfl), (Nat.le_of_ble_eq_true rfl)⟩) rfl hl.1 rfl (Nat.le_of_ble_eq_true rfl) dX7_set_10 hcl hsl ?_
  refine lv_if_eq (tgt := 36) hx hb dX7_set_13 (by decide) (fun c3 => ?_) (fun c3 => ?_)
  · have h := gn_t h c3
    refine lv_iconst (v := (0 : Int32)) hx hb dX7_set_36 (by decide) ?_
    obtain ⟨rfl, rfl⟩ := Prod.mk.inj (gn_some h)
    exact W.zret (ty := .boolean) hx hb hr rfl (fun t ht _ => ⟨rfl, by rw [ht]; exact hP, hD, hS.F ht⟩) hS.2.2 dX7_set_37 hlk
  · have h := gn_f h c3
    refine lv_aload_n hx hb dX7_set_16 rfl (lv_at hl 0 rfl) ?_
    refine lv_iload_n hx hb dX7_set_17 rfl (lv_at hl 1 rfl) ?_
    refine lv_i2l hx hb dX7_set_18 rfl ?_
    refine lv_iload_n hx hb dX7_set_19 rfl (lv_at hl 2 rfl) ?_
    refine lv_i2l hx hb dX7_set_20 rfl ?_
    refine lv_iload_n hx hb dX7_set_21 rfl (lv_at hl 3 rfl) ?_
    refine lv_i2l hx hb dX7_set_22 rfl ?_
    refine lv_iload hx hb dX7_set_23 (lv_at hl 4 rfl) ?_
    refine lv_i2l hx hb dX7_set_25 rfl ?_
    obtain ⟨r4, S5, qS5, h⟩ := gn_bd2 h
    refine hc_V (rest := []) ⟨hx, hb, hml, hown, hts⟩ hN hF hK hP hD hS (c_X7_becomes l z K _ o g _ _ _ _ _ r4 S5 qS5) (cwV 4 hts gX7_set_X7_becomes rfl rfl rfl (by decide +kernel) ⟨(Nat.le_of_ble_eq_true rfl), (Nat.le_of_ble_eq_true rfl)⟩) (va_recv hK hP (ci := 6) (q0 := 12) rfl rfl) rfl hl.1 rfl (Nat.le_of_ble_eq_true rfl) dX7_set_26 hcl hsl (fun H locs hP hD hS => ?_)
    have hP : va_P K.1 vwCl (wd K C S5 o g) H := hP
    have hD : va_D (inA K) (wd K C S5 o g) := hD
    refine W.eq (g2 := F0 m 29 ls [.int r4]) rfl ?_
    refine lv_if_eq (tgt := 36) hx hb dX7_set_29 (by decide) (fun c6 => ?_) (fun c6 => ?_)
    · have h := gn_t h c6
      refine lv_iconst (v := (0 : Int32)) hx hb dX7_set_36 (by decide) ?_
      obtain ⟨rfl, rfl⟩ := Prod.mk.inj (gn_some h)
      exact W.zret (ty := .boolean) hx hb hr rfl (fun t ht _ => ⟨rfl, by rw [ht]; exact hP, hD, hS.F ht⟩) hS.2.2 dX7_set_37 hlk
    · have h := gn_f h c6
      refine lv_iconst (v := (1 : Int32)) hx hb dX7_set_32 (by decide) ?_
      refine lv_goto (tgt := 37) hx hb dX7_set_33 (by decide) ?_
      obtain ⟨rfl, rfl⟩ := Prod.mk.inj (gn_some h)
      exact W.zret (ty := .boolean) hx hb hr rfl (fun t ht _ => ⟨rfl, by rw [ht]; exact hP, hD, hS.F ht⟩) hS.2.2 dX7_set_37 hlk
theorem in_X7_turn_X7 : ∀ w ∈ wsX70, w ∈ wsX7_turn := fun _ h => List.mem_cons_of_mem _ (List.mem_append_right _ h)
def rm_X7_turn : Room := { frames := 3, cells := 0, slots := 0, locals := 74 }
section
variable {p : Program} {l : Launch} {e : Env} {s : State} {m : MethodId} {args : Array Value} {below : List Frame} {meth : Method} {c : Code} {z : Nat} {K : Ev} {C : CS} {o : Nat → Int64} {g : Gh}
end
set_option maxRecDepth 100000 in
theorem c_X7_turn (l : Launch) (z : Nat) (K : Ev) (C : CS) (o : Nat → Int64) (g : Gh)  (S : MS) (r : Int32) (S' : MS) (h : F_X7_turn z S = some (r, S')) : Met l yX7_turn wsX7_turn rm_X7_turn (qH K [.ref (K.2.2.1 12)] C S o g) (qR K (some (.int r)) C S' o g) 0 0 (inA K) := by
  refine Met.ofW (cc := cX7_turn) (maxL := 1) (ret := (some .boolean)) (by decide) rfl ?_
  intro p e s m args below meth c s₁ B hml hv
  obtain ⟨rfl, hN, hP, hK, hD, hF⟩ := hv
  have hx := B.exec
  have hb := B.bytes
  have hr := B.returns
  have hts := atoms_spec (ws := wsX7_turn) B.pre
  have hown : s.vm.findClass RX7 = some m.cls := findClass_of_methodNamed B.named
  have hlk := B.notSynchronized
  have hcl : 0 ≤ (rm_X7_turn).cells := Nat.zero_le _
  have hsl : 0 ≤ (rm_X7_turn).slots := Nat.zero_le _
  have Cc : Cx p s m _ meth c cX7_turn 1 RX7 wsX7_turn (some .boolean) := ⟨hx, hb, hml, hown, hts, hr, hlk, hN⟩
  have hS : va_S (inA K) s.heap s.heap [] := va_S.rf
  have hl := lv_entry ([.ref (K.2.2.1 12)]) (n := 1) (Nat.le_of_ble_eq_true rfl)
  rw [lg_entry_eq]
  generalize (lg_sl ([.ref (K.2.2.1 12)]) ++ List.replicate (1 - (lg_sl ([.ref (K.2.2.1 12)])).length) Slot.unset).toArray = ls at hl ⊢
  have hl : lv_has ls 1 [(0, .ref (K.2.2.1 12))] := hl
  rw [F_X7_turn] at h
  refine lv_aload_n hx hb dX7_turn_0 rfl (lv_at hl 0 rfl) ?_
  refine lv_iconst (v := (0 : Int32)) hx hb dX7_turn_1 (by decide) ?_
  obtain ⟨S1, eS1, h⟩ := gn_nm h
  refine va_put (D := K.1) (ci := 6) (v := .int (0 : Int32)) (ty := .int) (C := RX7) (T := TX7) (N := 24) hx hb hts in_X7_turn_X7 tyX7 tyX7_ok nmX7 hown hK hP hD hS 12 rfl rfl 0 (by decide) (hts (.fieldLink RX7 33 "SawSumsModel" "thrown" "I") (by decide +kernel)) (fun _ h9 => h9) rfl (by decide +kernel) rfl rfl (Nat.le_of_ble_eq_true rfl) dX7_turn_2 (fun H locs hP hD hS => ?_)
  have hP : va_P K.1 vwCl (wd K C S1 o g) H := by rw [eS1]; exact hP
  have hD : va_D (inA K) (wd K C S1 o g) := by rw [eS1]; exact hD
  refine lv_aload_n hx hb dX7_turn_5 rfl (lv_at hl 0 rfl) ?_
  refine lv_aload_n hx hb dX7_turn_6 rfl (lv_at hl 0 rfl) ?_
  refine va_get (D := K.1) (ci := 6) (v := .long (mg_b0 S1)) (C := RX7) (T := TX7) (N := 24) hx hb hts in_X7_turn_X7 hown hK hP 12 rfl rfl 5 (by decide) (hts (.fieldLink RX7 140 "SawSumsModel" "b0" "J") (by decide +kernel)) (fun _ h9 => h9) rfl dX7_turn_7 ?_
  refine lv_aload_n hx hb dX7_turn_10 rfl (lv_at hl 0 rfl) ?_
  refine va_get (D := K.1) (ci := 6) (v := .long (mg_a0 S1)) (C := RX7) (T := TX7) (N := 24) hx hb hts in_X7_turn_X7 hown hK hP 12 rfl rfl 4 (by decide) (hts (.fieldLink RX7 23 "SawSumsModel" "a0" "J") (by decide +kernel)) (fun _ h9 => h9) rfl dX7_turn_11 ?_
  refine lv_lneg hx hb dX7_turn_14 ?_
  refine lv_aload_n hx hb dX7_turn_15 rfl (lv_at hl 0 rfl) ?_
  refine va_get (D := K.1) (ci := 6) (v := .long (mg_d0 S1)) (C := RX7) (T := TX7) (N := 24) hx hb hts in_X7_turn_X7 hown hK hP 12 rfl rfl 7 (by decide) (hts (.fieldLink RX7 27 "SawSumsModel" "d0" "J") (by decide +kernel)) (fun _ h9 => h9) rfl dX7_turn_16 ?_
  refine lv_aload_n hx hb dX7_turn_19 rfl (lv_at hl 0 rfl) ?_
  refine va_get (D := K.1) (ci := 6) (v := .long (mg_c0 S1)) (C := RX7) (T := TX7) (N := 24) hx hb hts in_X7_turn_X7 hown hK hP 12 rfl rfl 6 (by decide) (hts (.fieldLink RX7 143 "SawSumsModel" "c0" "J") (by decide +kernel)) (fun _ h9 => h9) rfl dX7_turn_20 ?_
  refine lv_lneg hx hb dX7_turn_23 ?_
  obtain ⟨r2, S3, qS3, h⟩ := gn_bd2 h
  refine hc_V (rest := []) ⟨hx, hb, hml, hown, hts⟩ hN hF hK hP hD hS (c_X7_becomes l z K _ o g _ _ _ _ _ r2 S3 qS3) (cwV 4 hts gX7_turn_X7_becomes rfl rfl rfl (by decide +kernel) ⟨(Nat.le_of_ble_eq_true rfl), (Nat.le_of_ble_eq_true rfl)⟩) (va_recv hK hP (ci := 6) (q0 := 12) rfl rfl) rfl hl.1 rfl (Nat.le_of_ble_eq_true rfl) dX7_turn_24 hcl hsl (fun H locs hP hD hS => ?_)
  have hP : va_P K.1 vwCl (wd K C S3 o g) H := hP
  have hD : va_D (inA K) (wd K C S3 o g) := hD
  refine W.eq (g2 := F0 m 27 ls [.int r2]) rfl ?_
  obtain ⟨n4, h⟩ := gn_yz h
  obtain ⟨rfl, rfl⟩ := Prod.mk.inj (gn_some h)
  exact W.zret (ty := .boolean) hx hb hr (nb_ok n4) (fun t ht _ => ⟨rfl, by rw [ht]; exact hP, hD, hS.F ht⟩) hS.2.2 dX7_turn_27 hlk
theorem in_X7_shift_X7 : ∀ w ∈ wsX70, w ∈ wsX7_shift := fun _ h => List.mem_cons_of_mem _ (List.mem_append_right _ h)
def rm_X7_shift : Room := { frames := 3, cells := 0, slots := 0, locals := 74 }
section
variable {p : Program} {l : Launch} {e : Env} {s : State} {m : MethodId} {args : Array Value} {below : List Frame} {meth : Method} {c : Code} {z : Nat} {K : Ev} {C : CS} {o : Nat → Int64} {g : Gh}
end
set_option maxRecDepth 100000 in
theorem c_X7_shift (l : Launch) (z : Nat) (K : Ev) (C : CS) (o : Nat → Int64) (g : Gh) (a0 : Int32) (S : MS) (r : Int32) (S' : MS) (h : F_X7_shift z a0 S = some (r, S')) : Met l yX7_shift wsX7_shift rm_X7_shift (qH K [.ref (K.2.2.1 12), .int a0] C S o g) (qR K (some (.int r)) C S' o g) 0 0 (inA K) := by
  refine Met.ofW (cc := cX7_shift) (maxL := 2) (ret := (some .boolean)) (by decide) rfl ?_
  intro p e s m args below meth c s₁ B hml hv
  obtain ⟨rfl, hN, hP, hK, hD, hF⟩ := hv
  have hx := B.exec
  have hb := B.bytes
  have hr := B.returns
  have hts := atoms_spec (ws := wsX7_shift) B.pre
  have hown : s.vm.findClass RX7 = some m.cls := findClass_of_methodNamed B.named
  have hlk := B.notSynchronized
  have hcl : 0 ≤ (rm_X7_shift).cells := Nat.zero_le _
  have hsl : 0 ≤ (rm_X7_shift).slots := Nat.zero_le _
  have Cc : Cx p s m _ meth c cX7_shift 2 RX7 wsX7_shift (some .boolean) := ⟨hx, hb, hml, hown, hts, hr, hlk, hN⟩
  have hS : va_S (inA K) s.heap s.heap [] := va_S.rf
  have hl := lv_entry ([.ref (K.2.2.1 12), .int a0]) (n := 2) (Nat.le_of_ble_eq_true rfl)
  rw [lg_entry_eq]
  generalize (lg_sl ([.ref (K.2.2.1 12), .int a0]) ++ List.replicate (2 - (lg_sl ([.ref (K.2.2.1 12), .int a0])).length) Slot.unset).toArray = ls at hl ⊢
  have hl : lv_has ls 2 [(0, .ref (K.2.2.1 12)), (1, .int a0)] := hl
  rw [F_X7_shift] at h
  refine lv_aload_n hx hb dX7_shift_0 rfl (lv_at hl 0 rfl) ?_
  refine lv_iconst (v := (0 : Int32)) hx hb dX7_shift_1 (by decide) ?_
  obtain ⟨S1, eS1, h⟩ := gn_nm h
  refine va_put (D := K.1) (ci := 6) (v := .int (0 : Int32)) (ty := .int) (C := RX7) (T := TX7) (N := 24) hx hb hts in_X7_shift_X7 tyX7 tyX7_ok nmX7 hown hK hP hD hS 12 rfl rfl 0 (by decide) (hts (.fieldLink RX7 33 "SawSumsModel" "thrown" "I") (by decide +kernel)) (fun _ h9 => h9) rfl (by decide +kernel) rfl rfl (Nat.le_of_ble_eq_true rfl) dX7_shift_2 (fun H locs hP hD hS => ?_)
  have hP : va_P K.1 vwCl (wd K C S1 o g) H := by rw [eS1]; exact hP
  have hD : va_D (inA K) (wd K C S1 o g) := by rw [eS1]; exact hD
  refine lv_aload_n hx hb dX7_shift_5 rfl (lv_at hl 0 rfl) ?_
  refine lv_aload_n hx hb dX7_shift_6 rfl (lv_at hl 0 rfl) ?_
  refine va_get (D := K.1) (ci := 6) (v := .long (mg_a0 S1)) (C := RX7) (T := TX7) (N := 24) hx hb hts in_X7_shift_X7 hown hK hP 12 rfl rfl 4 (by decide) (hts (.fieldLink RX7 23 "SawSumsModel" "a0" "J") (by decide +kernel)) (fun _ h9 => h9) rfl dX7_shift_7 ?_
  refine lv_aload_n hx hb dX7_shift_10 rfl (lv_at hl 0 rfl) ?_
  refine va_get (D := K.1) (ci := 6) (v := .long (mg_a0 S1)) (C := RX7) (T := TX7) (N := 24) hx hb hts in_X7_shift_X7 hown hK hP 12 rfl rfl 4 (by decide) (hts (.fieldLink RX7 23 "SawSumsModel" "a0" "J") (by decide +kernel)) (fun _ h9 => h9) rfl dX7_shift_11 ?_
  refine lv_iload_n hx hb dX7_shift_14 rfl (lv_at hl 1 rfl) ?_
  refine lv_i2l hx hb dX7_shift_15 rfl ?_
  refine lv_lmul hx hb dX7_shift_16 ?_
  refine lv_aload_n hx hb dX7_shift_17 rfl (lv_at hl 0 rfl) ?_
  refine va_get (D := K.1) (ci := 6) (v := .long (mg_b0 S1)) (C := RX7) (T := TX7) (N := 24) hx hb hts in_X7_shift_X7 hown hK hP 12 rfl rfl 5 (by decide) (hts (.fieldLink RX7 140 "SawSumsModel" "b0" "J") (by decide +kernel)) (fun _ h9 => h9) rfl dX7_shift_18 ?_
  refine lv_ladd hx hb dX7_shift_21 ?_
  refine lv_aload_n hx hb dX7_shift_22 rfl (lv_at hl 0 rfl) ?_
  refine va_get (D := K.1) (ci := 6) (v := .long (mg_c0 S1)) (C := RX7) (T := TX7) (N := 24) hx hb hts in_X7_shift_X7 hown hK hP 12 rfl rfl 6 (by decide) (hts (.fieldLink RX7 143 "SawSumsModel" "c0" "J") (by decide +kernel)) (fun _ h9 => h9) rfl dX7_shift_23 ?_
  refine lv_aload_n hx hb dX7_shift_26 rfl (lv_at hl 0 rfl) ?_
  refine va_get (D := K.1) (ci := 6) (v := .long (mg_c0 S1)) (C := RX7) (T := TX7) (N := 24) hx hb hts in_X7_shift_X7 hown hK hP 12 rfl rfl 6 (by decide) (hts (.fieldLink RX7 143 "SawSumsModel" "c0" "J") (by decide +kernel)) (fun _ h9 => h9) rfl dX7_shift_27 ?_
  refine lv_iload_n hx hb dX7_shift_30 rfl (lv_at hl 1 rfl) ?_
  refine lv_i2l hx hb dX7_shift_31 rfl ?_
  refine lv_lmul hx hb dX7_shift_32 ?_
  refine lv_aload_n hx hb dX7_shift_33 rfl (lv_at hl 0 rfl) ?_
  refine va_get (D := K.1) (ci := 6) (v := .long (mg_d0 S1)) (C := RX7) (T := TX7) (N := 24) hx hb hts in_X7_shift_X7 hown hK hP 12 rfl rfl 7 (by decide) (hts (.fieldLink RX7 27 "SawSumsModel" "d0" "J") (by decide +kernel)) (fun _ h9 => h9) rfl dX7_shift_34 ?_
  refine lv_ladd hx hb dX7_shift_37 ?_
  obtain ⟨r2, S3, qS3, h⟩ := gn_bd2 h
  refine hc_V (rest := []) ⟨hx, hb, hml, hown, hts⟩ hN hF hK hP hD hS (c_X7_becomes l z K _ o g _ _ _ _ _ r2 S3 qS3) (cwV 4 hts gX7_shift_X7_becomes rfl rfl rfl (by decide +kernel) ⟨(Nat.le_of_ble_eq_true rfl), (Nat.le_of_ble_eq_true rfl)⟩) (va_recv hK hP (ci := 6) (q0 := 12) rfl rfl) rfl hl.1 rfl (Nat.le_of_ble_eq_true rfl) dX7_shift_38 hcl hsl (fun H locs hP hD hS => ?_)
  have hP : va_P K.1 vwCl (wd K C S3 o g) H := hP
  have hD : va_D (inA K) (wd K C S3 o g) := hD
  refine W.eq (g2 := F0 m 41 ls [.int r2]) rfl ?_
  obtain ⟨n4, h⟩ := gn_yz h
  obtain ⟨rfl, rfl⟩ := Prod.mk.inj (gn_some h)
  exact W.zret (ty := .boolean) hx hb hr (nb_ok n4) (fun t ht _ => ⟨rfl, by rw [ht]; exact hP, hD, hS.F ht⟩) hS.2.2 dX7_shift_41 hlk
theorem in_X7_times_X7 : ∀ w ∈ wsX70, w ∈ wsX7_times := fun _ h => List.mem_cons_of_mem _ (List.mem_append_right _ h)
def rm_X7_times : Room := { frames := 3, cells := 0, slots := 0, locals := 74 }
section
variable {p : Program} {l : Launch} {e : Env} {s : State} {m : MethodId} {args : Array Value} {below : List Frame} {meth : Method} {c : Code} {z : Nat} {K : Ev} {C : CS} {o : Nat → Int64} {g : Gh}
end
set_option maxRecDepth 100000 in
theorem c_X7_times (l : Launch) (z : Nat) (K : Ev) (C : CS) (o : Nat → Int64) (g : Gh) (a0 : Int32) (a1 : Int32) (a2 : Int32) (a3 : Int32) (S : MS) (r : Int32) (S' : MS) (h : F_X7_times z a0 a1 a2 a3 S = some (r, S')) : Met l yX7_times wsX7_times rm_X7_times (qH K [.ref (K.2.2.1 12), .int a0, .int a1, .int a2, .int a3] C S o g) (qR K (some (.int r)) C S' o g) 0 0 (inA K) := by
  refine Met.ofW (cc := cX7_times) (maxL := 5) (ret := (some .boolean)) (by decide) rfl ?_
  intro p e s m args below meth c s₁ B hml hv
  obtain ⟨rfl, hN, hP, hK, hD, hF⟩ := hv
  have hx := B.exec
  have hb := B.bytes
  have hr := B.returns
  have hts := atoms_spec (ws := wsX7_times) B.pre
  have hown : s.vm.findClass RX7 = some m.cls := findClass_of_methodNamed B.named
  have hlk := B.notSynchronized
  have hcl : 0 ≤ (rm_X7_times).cells := Nat.zero_le _
  have hsl : 0 ≤ (rm_X7_times).slots := Nat.zero_le _
  have Cc : Cx p s m _ meth c cX7_times 5 RX7 wsX7_times (some .boolean) := ⟨hx, hb, hml, hown, hts, hr, hlk, hN⟩
  have hS : va_S (inA K) s.heap s.heap [] := va_S.rf
  have hl := lv_entry ([.ref (K.2.2.1 12), .int a0, .int a1, .int a2, .int a3]) (n := 5) (Nat.le_of_ble_eq_true rfl)
  rw [lg_entry_eq]
  generalize (lg_sl ([.ref (K.2.2.1 12), .int a0, .int a1, .int a2, .int a3]) ++ List.replicate (5 - (lg_sl ([.ref (K.2.2.1 12), .int a0, .int a1, .int a2, .int a3])).length) Slot.unset).toArray = ls at hl ⊢
  have hl : lv_has ls 5 [(0, .ref (K.2.2.1 12)), (1, .int a0), (2, .int a1), (3, .int a2), (4, .int a3)] := hl
  rw [F_X7_times] at h
  refine lv_aload_n hx hb dX7_times_0 rfl (lv_at hl 0 rfl) ?_
  refine lv_iconst (v := (0 : Int32)) hx hb dX7_times_1 (by decide) ?_
  obtain ⟨S1, eS1, h⟩ := gn_nm h
  refine va_put (D := K.1) (ci := 6) (v := .int (0 : Int32)) (ty := .int) (C := RX7) (T := TX7) (N := 24) hx hb hts in_X7_times_X7 tyX7 tyX7_ok nmX7 hown hK hP hD hS 12 rfl rfl 0 (by decide) (hts (.fieldLink RX7 33 "SawSumsModel" "thrown" "I") (by decide +kernel)) (fun _ h9 => h9) rfl (by decide +kernel) rfl rfl (Nat.le_of_ble_eq_true rfl) dX7_times_2 (fun H locs hP hD hS => ?_)
  have hP : va_P K.1 vwCl (wd K C S1 o g) H := by rw [eS1]; exact hP
  have hD : va_D (inA K) (wd K C S1 o g) := by rw [eS1]; exact hD
  refine lv_iload_n hx hb dX7_times_5 rfl (lv_at hl 1 rfl) ?_
  refine lv_iload_n hx hb dX7_times_6 rfl (lv_at hl 2 rfl) ?_
  refine lv_iload_n hx hb dX7_times_7 rfl (lv_at hl 3 rfl) ?_
  refine lv_iload hx hb dX7_times_8 (lv_at hl 4 rfl) ?_
  obtain ⟨r2, qr2, h⟩ := gn_bd h
  refine pc_S (rest := []) ⟨hx, hb, hml, hown, hts⟩ hN (c_X7_isMatrix l z _ _ _ _ r2 qr2) (va_cwS 4 hts gX7_times_X7_isMatrix rfl rfl rfl (by decide +kernel) ⟨(Nat.le_of_ble_eq_true rfl), (Nat.le_of_ble_eq_true rfl)⟩) rfl hl.1 rfl (Nat.le_of_ble_eq_true rfl) dX7_times_10 hcl hsl ?_
  refine lv_if_eq (tgt := 89) hx hb dX7_times_13 (by decide) (fun c3 => ?_) (fun c3 => ?_)
  · have h := gn_t h c3
    refine lv_iconst (v := (0 : Int32)) hx hb dX7_times_89 (by decide) ?_
    obtain ⟨rfl, rfl⟩ := Prod.mk.inj (gn_some h)
    exact W.zret (ty := .boolean) hx hb hr rfl (fun t ht _ => ⟨rfl, by rw [ht]; exact hP, hD, hS.F ht⟩) hS.2.2 dX7_times_90 hlk
  · have h := gn_f h c3
    refine lv_aload_n hx hb dX7_times_16 rfl (lv_at hl 0 rfl) ?_
    refine lv_aload_n hx hb dX7_times_17 rfl (lv_at hl 0 rfl) ?_
    refine va_get (D := K.1) (ci := 6) (v := .long (mg_a0 S1)) (C := RX7) (T := TX7) (N := 24) hx hb hts in_X7_times_X7 hown hK hP 12 rfl rfl 4 (by decide) (hts (.fieldLink RX7 23 "SawSumsModel" "a0" "J") (by decide +kernel)) (fun _ h9 => h9) rfl dX7_times_18 ?_
    refine lv_iload_n hx hb dX7_times_21 rfl (lv_at hl 1 rfl) ?_
    refine lv_i2l hx hb dX7_times_22 rfl ?_
    refine lv_lmul hx hb dX7_times_23 ?_
    refine lv_aload_n hx hb dX7_times_24 rfl (lv_at hl 0 rfl) ?_
    refine va_get (D := K.1) (ci := 6) (v := .long (mg_b0 S1)) (C := RX7) (T := TX7) (N := 24) hx hb hts in_X7_times_X7 hown hK hP 12 rfl rfl 5 (by decide) (hts (.fieldLink RX7 140 "SawSumsModel" "b0" "J") (by decide +kernel)) (fun _ h9 => h9) rfl dX7_times_25 ?_
    refine lv_iload_n hx hb dX7_times_28 rfl (lv_at hl 3 rfl) ?_
    refine lv_i2l hx hb dX7_times_29 rfl ?_
    refine lv_lmul hx hb dX7_times_30 ?_
    refine lv_ladd hx hb dX7_times_31 ?_
    refine lv_aload_n hx hb dX7_times_32 rfl (lv_at hl 0 rfl) ?_
    refine va_get (D := K.1) (ci := 6) (v := .long (mg_a0 S1)) (C := RX7) (T := TX7) (N := 24) hx hb hts in_X7_times_X7 hown hK hP 12 rfl rfl 4 (by decide) (hts (.fieldLink RX7 23 "SawSumsModel" "a0" "J") (by decide +kernel)) (fun _ h9 => h9) rfl dX7_times_33 ?_
    refine lv_iload_n hx hb dX7_times_36 rfl (lv_at hl 2 rfl) ?_
    refine lv_i2l hx hb dX7_times_37 rfl ?_
    refine lv_lmul hx hb dX7_times_38 ?_
    refine lv_aload_n hx hb dX7_times_39 rfl (lv_at hl 0 rfl) ?_
    refine va_get (D := K.1) (ci := 6) (v := .long (mg_b0 S1)) (C := RX7) (T := TX7) (N := 24) hx hb hts in_X7_times_X7 hown hK hP 12 rfl rfl 5 (by decide) (hts (.fieldLink RX7 140 "SawSumsModel" "b0" "J") (by decide +kernel)) (fun _ h9 => h9) rfl dX7_times_40 ?_
    refine lv_iload hx hb dX7_times_43 (lv_at hl 4 rfl) ?_
    refine lv_i2l hx hb dX7_times_45 rfl ?_
    refine lv_lmul hx hb dX7_times_46 ?_
    refine lv_ladd hx hb dX7_times_47 ?_
    refine lv_aload_n hx hb dX7_times_48 rfl (lv_at hl 0 rfl) ?_
    refine va_get (D := K.1) (ci := 6) (v := .long (mg_c0 S1)) (C := RX7) (T := TX7) (N := 24) hx hb hts in_X7_times_X7 hown hK hP 12 rfl rfl 6 (by decide) (hts (.fieldLink RX7 143 "SawSumsModel" "c0" "J") (by decide +kernel)) (fun _ h9 => h9) rfl dX7_times_49 ?_
    refine lv_iload_n hx hb dX7_times_52 rfl (lv_at hl 1 rfl) ?_
    refine lv_i2l hx hb dX7_times_53 rfl ?_
    refine lv_lmul hx hb dX7_times_54 ?_
    refine lv_aload_n hx hb dX7_times_55 rfl (lv_at hl 0 rfl) ?_
    refine va_get (D := K.1) (ci := 6) (v := .long (mg_d0 S1)) (C := RX7) (T := TX7) (N := 24) hx hb hts in_X7_times_X7 hown hK hP 12 rfl rfl 7 (by decide) (hts (.fieldLink RX7 27 "SawSumsModel" "d0" "J") (by decide +kernel)) (fun _ h9 => h9) rfl dX7_times_56 ?_
    refine lv_iload_n hx hb dX7_times_59 rfl (lv_at hl 3 rfl) ?_
    refine lv_i2l hx hb dX7_times_60 rfl ?_
    refine lv_lmul hx hb dX7_times_61 ?_
    refine lv_ladd hx hb dX7_times_62 ?_
    refine lv_aload_n hx hb dX7_times_63 rfl (lv_at hl 0 rfl) ?_
    refine va_get (D := K.1) (ci := 6) (v := .long (mg_c0 S1)) (C := RX7) (T := TX7) (N := 24) hx hb hts in_X7_times_X7 hown hK hP 12 rfl rfl 6 (by decide) (hts (.fieldLink RX7 143 "SawSumsModel" "c0" "J") (by decide +kernel)) (fun _ h9 => h9) rfl dX7_times_64 ?_
    refine lv_iload_n hx hb dX7_times_67 rfl (lv_at hl 2 rfl) ?_
    refine lv_i2l hx hb dX7_times_68 rfl ?_
    refine lv_lmul hx hb dX7_times_69 ?_
    refine lv_aload_n hx hb dX7_times_70 rfl (lv_at hl 0 rfl) ?_
    refine va_get (D := K.1) (ci := 6) (v := .long (mg_d0 S1)) (C := RX7) (T := TX7) (N := 24) hx hb hts in_X7_times_X7 hown hK hP 12 rfl rfl 7 (by decide) (hts (.fieldLink RX7 27 "SawSumsModel" "d0" "J") (by decide +kernel)) (fun _ h9 => h9) rfl dX7_times_71 ?_
    refine lv_iload hx hb dX7_times_74 (lv_at hl 4 rfl) ?_
    refine lv_i2l hx hb dX7_times_76 rfl ?_
    refine lv_lmul hx hb dX7_times_77 ?_
    refine lv_ladd hx hb dX7_times_78 ?_
    obtain ⟨r4, S5, qS5, h⟩ := gn_bd2 h
    refine hc_V (rest := []) ⟨hx, hb, hml, hown, hts⟩ hN hF hK hP hD hS (c_X7_becomes l z K _ o g _ _ _ _ _ r4 S5 qS5) (cwV 4 hts gX7_times_X7_becomes rfl rfl rfl (by decide +kernel) ⟨(Nat.le_of_ble_eq_true rfl), (Nat.le_of_ble_eq_true rfl)⟩) (va_recv hK hP (ci := 6) (q0 := 12) rfl rfl) rfl hl.1 rfl (Nat.le_of_ble_eq_true rfl) dX7_times_79 hcl hsl (fun H locs hP hD hS => ?_)
    have hP : va_P K.1 vwCl (wd K C S5 o g) H := hP
    have hD : va_D (inA K) (wd K C S5 o g) := hD
    refine W.eq (g2 := F0 m 82 ls [.int r4]) rfl ?_
    refine lv_if_eq (tgt := 89) hx hb dX7_times_82 (by decide) (fun c6 => ?_) (fun c6 => ?_)
    · have h := gn_t h c6
      refine lv_iconst (v := (0 : Int32)) hx hb dX7_times_89 (by decide) ?_
      obtain ⟨rfl, rfl⟩ := Prod.mk.inj (gn_some h)
      exact W.zret (ty := .boolean) hx hb hr rfl (fun t ht _ => ⟨rfl, by rw [ht]; exact hP, hD, hS.F ht⟩) hS.2.2 dX7_times_90 hlk
    · have h := gn_f h c6
      refine lv_iconst (v := (1 : Int32)) hx hb dX7_times_85 (by decide) ?_
      refine lv_goto (tgt := 90) hx hb dX7_times_86 (by decide) ?_
      obtain ⟨rfl, rfl⟩ := Prod.mk.inj (gn_some h)
      exact W.zret (ty := .boolean) hx hb hr rfl (fun t ht _ => ⟨rfl, by rw [ht]; exact hP, hD, hS.F ht⟩) hS.2.2 dX7_times_90 hlk
theorem in_X7_invert_X7 : ∀ w ∈ wsX70, w ∈ wsX7_invert := fun _ h => List.mem_cons_of_mem _ (List.mem_append_right _ h)
def rm_X7_invert : Room := { frames := 3, cells := 0, slots := 0, locals := 74 }
section
variable {p : Program} {l : Launch} {e : Env} {s : State} {m : MethodId} {args : Array Value} {below : List Frame} {meth : Method} {c : Code} {z : Nat} {K : Ev} {C : CS} {o : Nat → Int64} {g : Gh}
end
set_option maxRecDepth 100000 in
theorem c_X7_invert (l : Launch) (z : Nat) (K : Ev) (C : CS) (o : Nat → Int64) (g : Gh)  (S : MS) (r : Int32) (S' : MS) (h : F_X7_invert z S = some (r, S')) : Met l yX7_invert wsX7_invert rm_X7_invert (qH K [.ref (K.2.2.1 12)] C S o g) (qR K (some (.int r)) C S' o g) 0 0 (inA K) := by
  refine Met.ofW (cc := cX7_invert) (maxL := 1) (ret := (some .boolean)) (by decide) rfl ?_
  intro p e s m args below meth c s₁ B hml hv
  obtain ⟨rfl, hN, hP, hK, hD, hF⟩ := hv
  have hx := B.exec
  have hb := B.bytes
  have hr := B.returns
  have hts := atoms_spec (ws := wsX7_invert) B.pre
  have hown : s.vm.findClass RX7 = some m.cls := findClass_of_methodNamed B.named
  have hlk := B.notSynchronized
  have hcl : 0 ≤ (rm_X7_invert).cells := Nat.zero_le _
  have hsl : 0 ≤ (rm_X7_invert).slots := Nat.zero_le _
  have Cc : Cx p s m _ meth c cX7_invert 1 RX7 wsX7_invert (some .boolean) := ⟨hx, hb, hml, hown, hts, hr, hlk, hN⟩
  have hS : va_S (inA K) s.heap s.heap [] := va_S.rf
  have hl := lv_entry ([.ref (K.2.2.1 12)]) (n := 1) (Nat.le_of_ble_eq_true rfl)
  rw [lg_entry_eq]
  generalize (lg_sl ([.ref (K.2.2.1 12)]) ++ List.replicate (1 - (lg_sl ([.ref (K.2.2.1 12)])).length) Slot.unset).toArray = ls at hl ⊢
  have hl : lv_has ls 1 [(0, .ref (K.2.2.1 12))] := hl
  rw [F_X7_invert] at h
  refine lv_aload_n hx hb dX7_invert_0 rfl (lv_at hl 0 rfl) ?_
  refine lv_iconst (v := (0 : Int32)) hx hb dX7_invert_1 (by decide) ?_
  obtain ⟨S1, eS1, h⟩ := gn_nm h
  refine va_put (D := K.1) (ci := 6) (v := .int (0 : Int32)) (ty := .int) (C := RX7) (T := TX7) (N := 24) hx hb hts in_X7_invert_X7 tyX7 tyX7_ok nmX7 hown hK hP hD hS 12 rfl rfl 0 (by decide) (hts (.fieldLink RX7 33 "SawSumsModel" "thrown" "I") (by decide +kernel)) (fun _ h9 => h9) rfl (by decide +kernel) rfl rfl (Nat.le_of_ble_eq_true rfl) dX7_invert_2 (fun H locs hP hD hS => ?_)
  have hP : va_P K.1 vwCl (wd K C S1 o g) H := by rw [eS1]; exact hP
  have hD : va_D (inA K) (wd K C S1 o g) := by rw [eS1]; exact hD
  refine lv_aload_n hx hb dX7_invert_5 rfl (lv_at hl 0 rfl) ?_
  refine lv_aload_n hx hb dX7_invert_6 rfl (lv_at hl 0 rfl) ?_
  refine va_get (D := K.1) (ci := 6) (v := .long (mg_d0 S1)) (C := RX7) (T := TX7) (N := 24) hx hb hts in_X7_invert_X7 hown hK hP 12 rfl rfl 7 (by decide) (hts (.fieldLink RX7 27 "SawSumsModel" "d0" "J") (by decide +kernel)) (fun _ h9 => h9) rfl dX7_invert_7 ?_
  refine lv_aload_n hx hb dX7_invert_10 rfl (lv_at hl 0 rfl) ?_
  refine va_get (D := K.1) (ci := 6) (v := .long (mg_b0 S1)) (C := RX7) (T := TX7) (N := 24) hx hb hts in_X7_invert_X7 hown hK hP 12 rfl rfl 5 (by decide) (hts (.fieldLink RX7 140 "SawSumsModel" "b0" "J") (by decide +kernel)) (fun _ h9 => h9) rfl dX7_invert_11 ?_
  refine lv_lneg hx hb dX7_invert_14 ?_
  refine lv_aload_n hx hb dX7_invert_15 rfl (lv_at hl 0 rfl) ?_
  refine va_get (D := K.1) (ci := 6) (v := .long (mg_c0 S1)) (C := RX7) (T := TX7) (N := 24) hx hb hts in_X7_invert_X7 hown hK hP 12 rfl rfl 6 (by decide) (hts (.fieldLink RX7 143 "SawSumsModel" "c0" "J") (by decide +kernel)) (fun _ h9 => h9) rfl dX7_invert_16 ?_
  refine lv_lneg hx hb dX7_invert_19 ?_
  refine lv_aload_n hx hb dX7_invert_20 rfl (lv_at hl 0 rfl) ?_
  refine va_get (D := K.1) (ci := 6) (v := .long (mg_a0 S1)) (C := RX7) (T := TX7) (N := 24) hx hb hts in_X7_invert_X7 hown hK hP 12 rfl rfl 4 (by decide) (hts (.fieldLink RX7 23 "SawSumsModel" "a0" "J") (by decide +kernel)) (fun _ h9 => h9) rfl dX7_invert_21 ?_
  obtain ⟨r2, S3, qS3, h⟩ := gn_bd2 h
  refine hc_V (rest := []) ⟨hx, hb, hml, hown, hts⟩ hN hF hK hP hD hS (c_X7_becomes l z K _ o g _ _ _ _ _ r2 S3 qS3) (cwV 4 hts gX7_invert_X7_becomes rfl rfl rfl (by decide +kernel) ⟨(Nat.le_of_ble_eq_true rfl), (Nat.le_of_ble_eq_true rfl)⟩) (va_recv hK hP (ci := 6) (q0 := 12) rfl rfl) rfl hl.1 rfl (Nat.le_of_ble_eq_true rfl) dX7_invert_24 hcl hsl (fun H locs hP hD hS => ?_)
  have hP : va_P K.1 vwCl (wd K C S3 o g) H := hP
  have hD : va_D (inA K) (wd K C S3 o g) := hD
  refine W.eq (g2 := F0 m 27 ls [.int r2]) rfl ?_
  obtain ⟨n4, h⟩ := gn_yz h
  obtain ⟨rfl, rfl⟩ := Prod.mk.inj (gn_some h)
  exact W.zret (ty := .boolean) hx hb hr (nb_ok n4) (fun t ht _ => ⟨rfl, by rw [ht]; exact hP, hD, hS.F ht⟩) hS.2.2 dX7_invert_27 hlk
theorem in_X7_phi_X7 : ∀ w ∈ wsX70, w ∈ wsX7_phi := fun _ h => List.mem_cons_of_mem _ (List.mem_append_right _ h)
def rm_X7_phi : Room := { frames := 3, cells := 0, slots := 0, locals := 89 }
section
variable {p : Program} {l : Launch} {e : Env} {s : State} {m : MethodId} {args : Array Value} {below : List Frame} {meth : Method} {c : Code} {z : Nat} {K : Ev} {C : CS} {o : Nat → Int64} {g : Gh}
end
set_option maxRecDepth 100000 in
theorem c_X7_phi (l : Launch) (z : Nat) (K : Ev) (C : CS) (o : Nat → Int64) (g : Gh)  (S : MS) (r : Int64) (S' : MS) (h : F_X7_phi z S = some (r, S')) : Met l yX7_phi wsX7_phi rm_X7_phi (qH K [.ref (K.2.2.1 12)] C S o g) (qR K (some (.long r)) C S' o g) 0 0 (inA K) := by
  refine Met.ofW (cc := cX7_phi) (maxL := 1) (ret := (some .long)) (by decide) rfl ?_
  intro p e s m args below meth c s₁ B hml hv
  obtain ⟨rfl, hN, hP, hK, hD, hF⟩ := hv
  have hx := B.exec
  have hb := B.bytes
  have hr := B.returns
  have hts := atoms_spec (ws := wsX7_phi) B.pre
  have hown : s.vm.findClass RX7 = some m.cls := findClass_of_methodNamed B.named
  have hlk := B.notSynchronized
  have hcl : 0 ≤ (rm_X7_phi).cells := Nat.zero_le _
  have hsl : 0 ≤ (rm_X7_phi).slots := Nat.zero_le _
  have Cc : Cx p s m _ meth c cX7_phi 1 RX7 wsX7_phi (some .long) := ⟨hx, hb, hml, hown, hts, hr, hlk, hN⟩
  have hS : va_S (inA K) s.heap s.heap [] := va_S.rf
  have hl := lv_entry ([.ref (K.2.2.1 12)]) (n := 1) (Nat.le_of_ble_eq_true rfl)
  rw [lg_entry_eq]
  generalize (lg_sl ([.ref (K.2.2.1 12)]) ++ List.replicate (1 - (lg_sl ([.ref (K.2.2.1 12)])).length) Slot.unset).toArray = ls at hl ⊢
  have hl : lv_has ls 1 [(0, .ref (K.2.2.1 12))] := hl
  rw [F_X7_phi] at h
  refine lv_aload_n hx hb dX7_phi_0 rfl (lv_at hl 0 rfl) ?_
  refine va_get (D := K.1) (ci := 6) (v := .long (mg_c0 S)) (C := RX7) (T := TX7) (N := 24) hx hb hts in_X7_phi_X7 hown hK hP 12 rfl rfl 6 (by decide) (hts (.fieldLink RX7 143 "SawSumsModel" "c0" "J") (by decide +kernel)) (fun _ h9 => h9) rfl dX7_phi_1 ?_
  refine lv_lconst (v := (0 : Int64)) hx hb dX7_phi_4 (by decide) ?_
  refine ll_ne (tgt := 21) hx hb dX7_phi_5 dX7_phi_6 (by decide) (fun c1 => ?_) (fun c1 => ?_)
  · have h := gn_f h c1
    refine lv_aload_n hx hb dX7_phi_21 rfl (lv_at hl 0 rfl) ?_
    refine va_get (D := K.1) (ci := 6) (v := .long (mg_a0 S)) (C := RX7) (T := TX7) (N := 24) hx hb hts in_X7_phi_X7 hown hK hP 12 rfl rfl 4 (by decide) (hts (.fieldLink RX7 23 "SawSumsModel" "a0" "J") (by decide +kernel)) (fun _ h9 => h9) rfl dX7_phi_22 ?_
    refine lv_aload_n hx hb dX7_phi_25 rfl (lv_at hl 0 rfl) ?_
    refine va_get (D := K.1) (ci := 6) (v := .long (mg_d0 S)) (C := RX7) (T := TX7) (N := 24) hx hb hts in_X7_phi_X7 hown hK hP 12 rfl rfl 7 (by decide) (hts (.fieldLink RX7 27 "SawSumsModel" "d0" "J") (by decide +kernel)) (fun _ h9 => h9) rfl dX7_phi_26 ?_
    refine lv_ladd hx hb dX7_phi_29 ?_
    refine lv_aload_n hx hb dX7_phi_30 rfl (lv_at hl 0 rfl) ?_
    refine va_get (D := K.1) (ci := 6) (v := .long (mg_d0 S)) (C := RX7) (T := TX7) (N := 24) hx hb hts in_X7_phi_X7 hown hK hP 12 rfl rfl 7 (by decide) (hts (.fieldLink RX7 27 "SawSumsModel" "d0" "J") (by decide +kernel)) (fun _ h9 => h9) rfl dX7_phi_31 ?_
    refine lv_aload_n hx hb dX7_phi_34 rfl (lv_at hl 0 rfl) ?_
    refine va_get (D := K.1) (ci := 6) (v := .long (mg_c0 S)) (C := RX7) (T := TX7) (N := 24) hx hb hts in_X7_phi_X7 hown hK hP 12 rfl rfl 6 (by decide) (hts (.fieldLink RX7 143 "SawSumsModel" "c0" "J") (by decide +kernel)) (fun _ h9 => h9) rfl dX7_phi_35 ?_
    obtain ⟨r2, qr2, h⟩ := gn_bd h
    refine pc_S (rest := [.long (mg_d0 S), .long ((mg_a0 S) + (mg_d0 S))]) ⟨hx, hb, hml, hown, hts⟩ hN (c_X7_size l z _ r2 qr2) (va_cwS 1 hts gX7_phi_X7_size rfl rfl rfl (by decide +kernel) ⟨(Nat.le_of_ble_eq_true rfl), (Nat.le_of_ble_eq_true rfl)⟩) rfl hl.1 rfl (Nat.le_of_ble_eq_true rfl) dX7_phi_38 hcl hsl ?_
    obtain ⟨r3, qr3, h⟩ := gn_bd h
    refine pc_S (rest := [.long ((mg_a0 S) + (mg_d0 S))]) ⟨hx, hb, hml, hown, hts⟩ hN (c_X7_twelve l z _ _ r3 qr3) (va_cwS 2 hts gX7_phi_X7_twelve rfl rfl rfl (by decide +kernel) ⟨(Nat.le_of_ble_eq_true rfl), (Nat.le_of_ble_eq_true rfl)⟩) rfl hl.1 rfl (Nat.le_of_ble_eq_true rfl) dX7_phi_41 hcl hsl ?_
    refine lv_lsub hx hb dX7_phi_44 ?_
    refine lv_aload_n hx hb dX7_phi_45 rfl (lv_at hl 0 rfl) ?_
    refine va_get (D := K.1) (ci := 6) (v := .long (mg_c0 S)) (C := RX7) (T := TX7) (N := 24) hx hb hts in_X7_phi_X7 hown hK hP 12 rfl rfl 6 (by decide) (hts (.fieldLink RX7 143 "SawSumsModel" "c0" "J") (by decide +kernel)) (fun _ h9 => h9) rfl dX7_phi_46 ?_
    obtain ⟨n4, h⟩ := gn_nz h
    refine lv_ldiv hx hb dX7_phi_49 n4 ?_
    obtain ⟨rfl, rfl⟩ := Prod.mk.inj (gn_some h)
    exact W.lret hx hb hr (fun t ht _ => ⟨rfl, by rw [ht]; exact hP, hD, hS.F ht⟩) hS.2.2 dX7_phi_50 hlk
  · have h := gn_t h c1
    refine lv_aload_n hx hb dX7_phi_9 rfl (lv_at hl 0 rfl) ?_
    refine va_get (D := K.1) (ci := 6) (v := .long (mg_b0 S)) (C := RX7) (T := TX7) (N := 24) hx hb hts in_X7_phi_X7 hown hK hP 12 rfl rfl 5 (by decide) (hts (.fieldLink RX7 140 "SawSumsModel" "b0" "J") (by decide +kernel)) (fun _ h9 => h9) rfl dX7_phi_10 ?_
    refine lv_aload_n hx hb dX7_phi_13 rfl (lv_at hl 0 rfl) ?_
    refine va_get (D := K.1) (ci := 6) (v := .long (mg_d0 S)) (C := RX7) (T := TX7) (N := 24) hx hb hts in_X7_phi_X7 hown hK hP 12 rfl rfl 7 (by decide) (hts (.fieldLink RX7 27 "SawSumsModel" "d0" "J") (by decide +kernel)) (fun _ h9 => h9) rfl dX7_phi_14 ?_
    refine lv_lmul hx hb dX7_phi_17 ?_
    refine lv_goto (tgt := 50) hx hb dX7_phi_18 (by decide) ?_
    obtain ⟨rfl, rfl⟩ := Prod.mk.inj (gn_some h)
    exact W.lret hx hb hr (fun t ht _ => ⟨rfl, by rw [ht]; exact hP, hD, hS.F ht⟩) hS.2.2 dX7_phi_50 hlk
theorem in_X7_phi__X7 : ∀ w ∈ wsX70, w ∈ wsX7_phi_ := fun _ h => List.mem_cons_of_mem _ (List.mem_append_right _ h)
def rm_X7_phi_ : Room := { frames := 4, cells := 0, slots := 0, locals := 109 }
section
variable {p : Program} {l : Launch} {e : Env} {s : State} {m : MethodId} {args : Array Value} {below : List Frame} {meth : Method} {c : Code} {z : Nat} {K : Ev} {C : CS} {o : Nat → Int64} {g : Gh}
end
set_option maxRecDepth 100000 in
theorem c_X7_phi_ (l : Launch) (z : Nat) (K : Ev) (C : CS) (o : Nat → Int64) (g : Gh) (a0 : Int32) (S : MS) (r : Int64) (S' : MS) (h : F_X7_phi_ z a0 S = some (r, S')) : Met l yX7_phi_ wsX7_phi_ rm_X7_phi_ (qH K [.ref (K.2.2.1 12), .int a0] C S o g) (qR K (some (.long r)) C S' o g) 0 0 (inA K) := by
  refine Met.ofW (cc := cX7_phi_) (maxL := 2) (ret := (some .long)) (by decide) rfl ?_
  intro p e s m args below meth c s₁ B hml hv
  obtain ⟨rfl, hN, hP, hK, hD, hF⟩ := hv
  have hx := B.exec
  have hb := B.bytes
  have hr := B.returns
  have hts := atoms_spec (ws := wsX7_phi_) B.pre
  have hown : s.vm.findClass RX7 = some m.cls := findClass_of_methodNamed B.named
  have hlk := B.notSynchronized
  have hcl : 0 ≤ (rm_X7_phi_).cells := Nat.zero_le _
  have hsl : 0 ≤ (rm_X7_phi_).slots := Nat.zero_le _
  have Cc : Cx p s m _ meth c cX7_phi_ 2 RX7 wsX7_phi_ (some .long) := ⟨hx, hb, hml, hown, hts, hr, hlk, hN⟩
  have hS : va_S (inA K) s.heap s.heap [] := va_S.rf
  have hl := lv_entry ([.ref (K.2.2.1 12), .int a0]) (n := 2) (Nat.le_of_ble_eq_true rfl)
  rw [lg_entry_eq]
  generalize (lg_sl ([.ref (K.2.2.1 12), .int a0]) ++ List.replicate (2 - (lg_sl ([.ref (K.2.2.1 12), .int a0])).length) Slot.unset).toArray = ls at hl ⊢
  have hl : lv_has ls 2 [(0, .ref (K.2.2.1 12)), (1, .int a0)] := hl
  rw [F_X7_phi_] at h
  refine lv_aload_n hx hb dX7_phi__0 rfl (lv_at hl 0 rfl) ?_
  refine lv_iconst (v := (0 : Int32)) hx hb dX7_phi__1 (by decide) ?_
  obtain ⟨S1, eS1, h⟩ := gn_nm h
  refine va_put (D := K.1) (ci := 6) (v := .int (0 : Int32)) (ty := .int) (C := RX7) (T := TX7) (N := 24) hx hb hts in_X7_phi__X7 tyX7 tyX7_ok nmX7 hown hK hP hD hS 12 rfl rfl 0 (by decide) (hts (.fieldLink RX7 33 "SawSumsModel" "thrown" "I") (by decide +kernel)) (fun _ h9 => h9) rfl (by decide +kernel) rfl rfl (Nat.le_of_ble_eq_true rfl) dX7_phi__2 (fun H locs hP hD hS => ?_)
  have hP : va_P K.1 vwCl (wd K C S1 o g) H := by rw [eS1]; exact hP
  have hD : va_D (inA K) (wd K C S1 o g) := by rw [eS1]; exact hD
  refine lv_iload_n hx hb dX7_phi__5 rfl (lv_at hl 1 rfl) ?_
  refine lv_if_ne (tgt := 16) hx hb dX7_phi__6 (by decide) (fun c2 => ?_) (fun c2 => ?_)
  · have h := gn_f h c2
    refine lv_iload_n hx hb dX7_phi__16 rfl (lv_at hl 1 rfl) ?_
    refine lv_iconst (v := (1 : Int32)) hx hb dX7_phi__17 (by decide) ?_
    refine lv_icmp_ne (tgt := 53) hx hb dX7_phi__18 (by decide) (fun c3 => ?_) (fun c3 => ?_)
    · have h := gn_f h c3
      refine lv_ldc2 hx hb hown (hts (.constantLong RX7 76 (-4000000000000000000)) (by decide +kernel)) dX7_phi__53 ?_
      obtain ⟨rfl, rfl⟩ := Prod.mk.inj (gn_some h)
      exact W.lret hx hb hr (fun t ht _ => ⟨rfl, by rw [ht]; exact hP, hD, hS.F ht⟩) hS.2.2 dX7_phi__56 hlk
    · have h := gn_t h c3
      refine lv_aload_n hx hb dX7_phi__21 rfl (lv_at hl 0 rfl) ?_
      obtain ⟨r4, S5, qS5, h⟩ := gn_bd2 h
      refine hc_V (rest := []) ⟨hx, hb, hml, hown, hts⟩ hN hF hK hP hD hS (c_X7_phi l z K _ o g  _ r4 S5 qS5) (cwV 0 hts gX7_phi__X7_phi rfl rfl rfl (by decide +kernel) ⟨(Nat.le_of_ble_eq_true rfl), (Nat.le_of_ble_eq_true rfl)⟩) (va_recv hK hP (ci := 6) (q0 := 12) rfl rfl) rfl hl.1 rfl (Nat.le_of_ble_eq_true rfl) dX7_phi__22 hcl hsl (fun H locs hP hD hS => ?_)
      have hP : va_P K.1 vwCl (wd K C S5 o g) H := hP
      have hD : va_D (inA K) (wd K C S5 o g) := hD
      refine W.eq (g2 := F0 m 25 ls [.long r4]) rfl ?_
      refine lv_ldc2 hx hb hown (hts (.constantLong RX7 57 (3)) (by decide +kernel)) dX7_phi__25 ?_
      refine lv_aload_n hx hb dX7_phi__28 rfl (lv_at hl 0 rfl) ?_
      refine va_get (D := K.1) (ci := 6) (v := .long (mg_c0 S5)) (C := RX7) (T := TX7) (N := 24) hx hb hts in_X7_phi__X7 hown hK hP 12 rfl rfl 6 (by decide) (hts (.fieldLink RX7 143 "SawSumsModel" "c0" "J") (by decide +kernel)) (fun _ h9 => h9) rfl dX7_phi__29 ?_
      obtain ⟨r6, qr6, h⟩ := gn_bd h
      refine pc_S (rest := [.long (3 : Int64), .long r4]) ⟨hx, hb, hml, hown, hts⟩ hN (c_X7_signOf l z _ r6 qr6) (va_cwS 1 hts gX7_phi__X7_signOf rfl rfl rfl (by decide +kernel) ⟨(Nat.le_of_ble_eq_true rfl), (Nat.le_of_ble_eq_true rfl)⟩) rfl hl.1 rfl (Nat.le_of_ble_eq_true rfl) dX7_phi__32 hcl hsl ?_
      refine lv_lmul hx hb dX7_phi__35 ?_
      refine lv_aload_n hx hb dX7_phi__36 rfl (lv_at hl 0 rfl) ?_
      refine va_get (D := K.1) (ci := 6) (v := .long (mg_a0 S5)) (C := RX7) (T := TX7) (N := 24) hx hb hts in_X7_phi__X7 hown hK hP 12 rfl rfl 4 (by decide) (hts (.fieldLink RX7 23 "SawSumsModel" "a0" "J") (by decide +kernel)) (fun _ h9 => h9) rfl dX7_phi__37 ?_
      refine lv_aload_n hx hb dX7_phi__40 rfl (lv_at hl 0 rfl) ?_
      refine va_get (D := K.1) (ci := 6) (v := .long (mg_d0 S5)) (C := RX7) (T := TX7) (N := 24) hx hb hts in_X7_phi__X7 hown hK hP 12 rfl rfl 7 (by decide) (hts (.fieldLink RX7 27 "SawSumsModel" "d0" "J") (by decide +kernel)) (fun _ h9 => h9) rfl dX7_phi__41 ?_
      refine lv_ladd hx hb dX7_phi__44 ?_
      obtain ⟨r7, qr7, h⟩ := gn_bd h
      refine pc_S (rest := [.long ((3 : Int64) * r6), .long r4]) ⟨hx, hb, hml, hown, hts⟩ hN (c_X7_signOf l z _ r7 qr7) (va_cwS 1 hts gX7_phi__X7_signOf rfl rfl rfl (by decide +kernel) ⟨(Nat.le_of_ble_eq_true rfl), (Nat.le_of_ble_eq_true rfl)⟩) rfl hl.1 rfl (Nat.le_of_ble_eq_true rfl) dX7_phi__45 hcl hsl ?_
      refine lv_lmul hx hb dX7_phi__48 ?_
      refine lv_lsub hx hb dX7_phi__49 ?_
      refine lv_goto (tgt := 56) hx hb dX7_phi__50 (by decide) ?_
      obtain ⟨rfl, rfl⟩ := Prod.mk.inj (gn_some h)
      exact W.lret hx hb hr (fun t ht _ => ⟨rfl, by rw [ht]; exact hP, hD, hS.F ht⟩) hS.2.2 dX7_phi__56 hlk
  · have h := gn_t h c2
    refine lv_aload_n hx hb dX7_phi__9 rfl (lv_at hl 0 rfl) ?_
    obtain ⟨r8, S9, qS9, h⟩ := gn_bd2 h
    refine hc_V (rest := []) ⟨hx, hb, hml, hown, hts⟩ hN hF hK hP hD hS (c_X7_phi l z K _ o g  _ r8 S9 qS9) (cwV 0 hts gX7_phi__X7_phi rfl rfl rfl (by decide +kernel) ⟨(Nat.le_of_ble_eq_true rfl), (Nat.le_of_ble_eq_true rfl)⟩) (va_recv hK hP (ci := 6) (q0 := 12) rfl rfl) rfl hl.1 rfl (Nat.le_of_ble_eq_true rfl) dX7_phi__10 hcl hsl (fun H locs hP hD hS => ?_)
    have hP : va_P K.1 vwCl (wd K C S9 o g) H := hP
    have hD : va_D (inA K) (wd K C S9 o g) := hD
    refine W.eq (g2 := F0 m 13 ls [.long r8]) rfl ?_
    refine lv_goto (tgt := 56) hx hb dX7_phi__13 (by decide) ?_
    obtain ⟨rfl, rfl⟩ := Prod.mk.inj (gn_some h)
    exact W.lret hx hb hr (fun t ht _ => ⟨rfl, by rw [ht]; exact hP, hD, hS.F ht⟩) hS.2.2 dX7_phi__56 hlk
theorem in_X7_kind_X7 : ∀ w ∈ wsX70, w ∈ wsX7_kind := fun _ h => List.mem_cons_of_mem _ (List.mem_append_right _ h)
def rm_X7_kind : Room := { frames := 1, cells := 0, slots := 0, locals := 21 }
section
variable {p : Program} {l : Launch} {e : Env} {s : State} {m : MethodId} {args : Array Value} {below : List Frame} {meth : Method} {c : Code} {z : Nat} {K : Ev} {C : CS} {o : Nat → Int64} {g : Gh}
end
set_option maxRecDepth 100000 in
theorem c_X7_kind (l : Launch) (z : Nat) (K : Ev) (C : CS) (o : Nat → Int64) (g : Gh)  (S : MS) (r : Int32) (S' : MS) (h : F_X7_kind z S = some (r, S')) : Met l yX7_kind wsX7_kind rm_X7_kind (qH K [.ref (K.2.2.1 12)] C S o g) (qR K (some (.int r)) C S' o g) 0 0 (inA K) := by
  refine Met.ofW (cc := cX7_kind) (maxL := 3) (ret := (some .int)) (by decide) rfl ?_
  intro p e s m args below meth c s₁ B hml hv
  obtain ⟨rfl, hN, hP, hK, hD, hF⟩ := hv
  have hx := B.exec
  have hb := B.bytes
  have hr := B.returns
  have hts := atoms_spec (ws := wsX7_kind) B.pre
  have hown : s.vm.findClass RX7 = some m.cls := findClass_of_methodNamed B.named
  have hlk := B.notSynchronized
  have hcl : 0 ≤ (rm_X7_kind).cells := Nat.zero_le _
  have hsl : 0 ≤ (rm_X7_kind).slots := Nat.zero_le _
  have Cc : Cx p s m _ meth c cX7_kind 3 RX7 wsX7_kind (some .int) := ⟨hx, hb, hml, hown, hts, hr, hlk, hN⟩
  have hS : va_S (inA K) s.heap s.heap [] := va_S.rf
  have hl := lv_entry ([.ref (K.2.2.1 12)]) (n := 3) (Nat.le_of_ble_eq_true rfl)
  rw [lg_entry_eq]
  generalize (lg_sl ([.ref (K.2.2.1 12)]) ++ List.replicate (3 - (lg_sl ([.ref (K.2.2.1 12)])).length) Slot.unset).toArray = ls at hl ⊢
  have hl : lv_has ls 3 [(0, .ref (K.2.2.1 12))] := hl
  rw [F_X7_kind] at h
  refine lv_aload_n hx hb dX7_kind_0 rfl (lv_at hl 0 rfl) ?_
  refine lv_iconst (v := (0 : Int32)) hx hb dX7_kind_1 (by decide) ?_
  obtain ⟨S1, eS1, h⟩ := gn_nm h
  refine va_put (D := K.1) (ci := 6) (v := .int (0 : Int32)) (ty := .int) (C := RX7) (T := TX7) (N := 24) hx hb hts in_X7_kind_X7 tyX7 tyX7_ok nmX7 hown hK hP hD hS 12 rfl rfl 0 (by decide) (hts (.fieldLink RX7 33 "SawSumsModel" "thrown" "I") (by decide +kernel)) (fun _ h9 => h9) rfl (by decide +kernel) rfl rfl (Nat.le_of_ble_eq_true rfl) dX7_kind_2 (fun H locs hP hD hS => ?_)
  have hP : va_P K.1 vwCl (wd K C S1 o g) H := by rw [eS1]; exact hP
  have hD : va_D (inA K) (wd K C S1 o g) := by rw [eS1]; exact hD
  refine lv_aload_n hx hb dX7_kind_5 rfl (lv_at hl 0 rfl) ?_
  refine va_get (D := K.1) (ci := 6) (v := .long (mg_a0 S1)) (C := RX7) (T := TX7) (N := 24) hx hb hts in_X7_kind_X7 hown hK hP 12 rfl rfl 4 (by decide) (hts (.fieldLink RX7 23 "SawSumsModel" "a0" "J") (by decide +kernel)) (fun _ h9 => h9) rfl dX7_kind_6 ?_
  refine lv_aload_n hx hb dX7_kind_9 rfl (lv_at hl 0 rfl) ?_
  refine va_get (D := K.1) (ci := 6) (v := .long (mg_d0 S1)) (C := RX7) (T := TX7) (N := 24) hx hb hts in_X7_kind_X7 hown hK hP 12 rfl rfl 7 (by decide) (hts (.fieldLink RX7 27 "SawSumsModel" "d0" "J") (by decide +kernel)) (fun _ h9 => h9) rfl dX7_kind_10 ?_
  refine lv_ladd hx hb dX7_kind_13 ?_
  obtain ⟨r2, qr2, h⟩ := gn_bd h
  refine pc_S (rest := []) ⟨hx, hb, hml, hown, hts⟩ hN (c_X7_size l z _ r2 qr2) (va_cwS 1 hts gX7_kind_X7_size rfl rfl rfl (by decide +kernel) ⟨(Nat.le_of_ble_eq_true rfl), (Nat.le_of_ble_eq_true rfl)⟩) rfl hl.1 rfl (Nat.le_of_ble_eq_true rfl) dX7_kind_14 hcl hsl ?_
  refine lv_lstore_n (lv' := [(1, .long r2), (0, .ref (K.2.2.1 12))]) hx hb dX7_kind_17 rfl hl (by decide) rfl (fun ls hl => ?_)
  refine lv_lload_n hx hb dX7_kind_18 rfl (lv_at hl 0 rfl) ?_
  refine lv_ldc2 hx hb hown (hts (.constantLong RX7 85 (2)) (by decide +kernel)) dX7_kind_19 ?_
  refine ll_ge (tgt := 30) hx hb dX7_kind_22 dX7_kind_23 (by decide) (fun c3 => ?_) (fun c3 => ?_)
  · have h := gn_t h c3
    refine lv_lload_n hx hb dX7_kind_30 rfl (lv_at hl 0 rfl) ?_
    refine lv_ldc2 hx hb hown (hts (.constantLong RX7 85 (2)) (by decide +kernel)) dX7_kind_31 ?_
    refine ll_ne (tgt := 42) hx hb dX7_kind_34 dX7_kind_35 (by decide) (fun c4 => ?_) (fun c4 => ?_)
    · have h := gn_f h c4
      refine lv_iconst (v := (2 : Int32)) hx hb dX7_kind_42 (by decide) ?_
      obtain ⟨rfl, rfl⟩ := Prod.mk.inj (gn_some h)
      exact W.iret hx hb hr (fun t ht _ => ⟨rfl, by rw [ht]; exact hP, hD, hS.F ht⟩) hS.2.2 dX7_kind_43 hlk
    · have h := gn_t h c4
      refine lv_iconst (v := (1 : Int32)) hx hb dX7_kind_38 (by decide) ?_
      refine lv_goto (tgt := 43) hx hb dX7_kind_39 (by decide) ?_
      obtain ⟨rfl, rfl⟩ := Prod.mk.inj (gn_some h)
      exact W.iret hx hb hr (fun t ht _ => ⟨rfl, by rw [ht]; exact hP, hD, hS.F ht⟩) hS.2.2 dX7_kind_43 hlk
  · have h := gn_f h c3
    refine lv_iconst (v := (0 : Int32)) hx hb dX7_kind_26 (by decide) ?_
    refine lv_goto (tgt := 43) hx hb dX7_kind_27 (by decide) ?_
    obtain ⟨rfl, rfl⟩ := Prod.mk.inj (gn_some h)
    exact W.iret hx hb hr (fun t ht _ => ⟨rfl, by rw [ht]; exact hP, hD, hS.F ht⟩) hS.2.2 dX7_kind_43 hlk
theorem in_X7_order_X7 : ∀ w ∈ wsX70, w ∈ wsX7_order := fun _ h => List.mem_cons_of_mem _ (List.mem_append_right _ h)
def rm_X7_order : Room := { frames := 1, cells := 0, slots := 0, locals := 21 }
section
variable {p : Program} {l : Launch} {e : Env} {s : State} {m : MethodId} {args : Array Value} {below : List Frame} {meth : Method} {c : Code} {z : Nat} {K : Ev} {C : CS} {o : Nat → Int64} {g : Gh}
set_option maxRecDepth 100000 in
theorem w_X7_order_56 (Cc : Cx p s m args meth c cX7_order 3 RX7 wsX7_order (some .int)) (hK : va_K K.1 vwCl (tysOf K) s) (hF : SF K s) {r : Int32} {S' : MS} : ∀ (x1 : Int64) (S : MS) (H : Heap) (locs : List Loc), va_P K.1 vwCl (wd K C S o g) H → va_D (inA K) (wd K C S o g) → va_S (inA K) s.heap H locs → G_X7_order_56 z x1 S = some (r, S') → ∀ ls, lv_has ls 3 [(1, .long x1)] → W p l e rm_X7_order s m args below meth c H locs 0 0 (MQ below (qR K (some (.int r)) C S' o g) args s 0 0 (inA K)) (F0 m 56 ls []) := by
  obtain ⟨hx, hb, hml, hown, hts, hr, hlk, hN⟩ := id Cc
  have hcl : 0 ≤ (rm_X7_order).cells := Nat.zero_le _
  have hsl : 0 ≤ (rm_X7_order).slots := Nat.zero_le _
  intro x1 S H locs hP hD hS h ls hl
  rw [G_X7_order_56] at h
  refine lv_lload_n hx hb dX7_order_56 rfl (lv_at hl 0 rfl) ?_
  refine lv_lconst (v := (0 : Int64)) hx hb dX7_order_57 (by decide) ?_
  refine ll_ne (tgt := 66) hx hb dX7_order_58 dX7_order_59 (by decide) (fun c1 => ?_) (fun c1 => ?_)
  · have h := gn_f h c1
    refine lv_lload_n hx hb dX7_order_66 rfl (lv_at hl 0 rfl) ?_
    refine lv_lconst (v := (1 : Int64)) hx hb dX7_order_67 (by decide) ?_
    refine ll_ne (tgt := 77) hx hb dX7_order_68 dX7_order_69 (by decide) (fun c2 => ?_) (fun c2 => ?_)
    · have h := gn_f h c2
      refine lv_lload_n hx hb dX7_order_77 rfl (lv_at hl 0 rfl) ?_
      refine lv_ldc2 hx hb hown (hts (.constantLong RX7 154 (-1)) (by decide +kernel)) dX7_order_78 ?_
      refine ll_ne (tgt := 89) hx hb dX7_order_81 dX7_order_82 (by decide) (fun c3 => ?_) (fun c3 => ?_)
      · have h := gn_f h c3
        refine lv_iconst (v := (-1 : Int32)) hx hb dX7_order_89 (by decide) ?_
        obtain ⟨rfl, rfl⟩ := Prod.mk.inj (gn_some h)
        exact W.iret hx hb hr (fun t ht _ => ⟨rfl, by rw [ht]; exact hP, hD, hS.F ht⟩) hS.2.2 dX7_order_90 hlk
      · have h := gn_t h c3
        refine lv_iconst (v := (3 : Int32)) hx hb dX7_order_85 (by decide) ?_
        refine lv_goto (tgt := 90) hx hb dX7_order_86 (by decide) ?_
        obtain ⟨rfl, rfl⟩ := Prod.mk.inj (gn_some h)
        exact W.iret hx hb hr (fun t ht _ => ⟨rfl, by rw [ht]; exact hP, hD, hS.F ht⟩) hS.2.2 dX7_order_90 hlk
    · have h := gn_t h c2
      refine lv_bipush (v := (6 : Int32)) hx hb dX7_order_72 (by decide) ?_
      refine lv_goto (tgt := 90) hx hb dX7_order_74 (by decide) ?_
      obtain ⟨rfl, rfl⟩ := Prod.mk.inj (gn_some h)
      exact W.iret hx hb hr (fun t ht _ => ⟨rfl, by rw [ht]; exact hP, hD, hS.F ht⟩) hS.2.2 dX7_order_90 hlk
  · have h := gn_t h c1
    refine lv_iconst (v := (4 : Int32)) hx hb dX7_order_62 (by decide) ?_
    refine lv_goto (tgt := 90) hx hb dX7_order_63 (by decide) ?_
    obtain ⟨rfl, rfl⟩ := Prod.mk.inj (gn_some h)
    exact W.iret hx hb hr (fun t ht _ => ⟨rfl, by rw [ht]; exact hP, hD, hS.F ht⟩) hS.2.2 dX7_order_90 hlk
end
set_option maxRecDepth 100000 in
theorem c_X7_order (l : Launch) (z : Nat) (K : Ev) (C : CS) (o : Nat → Int64) (g : Gh)  (S : MS) (r : Int32) (S' : MS) (h : F_X7_order z S = some (r, S')) : Met l yX7_order wsX7_order rm_X7_order (qH K [.ref (K.2.2.1 12)] C S o g) (qR K (some (.int r)) C S' o g) 0 0 (inA K) := by
  refine Met.ofW (cc := cX7_order) (maxL := 3) (ret := (some .int)) (by decide) rfl ?_
  intro p e s m args below meth c s₁ B hml hv
  obtain ⟨rfl, hN, hP, hK, hD, hF⟩ := hv
  have hx := B.exec
  have hb := B.bytes
  have hr := B.returns
  have hts := atoms_spec (ws := wsX7_order) B.pre
  have hown : s.vm.findClass RX7 = some m.cls := findClass_of_methodNamed B.named
  have hlk := B.notSynchronized
  have hcl : 0 ≤ (rm_X7_order).cells := Nat.zero_le _
  have hsl : 0 ≤ (rm_X7_order).slots := Nat.zero_le _
  have Cc : Cx p s m _ meth c cX7_order 3 RX7 wsX7_order (some .int) := ⟨hx, hb, hml, hown, hts, hr, hlk, hN⟩
  have hS : va_S (inA K) s.heap s.heap [] := va_S.rf
  have hl := lv_entry ([.ref (K.2.2.1 12)]) (n := 3) (Nat.le_of_ble_eq_true rfl)
  rw [lg_entry_eq]
  generalize (lg_sl ([.ref (K.2.2.1 12)]) ++ List.replicate (3 - (lg_sl ([.ref (K.2.2.1 12)])).length) Slot.unset).toArray = ls at hl ⊢
  have hl : lv_has ls 3 [(0, .ref (K.2.2.1 12))] := hl
  rw [F_X7_order] at h
  refine lv_aload_n hx hb dX7_order_0 rfl (lv_at hl 0 rfl) ?_
  refine lv_iconst (v := (0 : Int32)) hx hb dX7_order_1 (by decide) ?_
  obtain ⟨S1, eS1, h⟩ := gn_nm h
  refine va_put (D := K.1) (ci := 6) (v := .int (0 : Int32)) (ty := .int) (C := RX7) (T := TX7) (N := 24) hx hb hts in_X7_order_X7 tyX7 tyX7_ok nmX7 hown hK hP hD hS 12 rfl rfl 0 (by decide) (hts (.fieldLink RX7 33 "SawSumsModel" "thrown" "I") (by decide +kernel)) (fun _ h9 => h9) rfl (by decide +kernel) rfl rfl (Nat.le_of_ble_eq_true rfl) dX7_order_2 (fun H locs hP hD hS => ?_)
  have hP : va_P K.1 vwCl (wd K C S1 o g) H := by rw [eS1]; exact hP
  have hD : va_D (inA K) (wd K C S1 o g) := by rw [eS1]; exact hD
  refine lv_aload_n hx hb dX7_order_5 rfl (lv_at hl 0 rfl) ?_
  refine va_get (D := K.1) (ci := 6) (v := .long (mg_a0 S1)) (C := RX7) (T := TX7) (N := 24) hx hb hts in_X7_order_X7 hown hK hP 12 rfl rfl 4 (by decide) (hts (.fieldLink RX7 23 "SawSumsModel" "a0" "J") (by decide +kernel)) (fun _ h9 => h9) rfl dX7_order_6 ?_
  refine lv_aload_n hx hb dX7_order_9 rfl (lv_at hl 0 rfl) ?_
  refine va_get (D := K.1) (ci := 6) (v := .long (mg_d0 S1)) (C := RX7) (T := TX7) (N := 24) hx hb hts in_X7_order_X7 hown hK hP 12 rfl rfl 7 (by decide) (hts (.fieldLink RX7 27 "SawSumsModel" "d0" "J") (by decide +kernel)) (fun _ h9 => h9) rfl dX7_order_10 ?_
  refine lv_ladd hx hb dX7_order_13 ?_
  obtain ⟨v2, ev2, h⟩ := gn_nm h
  refine ln_l ev2 ?_
  refine lv_lstore_n (lv' := [(1, .long v2), (0, .ref (K.2.2.1 12))]) hx hb dX7_order_14 rfl hl (by decide) rfl (fun ls hl => ?_)
  refine lv_aload_n hx hb dX7_order_15 rfl (lv_at hl 1 rfl) ?_
  refine va_get (D := K.1) (ci := 6) (v := .long (mg_b0 S1)) (C := RX7) (T := TX7) (N := 24) hx hb hts in_X7_order_X7 hown hK hP 12 rfl rfl 5 (by decide) (hts (.fieldLink RX7 140 "SawSumsModel" "b0" "J") (by decide +kernel)) (fun _ h9 => h9) rfl dX7_order_16 ?_
  refine lv_lconst (v := (0 : Int64)) hx hb dX7_order_19 (by decide) ?_
  refine ll_ne (tgt := 56) hx hb dX7_order_20 dX7_order_21 (by decide) (fun c3 => ?_) (fun c3 => ?_)
  · have h := gn_f h c3
    exact w_X7_order_56 Cc hK hF v2 S1 _ _ hP hD hS h ls (lv_sub hl [0] rfl)
  · have h := gn_t h c3
    refine lv_aload_n hx hb dX7_order_24 rfl (lv_at hl 1 rfl) ?_
    refine va_get (D := K.1) (ci := 6) (v := .long (mg_c0 S1)) (C := RX7) (T := TX7) (N := 24) hx hb hts in_X7_order_X7 hown hK hP 12 rfl rfl 6 (by decide) (hts (.fieldLink RX7 143 "SawSumsModel" "c0" "J") (by decide +kernel)) (fun _ h9 => h9) rfl dX7_order_25 ?_
    refine lv_lconst (v := (0 : Int64)) hx hb dX7_order_28 (by decide) ?_
    refine ll_ne (tgt := 56) hx hb dX7_order_29 dX7_order_30 (by decide) (fun c4 => ?_) (fun c4 => ?_)
    · have h := gn_f h c4
      exact w_X7_order_56 Cc hK hF v2 S1 _ _ hP hD hS h ls (lv_sub hl [0] rfl)
    · have h := gn_t h c4
      refine lv_lload_n hx hb dX7_order_33 rfl (lv_at hl 0 rfl) ?_
      obtain ⟨r5, qr5, h⟩ := gn_bd h
      refine pc_S (rest := []) ⟨hx, hb, hml, hown, hts⟩ hN (c_X7_size l z _ r5 qr5) (va_cwS 1 hts gX7_order_X7_size rfl rfl rfl (by decide +kernel) ⟨(Nat.le_of_ble_eq_true rfl), (Nat.le_of_ble_eq_true rfl)⟩) rfl hl.1 rfl (Nat.le_of_ble_eq_true rfl) dX7_order_34 hcl hsl ?_
      refine lv_ldc2 hx hb hown (hts (.constantLong RX7 85 (2)) (by decide +kernel)) dX7_order_37 ?_
      refine ll_ne (tgt := 56) hx hb dX7_order_40 dX7_order_41 (by decide) (fun c6 => ?_) (fun c6 => ?_)
      · have h := gn_f h c6
        exact w_X7_order_56 Cc hK hF v2 S1 _ _ hP hD hS h ls (lv_sub hl [0] rfl)
      · have h := gn_t h c6
        refine lv_lload_n hx hb dX7_order_44 rfl (lv_at hl 0 rfl) ?_
        refine lv_lconst (v := (0 : Int64)) hx hb dX7_order_45 (by decide) ?_
        refine ll_le (tgt := 54) hx hb dX7_order_46 dX7_order_47 (by decide) (fun c7 => ?_) (fun c7 => ?_)
        · have h := gn_t h c7
          refine lv_iconst (v := (2 : Int32)) hx hb dX7_order_54 (by decide) ?_
          obtain ⟨rfl, rfl⟩ := Prod.mk.inj (gn_some h)
          exact W.iret hx hb hr (fun t ht _ => ⟨rfl, by rw [ht]; exact hP, hD, hS.F ht⟩) hS.2.2 dX7_order_55 hlk
        · have h := gn_f h c7
          refine lv_iconst (v := (1 : Int32)) hx hb dX7_order_50 (by decide) ?_
          refine lv_goto (tgt := 55) hx hb dX7_order_51 (by decide) ?_
          obtain ⟨rfl, rfl⟩ := Prod.mk.inj (gn_some h)
          exact W.iret hx hb hr (fun t ht _ => ⟨rfl, by rw [ht]; exact hP, hD, hS.F ht⟩) hS.2.2 dX7_order_55 hlk
theorem in_X7_word_X7 : ∀ w ∈ wsX70, w ∈ wsX7_word := fun _ h => List.mem_cons_of_mem _ (List.mem_append_right _ h)
def rm_X7_word : Room := { frames := 1, cells := 0, slots := 0, locals := 25 }
section
variable {p : Program} {l : Launch} {e : Env} {s : State} {m : MethodId} {args : Array Value} {below : List Frame} {meth : Method} {c : Code} {z : Nat} {K : Ev} {C : CS} {o : Nat → Int64} {g : Gh}
set_option maxRecDepth 100000 in
theorem w_X7_word_40 (Cc : Cx p s m args meth c cX7_word 17 RX7 wsX7_word (some .long)) (hK : va_K K.1 vwCl (tysOf K) s) (hF : SF K s) {r : Int64} {S' : MS} (n : Nat) : ∀ (x1 : Int32) (x2 : Int64) (x4 : Int64) (x6 : Int64) (x8 : Int64) (x10 : Int32) (S : MS) (H : Heap) (locs : List Loc), va_P K.1 vwCl (wd K C S o g) H → va_D (inA K) (wd K C S o g) → va_S (inA K) s.heap H locs → G_X7_word_40 z n x1 x2 x4 x6 x8 x10 S = some (r, S') → ∀ ls, lv_has ls 17 [(1, .int x1), (2, .long x2), (4, .long x4), (6, .long x6), (8, .long x8), (10, .int x10)] → W p l e rm_X7_word s m args below meth c H locs 0 0 (MQ below (qR K (some (.long r)) C S' o g) args s 0 0 (inA K)) (F0 m 40 ls []) := by
  obtain ⟨hx, hb, hml, hown, hts, hr, hlk, hN⟩ := id Cc
  have hcl : 0 ≤ (rm_X7_word).cells := Nat.zero_le _
  have hsl : 0 ≤ (rm_X7_word).slots := Nat.zero_le _
  induction n with
  | zero => intro x1 x2 x4 x6 x8 x10 S H locs hP hD hS h; cases h
  | succ n ih =>
    intro x1 x2 x4 x6 x8 x10 S H locs hP hD hS h ls hl
    rw [G_X7_word_40] at h
    refine lv_lload hx hb dX7_word_40 (lv_at hl 3 rfl) ?_
    refine lv_lconst (v := (0 : Int64)) hx hb dX7_word_42 (by decide) ?_
    refine ll_eq (tgt := 117) hx hb dX7_word_43 dX7_word_44 (by decide) (fun c1 => ?_) (fun c1 => ?_)
    · have h := gn_t h c1
      refine lv_iload_n hx hb dX7_word_117 rfl (lv_at hl 0 rfl) ?_
      refine lv_iload hx hb dX7_word_118 (lv_at hl 5 rfl) ?_
      refine lv_icmp_ne (tgt := 129) hx hb dX7_word_120 (by decide) (fun c2 => ?_) (fun c2 => ?_)
      · have h := gn_f h c2
        refine lv_iload_n hx hb dX7_word_129 rfl (lv_at hl 0 rfl) ?_
        refine lv_iconst (v := (-1 : Int32)) hx hb dX7_word_130 (by decide) ?_
        refine lv_icmp_ne (tgt := 142) hx hb dX7_word_131 (by decide) (fun c3 => ?_) (fun c3 => ?_)
        · have h := gn_f h c3
          refine lv_ldc2 hx hb hown (hts (.constantLong RX7 76 (-4000000000000000000)) (by decide +kernel)) dX7_word_142 ?_
          obtain ⟨rfl, rfl⟩ := Prod.mk.inj (gn_some h)
          exact W.lret hx hb hr (fun t ht _ => ⟨rfl, by rw [ht]; exact hP, hD, hS.F ht⟩) hS.2.2 dX7_word_145 hlk
        · have h := gn_t h c3
          refine lv_iload hx hb dX7_word_134 (lv_at hl 5 rfl) ?_
          refine lv_i2l hx hb dX7_word_136 rfl ?_
          refine lv_lconst (v := (1 : Int64)) hx hb dX7_word_137 (by decide) ?_
          refine lv_ladd hx hb dX7_word_138 ?_
          refine lv_goto (tgt := 145) hx hb dX7_word_139 (by decide) ?_
          obtain ⟨rfl, rfl⟩ := Prod.mk.inj (gn_some h)
          exact W.lret hx hb hr (fun t ht _ => ⟨rfl, by rw [ht]; exact hP, hD, hS.F ht⟩) hS.2.2 dX7_word_145 hlk
      · have h := gn_t h c2
        refine lv_lload hx hb dX7_word_123 (lv_at hl 2 rfl) ?_
        refine lv_lload hx hb dX7_word_125 (lv_at hl 4 rfl) ?_
        refine lv_lmul hx hb dX7_word_127 ?_
        obtain ⟨rfl, rfl⟩ := Prod.mk.inj (gn_some h)
        exact W.lret hx hb hr (fun t ht _ => ⟨rfl, by rw [ht]; exact hP, hD, hS.F ht⟩) hS.2.2 dX7_word_128 hlk
    · have h := gn_f h c1
      refine lv_ldc2 hx hb hown (hts (.constantLong RX7 85 (2)) (by decide +kernel)) dX7_word_47 ?_
      refine lv_lload_n hx hb dX7_word_50 rfl (lv_at hl 1 rfl) ?_
      refine lv_lmul hx hb dX7_word_51 ?_
      refine lv_lload hx hb dX7_word_52 (lv_at hl 3 rfl) ?_
      refine lv_ladd hx hb dX7_word_54 ?_
      refine lv_ldc2 hx hb hown (hts (.constantLong RX7 85 (2)) (by decide +kernel)) dX7_word_55 ?_
      refine lv_lload hx hb dX7_word_58 (lv_at hl 3 rfl) ?_
      refine lv_lmul hx hb dX7_word_60 ?_
      obtain ⟨r4, qr4, h⟩ := gn_bd h
      refine pc_S (rest := []) ⟨hx, hb, hml, hown, hts⟩ hN (c_X7_down l z _ _ r4 qr4) (va_cwS 2 hts gX7_word_X7_down rfl rfl rfl (by decide +kernel) ⟨(Nat.le_of_ble_eq_true rfl), (Nat.le_of_ble_eq_true rfl)⟩) rfl hl.1 rfl (Nat.le_of_ble_eq_true rfl) dX7_word_61 hcl hsl ?_
      refine lv_lstore (lv' := [(11, .long r4), (1, .int x1), (2, .long x2), (4, .long x4), (6, .long x6), (8, .long x8), (10, .int x10)]) hx hb dX7_word_64 hl (by decide) rfl (fun ls hl => ?_)
      refine lv_iload_n hx hb dX7_word_66 rfl (lv_at hl 1 rfl) ?_
      refine lv_iload hx hb dX7_word_67 (lv_at hl 6 rfl) ?_
      refine lv_icmp_ne (tgt := 75) hx hb dX7_word_69 (by decide) (fun c5 => ?_) (fun c5 => ?_)
      · have h := gn_f h c5
        obtain ⟨v6, ev6, h⟩ := gn_nm h
        refine lv_iinc (v := v6) (lv' := [(10, .int v6), (11, .long r4), (1, .int x1), (2, .long x2), (4, .long x4), (6, .long x6), (8, .long x8)]) hx hb dX7_word_75 hl (k := 6) rfl (by rw [ev6]; rfl) (by decide) rfl (fun ls hl => ?_)
        refine lv_lload_n hx hb dX7_word_78 rfl (lv_at hl 3 rfl) ?_
        refine lv_lload hx hb dX7_word_79 (lv_at hl 1 rfl) ?_
        refine lv_lload hx hb dX7_word_81 (lv_at hl 5 rfl) ?_
        refine lv_lmul hx hb dX7_word_83 ?_
        refine lv_lsub hx hb dX7_word_84 ?_
        obtain ⟨v7, ev7, h⟩ := gn_nm h
        refine ln_l ev7 ?_
        refine lv_lstore (lv' := [(13, .long v7), (10, .int v6), (11, .long r4), (1, .int x1), (2, .long x2), (4, .long x4), (6, .long x6), (8, .long x8)]) hx hb dX7_word_85 hl (by decide) rfl (fun ls hl => ?_)
        refine lv_lload hx hb dX7_word_87 (lv_at hl 5 rfl) ?_
        refine lv_lload hx hb dX7_word_89 (lv_at hl 2 rfl) ?_
        refine lv_lload hx hb dX7_word_91 (lv_at hl 7 rfl) ?_
        refine lv_lmul hx hb dX7_word_93 ?_
        refine lv_lsub hx hb dX7_word_94 ?_
        obtain ⟨v8, ev8, h⟩ := gn_nm h
        refine ln_l ev8 ?_
        refine lv_lstore (lv' := [(15, .long v8), (13, .long v7), (10, .int v6), (11, .long r4), (1, .int x1), (2, .long x2), (4, .long x4), (6, .long x6), (8, .long x8)]) hx hb dX7_word_95 hl (by decide) rfl (fun ls hl => ?_)
        refine lv_lload hx hb dX7_word_97 (lv_at hl 7 rfl) ?_
        refine lv_lstore_n (lv' := [(2, .long x6), (15, .long v8), (13, .long v7), (10, .int v6), (11, .long r4), (1, .int x1), (4, .long x4), (6, .long x6), (8, .long x8)]) hx hb dX7_word_99 rfl hl (by decide) rfl (fun ls hl => ?_)
        refine lv_lload hx hb dX7_word_100 (lv_at hl 8 rfl) ?_
        refine lv_lstore (lv' := [(4, .long x8), (2, .long x6), (15, .long v8), (13, .long v7), (10, .int v6), (11, .long r4), (1, .int x1), (6, .long x6), (8, .long x8)]) hx hb dX7_word_102 hl (by decide) rfl (fun ls hl => ?_)
        refine lv_lload hx hb dX7_word_104 (lv_at hl 3 rfl) ?_
        refine lv_lneg hx hb dX7_word_106 ?_
        obtain ⟨v9, ev9, h⟩ := gn_nm h
        refine ln_l ev9 ?_
        refine lv_lstore (lv' := [(6, .long v9), (4, .long x8), (2, .long x6), (15, .long v8), (13, .long v7), (10, .int v6), (11, .long r4), (1, .int x1), (8, .long x8)]) hx hb dX7_word_107 hl (by decide) rfl (fun ls hl => ?_)
        refine lv_lload hx hb dX7_word_109 (lv_at hl 3 rfl) ?_
        refine lv_lneg hx hb dX7_word_111 ?_
        obtain ⟨v10, ev10, h⟩ := gn_nm h
        refine ln_l ev10 ?_
        refine lv_lstore (lv' := [(8, .long v10), (6, .long v9), (4, .long x8), (2, .long x6), (15, .long v8), (13, .long v7), (10, .int v6), (11, .long r4), (1, .int x1)]) hx hb dX7_word_112 hl (by decide) rfl (fun ls hl => ?_)
        refine lv_goto (tgt := 40) hx hb dX7_word_114 (by decide) ?_
        exact ih x1 x6 x8 v9 v10 v6 S _ _ hP hD hS h ls (lv_sub hl [8, 3, 2, 1, 0, 6] rfl)
      · have h := gn_t h c5
        refine lv_lload hx hb dX7_word_72 (lv_at hl 0 rfl) ?_
        obtain ⟨rfl, rfl⟩ := Prod.mk.inj (gn_some h)
        exact W.lret hx hb hr (fun t ht _ => ⟨rfl, by rw [ht]; exact hP, hD, hS.F ht⟩) hS.2.2 dX7_word_74 hlk
end
set_option maxRecDepth 100000 in
theorem c_X7_word (l : Launch) (z : Nat) (K : Ev) (C : CS) (o : Nat → Int64) (g : Gh) (a0 : Int32) (S : MS) (r : Int64) (S' : MS) (h : F_X7_word z a0 S = some (r, S')) : Met l yX7_word wsX7_word rm_X7_word (qH K [.ref (K.2.2.1 12), .int a0] C S o g) (qR K (some (.long r)) C S' o g) 0 0 (inA K) := by
  refine Met.ofW (cc := cX7_word) (maxL := 17) (ret := (some .long)) (by decide) rfl ?_
  intro p e s m args below meth c s₁ B hml hv
  obtain ⟨rfl, hN, hP, hK, hD, hF⟩ := hv
  have hx := B.exec
  have hb := B.bytes
  have hr := B.returns
  have hts := atoms_spec (ws := wsX7_word) B.pre
  have hown : s.vm.findClass RX7 = some m.cls := findClass_of_methodNamed B.named
  have hlk := B.notSynchronized
  have hcl : 0 ≤ (rm_X7_word).cells := Nat.zero_le _
  have hsl : 0 ≤ (rm_X7_word).slots := Nat.zero_le _
  have Cc : Cx p s m _ meth c cX7_word 17 RX7 wsX7_word (some .long) := ⟨hx, hb, hml, hown, hts, hr, hlk, hN⟩
  have hS : va_S (inA K) s.heap s.heap [] := va_S.rf
  have hl := lv_entry ([.ref (K.2.2.1 12), .int a0]) (n := 17) (Nat.le_of_ble_eq_true rfl)
  rw [lg_entry_eq]
  generalize (lg_sl ([.ref (K.2.2.1 12), .int a0]) ++ List.replicate (17 - (lg_sl ([.ref (K.2.2.1 12), .int a0])).length) Slot.unset).toArray = ls at hl ⊢
  have hl : lv_has ls 17 [(0, .ref (K.2.2.1 12)), (1, .int a0)] := hl
  rw [F_X7_word] at h
  refine lv_aload_n hx hb dX7_word_0 rfl (lv_at hl 0 rfl) ?_
  refine lv_iconst (v := (0 : Int32)) hx hb dX7_word_1 (by decide) ?_
  obtain ⟨S1, eS1, h⟩ := gn_nm h
  refine va_put (D := K.1) (ci := 6) (v := .int (0 : Int32)) (ty := .int) (C := RX7) (T := TX7) (N := 24) hx hb hts in_X7_word_X7 tyX7 tyX7_ok nmX7 hown hK hP hD hS 12 rfl rfl 0 (by decide) (hts (.fieldLink RX7 33 "SawSumsModel" "thrown" "I") (by decide +kernel)) (fun _ h9 => h9) rfl (by decide +kernel) rfl rfl (Nat.le_of_ble_eq_true rfl) dX7_word_2 (fun H locs hP hD hS => ?_)
  have hP : va_P K.1 vwCl (wd K C S1 o g) H := by rw [eS1]; exact hP
  have hD : va_D (inA K) (wd K C S1 o g) := by rw [eS1]; exact hD
  refine lv_iload_n hx hb dX7_word_5 rfl (lv_at hl 1 rfl) ?_
  refine lv_iconst (v := (-1 : Int32)) hx hb dX7_word_6 (by decide) ?_
  refine lv_icmp_ge (tgt := 14) hx hb dX7_word_7 (by decide) (fun c2 => ?_) (fun c2 => ?_)
  · have h := gn_t h c2
    refine lv_aload_n hx hb dX7_word_14 rfl (lv_at hl 0 rfl) ?_
    refine va_get (D := K.1) (ci := 6) (v := .long (mg_a0 S1)) (C := RX7) (T := TX7) (N := 24) hx hb hts in_X7_word_X7 hown hK hP 12 rfl rfl 4 (by decide) (hts (.fieldLink RX7 23 "SawSumsModel" "a0" "J") (by decide +kernel)) (fun _ h9 => h9) rfl dX7_word_15 ?_
    obtain ⟨v3, ev3, h⟩ := gn_nm h
    refine ln_l ev3 ?_
    refine lv_lstore_n (lv' := [(2, .long v3), (0, .ref (K.2.2.1 12)), (1, .int a0)]) hx hb dX7_word_18 rfl hl (by decide) rfl (fun ls hl => ?_)
    refine lv_aload_n hx hb dX7_word_19 rfl (lv_at hl 1 rfl) ?_
    refine va_get (D := K.1) (ci := 6) (v := .long (mg_b0 S1)) (C := RX7) (T := TX7) (N := 24) hx hb hts in_X7_word_X7 hown hK hP 12 rfl rfl 5 (by decide) (hts (.fieldLink RX7 140 "SawSumsModel" "b0" "J") (by decide +kernel)) (fun _ h9 => h9) rfl dX7_word_20 ?_
    obtain ⟨v4, ev4, h⟩ := gn_nm h
    refine ln_l ev4 ?_
    refine lv_lstore (lv' := [(4, .long v4), (2, .long v3), (0, .ref (K.2.2.1 12)), (1, .int a0)]) hx hb dX7_word_23 hl (by decide) rfl (fun ls hl => ?_)
    refine lv_aload_n hx hb dX7_word_25 rfl (lv_at hl 2 rfl) ?_
    refine va_get (D := K.1) (ci := 6) (v := .long (mg_c0 S1)) (C := RX7) (T := TX7) (N := 24) hx hb hts in_X7_word_X7 hown hK hP 12 rfl rfl 6 (by decide) (hts (.fieldLink RX7 143 "SawSumsModel" "c0" "J") (by decide +kernel)) (fun _ h9 => h9) rfl dX7_word_26 ?_
    obtain ⟨v5, ev5, h⟩ := gn_nm h
    refine ln_l ev5 ?_
    refine lv_lstore (lv' := [(6, .long v5), (4, .long v4), (2, .long v3), (0, .ref (K.2.2.1 12)), (1, .int a0)]) hx hb dX7_word_29 hl (by decide) rfl (fun ls hl => ?_)
    refine lv_aload_n hx hb dX7_word_31 rfl (lv_at hl 3 rfl) ?_
    refine va_get (D := K.1) (ci := 6) (v := .long (mg_d0 S1)) (C := RX7) (T := TX7) (N := 24) hx hb hts in_X7_word_X7 hown hK hP 12 rfl rfl 7 (by decide) (hts (.fieldLink RX7 27 "SawSumsModel" "d0" "J") (by decide +kernel)) (fun _ h9 => h9) rfl dX7_word_32 ?_
    obtain ⟨v6, ev6, h⟩ := gn_nm h
    refine ln_l ev6 ?_
    refine lv_lstore (lv' := [(8, .long v6), (6, .long v5), (4, .long v4), (2, .long v3), (0, .ref (K.2.2.1 12)), (1, .int a0)]) hx hb dX7_word_35 hl (by decide) rfl (fun ls hl => ?_)
    refine lv_iconst (v := (0 : Int32)) hx hb dX7_word_37 (by decide) ?_
    refine lv_istore (lv' := [(10, .int (0 : Int32)), (8, .long v6), (6, .long v5), (4, .long v4), (2, .long v3), (0, .ref (K.2.2.1 12)), (1, .int a0)]) hx hb dX7_word_38 hl (by decide) rfl (fun ls hl => ?_)
    exact w_X7_word_40 Cc hK hF z a0 v3 v4 v5 v6 (0 : Int32) S1 _ _ hP hD hS h ls (lv_sub hl [6, 4, 3, 2, 1, 0] rfl)
  · have h := gn_f h c2
    refine lv_ldc2 hx hb hown (hts (.constantLong RX7 76 (-4000000000000000000)) (by decide +kernel)) dX7_word_10 ?_
    obtain ⟨rfl, rfl⟩ := Prod.mk.inj (gn_some h)
    exact W.lret hx hb hr (fun t ht _ => ⟨rfl, by rw [ht]; exact hP, hD, hS.F ht⟩) hS.2.2 dX7_word_13 hlk
theorem in_X7_same_X7 : ∀ w ∈ wsX70, w ∈ wsX7_same := fun _ h => List.mem_cons_of_mem _ (List.mem_append_right _ h)
def rm_X7_same : Room := { frames := 3, cells := 0, slots := 0, locals := 71 }
section
variable {p : Program} {l : Launch} {e : Env} {s : State} {m : MethodId} {args : Array Value} {below : List Frame} {meth : Method} {c : Code} {z : Nat} {K : Ev} {C : CS} {o : Nat → Int64} {g : Gh}
end
set_option maxRecDepth 100000 in
theorem c_X7_same (l : Launch) (z : Nat) (K : Ev) (C : CS) (o : Nat → Int64) (g : Gh) (a0 : Int32) (a1 : Int32) (a2 : Int32) (S : MS) (r : Int32) (S' : MS) (h : F_X7_same z a0 a1 a2 S = some (r, S')) : Met l yX7_same wsX7_same rm_X7_same (qH K [.ref (K.2.2.1 12), .int a0, .int a1, .int a2] C S o g) (qR K (some (.int r)) C S' o g) 0 0 (inA K) := by
  refine Met.ofW (cc := cX7_same) (maxL := 8) (ret := (some .int)) (by decide) rfl ?_
  intro p e s m args below meth c s₁ B hml hv
  obtain ⟨rfl, hN, hP, hK, hD, hF⟩ := hv
  have hx := B.exec
  have hb := B.bytes
  have hr := B.returns
  have hts := atoms_spec (ws := wsX7_same) B.pre
  have hown : s.vm.findClass RX7 = some m.cls := findClass_of_methodNamed B.named
  have hlk := B.notSynchronized
  have hcl : 0 ≤ (rm_X7_same).cells := Nat.zero_le _
  have hsl : 0 ≤ (rm_X7_same).slots := Nat.zero_le _
  have Cc : Cx p s m _ meth c cX7_same 8 RX7 wsX7_same (some .int) := ⟨hx, hb, hml, hown, hts, hr, hlk, hN⟩
  have hS : va_S (inA K) s.heap s.heap [] := va_S.rf
  have hl := lv_entry ([.ref (K.2.2.1 12), .int a0, .int a1, .int a2]) (n := 8) (Nat.le_of_ble_eq_true rfl)
  rw [lg_entry_eq]
  generalize (lg_sl ([.ref (K.2.2.1 12), .int a0, .int a1, .int a2]) ++ List.replicate (8 - (lg_sl ([.ref (K.2.2.1 12), .int a0, .int a1, .int a2])).length) Slot.unset).toArray = ls at hl ⊢
  have hl : lv_has ls 8 [(0, .ref (K.2.2.1 12)), (1, .int a0), (2, .int a1), (3, .int a2)] := hl
  rw [F_X7_same] at h
  refine lv_aload_n hx hb dX7_same_0 rfl (lv_at hl 0 rfl) ?_
  refine lv_iconst (v := (0 : Int32)) hx hb dX7_same_1 (by decide) ?_
  obtain ⟨S1, eS1, h⟩ := gn_nm h
  refine va_put (D := K.1) (ci := 6) (v := .int (0 : Int32)) (ty := .int) (C := RX7) (T := TX7) (N := 24) hx hb hts in_X7_same_X7 tyX7 tyX7_ok nmX7 hown hK hP hD hS 12 rfl rfl 0 (by decide) (hts (.fieldLink RX7 33 "SawSumsModel" "thrown" "I") (by decide +kernel)) (fun _ h9 => h9) rfl (by decide +kernel) rfl rfl (Nat.le_of_ble_eq_true rfl) dX7_same_2 (fun H locs hP hD hS => ?_)
  have hP : va_P K.1 vwCl (wd K C S1 o g) H := by rw [eS1]; exact hP
  have hD : va_D (inA K) (wd K C S1 o g) := by rw [eS1]; exact hD
  refine lv_iload_n hx hb dX7_same_5 rfl (lv_at hl 1 rfl) ?_
  refine lv_iload_n hx hb dX7_same_6 rfl (lv_at hl 2 rfl) ?_
  obtain ⟨r2, qr2, h⟩ := gn_bd h
  refine pc_S (rest := []) ⟨hx, hb, hml, hown, hts⟩ hN (c_X7_isRing l z _ _ r2 qr2) (va_cwS 2 hts gX7_same_X7_isRing rfl rfl rfl (by decide +kernel) ⟨(Nat.le_of_ble_eq_true rfl), (Nat.le_of_ble_eq_true rfl)⟩) rfl hl.1 rfl (Nat.le_of_ble_eq_true rfl) dX7_same_7 hcl hsl ?_
  refine lv_if_eq (tgt := 21) hx hb dX7_same_10 (by decide) (fun c3 => ?_) (fun c3 => ?_)
  · have h := gn_t h c3
    refine lv_iconst (v := (-1 : Int32)) hx hb dX7_same_21 (by decide) ?_
    obtain ⟨rfl, rfl⟩ := Prod.mk.inj (gn_some h)
    exact W.iret hx hb hr (fun t ht _ => ⟨rfl, by rw [ht]; exact hP, hD, hS.F ht⟩) hS.2.2 dX7_same_22 hlk
  · have h := gn_f h c3
    refine lv_iload_n hx hb dX7_same_13 rfl (lv_at hl 1 rfl) ?_
    refine lv_iload_n hx hb dX7_same_14 rfl (lv_at hl 3 rfl) ?_
    obtain ⟨r4, qr4, h⟩ := gn_bd h
    refine pc_S (rest := []) ⟨hx, hb, hml, hown, hts⟩ hN (c_X7_isRing l z _ _ r4 qr4) (va_cwS 2 hts gX7_same_X7_isRing rfl rfl rfl (by decide +kernel) ⟨(Nat.le_of_ble_eq_true rfl), (Nat.le_of_ble_eq_true rfl)⟩) rfl hl.1 rfl (Nat.le_of_ble_eq_true rfl) dX7_same_15 hcl hsl ?_
    refine lv_if_ne (tgt := 23) hx hb dX7_same_18 (by decide) (fun c5 => ?_) (fun c5 => ?_)
    · have h := gn_f h c5
      refine lv_iload_n hx hb dX7_same_23 rfl (lv_at hl 2 rfl) ?_
      refine lv_i2l hx hb dX7_same_24 rfl ?_
      refine lv_iload_n hx hb dX7_same_25 rfl (lv_at hl 1 rfl) ?_
      refine lv_i2l hx hb dX7_same_26 rfl ?_
      obtain ⟨r6, qr6, h⟩ := gn_bd h
      refine pc_S (rest := []) ⟨hx, hb, hml, hown, hts⟩ hN (c_X7_rest l z _ _ r6 qr6) (va_cwS 2 hts gX7_same_X7_rest rfl rfl rfl (by decide +kernel) ⟨(Nat.le_of_ble_eq_true rfl), (Nat.le_of_ble_eq_true rfl)⟩) rfl hl.1 rfl (Nat.le_of_ble_eq_true rfl) dX7_same_27 hcl hsl ?_
      refine lv_lstore (lv' := [(4, .long r6), (0, .ref (K.2.2.1 12)), (1, .int a0), (2, .int a1), (3, .int a2)]) hx hb dX7_same_30 hl (by decide) rfl (fun ls hl => ?_)
      refine lv_iload_n hx hb dX7_same_32 rfl (lv_at hl 4 rfl) ?_
      refine lv_i2l hx hb dX7_same_33 rfl ?_
      refine lv_iload_n hx hb dX7_same_34 rfl (lv_at hl 2 rfl) ?_
      refine lv_i2l hx hb dX7_same_35 rfl ?_
      obtain ⟨r7, qr7, h⟩ := gn_bd h
      refine pc_S (rest := []) ⟨hx, hb, hml, hown, hts⟩ hN (c_X7_rest l z _ _ r7 qr7) (va_cwS 2 hts gX7_same_X7_rest rfl rfl rfl (by decide +kernel) ⟨(Nat.le_of_ble_eq_true rfl), (Nat.le_of_ble_eq_true rfl)⟩) rfl hl.1 rfl (Nat.le_of_ble_eq_true rfl) dX7_same_36 hcl hsl ?_
      refine lv_lstore (lv' := [(6, .long r7), (4, .long r6), (0, .ref (K.2.2.1 12)), (1, .int a0), (2, .int a1), (3, .int a2)]) hx hb dX7_same_39 hl (by decide) rfl (fun ls hl => ?_)
      refine lv_iload_n hx hb dX7_same_41 rfl (lv_at hl 3 rfl) ?_
      refine lv_i2l hx hb dX7_same_42 rfl ?_
      refine lv_lload hx hb dX7_same_43 (lv_at hl 1 rfl) ?_
      refine lv_lload hx hb dX7_same_45 (lv_at hl 0 rfl) ?_
      obtain ⟨r8, qr8, h⟩ := gn_bd h
      refine pc_S (rest := []) ⟨hx, hb, hml, hown, hts⟩ hN (c_X7_areSame l z _ _ _ r8 qr8) (va_cwS 3 hts gX7_same_X7_areSame rfl rfl rfl (by decide +kernel) ⟨(Nat.le_of_ble_eq_true rfl), (Nat.le_of_ble_eq_true rfl)⟩) rfl hl.1 rfl (Nat.le_of_ble_eq_true rfl) dX7_same_47 hcl hsl ?_
      refine lv_if_eq (tgt := 57) hx hb dX7_same_50 (by decide) (fun c9 => ?_) (fun c9 => ?_)
      · have h := gn_t h c9
        refine lv_iload_n hx hb dX7_same_57 rfl (lv_at hl 3 rfl) ?_
        refine lv_i2l hx hb dX7_same_58 rfl ?_
        refine lv_iload_n hx hb dX7_same_59 rfl (lv_at hl 3 rfl) ?_
        refine lv_i2l hx hb dX7_same_60 rfl ?_
        refine lv_lload hx hb dX7_same_61 (lv_at hl 1 rfl) ?_
        refine lv_lsub hx hb dX7_same_63 ?_
        refine lv_lload hx hb dX7_same_64 (lv_at hl 0 rfl) ?_
        obtain ⟨r10, qr10, h⟩ := gn_bd h
        refine pc_S (rest := []) ⟨hx, hb, hml, hown, hts⟩ hN (c_X7_areSame l z _ _ _ r10 qr10) (va_cwS 3 hts gX7_same_X7_areSame rfl rfl rfl (by decide +kernel) ⟨(Nat.le_of_ble_eq_true rfl), (Nat.le_of_ble_eq_true rfl)⟩) rfl hl.1 rfl (Nat.le_of_ble_eq_true rfl) dX7_same_66 hcl hsl ?_
        refine lv_if_eq (tgt := 76) hx hb dX7_same_69 (by decide) (fun c11 => ?_) (fun c11 => ?_)
        · have h := gn_t h c11
          refine lv_iconst (v := (0 : Int32)) hx hb dX7_same_76 (by decide) ?_
          obtain ⟨rfl, rfl⟩ := Prod.mk.inj (gn_some h)
          exact W.iret hx hb hr (fun t ht _ => ⟨rfl, by rw [ht]; exact hP, hD, hS.F ht⟩) hS.2.2 dX7_same_77 hlk
        · have h := gn_f h c11
          refine lv_iconst (v := (1 : Int32)) hx hb dX7_same_72 (by decide) ?_
          refine lv_goto (tgt := 77) hx hb dX7_same_73 (by decide) ?_
          obtain ⟨rfl, rfl⟩ := Prod.mk.inj (gn_some h)
          exact W.iret hx hb hr (fun t ht _ => ⟨rfl, by rw [ht]; exact hP, hD, hS.F ht⟩) hS.2.2 dX7_same_77 hlk
      · have h := gn_f h c9
        refine lv_iconst (v := (2 : Int32)) hx hb dX7_same_53 (by decide) ?_
        refine lv_goto (tgt := 77) hx hb dX7_same_54 (by decide) ?_
        obtain ⟨rfl, rfl⟩ := Prod.mk.inj (gn_some h)
        exact W.iret hx hb hr (fun t ht _ => ⟨rfl, by rw [ht]; exact hP, hD, hS.F ht⟩) hS.2.2 dX7_same_77 hlk
    · have h := gn_t h c5
      refine lv_iconst (v := (-1 : Int32)) hx hb dX7_same_21 (by decide) ?_
      obtain ⟨rfl, rfl⟩ := Prod.mk.inj (gn_some h)
      exact W.iret hx hb hr (fun t ht _ => ⟨rfl, by rw [ht]; exact hP, hD, hS.F ht⟩) hS.2.2 dX7_same_22 hlk
theorem in_X7_ring_X7 : ∀ w ∈ wsX70, w ∈ wsX7_ring := fun _ h => List.mem_cons_of_mem _ (List.mem_append_right _ h)
def rm_X7_ring : Room := { frames := 3, cells := 0, slots := 0, locals := 75 }
section
variable {p : Program} {l : Launch} {e : Env} {s : State} {m : MethodId} {args : Array Value} {below : List Frame} {meth : Method} {c : Code} {z : Nat} {K : Ev} {C : CS} {o : Nat → Int64} {g : Gh}
end
set_option maxRecDepth 100000 in
theorem c_X7_ring (l : Launch) (z : Nat) (K : Ev) (C : CS) (o : Nat → Int64) (g : Gh) (a0 : Int32) (a1 : Int32) (S : MS) (r : Int32) (S' : MS) (h : F_X7_ring z a0 a1 S = some (r, S')) : Met l yX7_ring wsX7_ring rm_X7_ring (qH K [.ref (K.2.2.1 12), .int a0, .int a1] C S o g) (qR K (some (.int r)) C S' o g) 0 0 (inA K) := by
  refine Met.ofW (cc := cX7_ring) (maxL := 3) (ret := (some .int)) (by decide) rfl ?_
  intro p e s m args below meth c s₁ B hml hv
  obtain ⟨rfl, hN, hP, hK, hD, hF⟩ := hv
  have hx := B.exec
  have hb := B.bytes
  have hr := B.returns
  have hts := atoms_spec (ws := wsX7_ring) B.pre
  have hown : s.vm.findClass RX7 = some m.cls := findClass_of_methodNamed B.named
  have hlk := B.notSynchronized
  have hcl : 0 ≤ (rm_X7_ring).cells := Nat.zero_le _
  have hsl : 0 ≤ (rm_X7_ring).slots := Nat.zero_le _
  have Cc : Cx p s m _ meth c cX7_ring 3 RX7 wsX7_ring (some .int) := ⟨hx, hb, hml, hown, hts, hr, hlk, hN⟩
  have hS : va_S (inA K) s.heap s.heap [] := va_S.rf
  have hl := lv_entry ([.ref (K.2.2.1 12), .int a0, .int a1]) (n := 3) (Nat.le_of_ble_eq_true rfl)
  rw [lg_entry_eq]
  generalize (lg_sl ([.ref (K.2.2.1 12), .int a0, .int a1]) ++ List.replicate (3 - (lg_sl ([.ref (K.2.2.1 12), .int a0, .int a1])).length) Slot.unset).toArray = ls at hl ⊢
  have hl : lv_has ls 3 [(0, .ref (K.2.2.1 12)), (1, .int a0), (2, .int a1)] := hl
  rw [F_X7_ring] at h
  refine lv_aload_n hx hb dX7_ring_0 rfl (lv_at hl 0 rfl) ?_
  refine lv_iconst (v := (0 : Int32)) hx hb dX7_ring_1 (by decide) ?_
  obtain ⟨S1, eS1, h⟩ := gn_nm h
  refine va_put (D := K.1) (ci := 6) (v := .int (0 : Int32)) (ty := .int) (C := RX7) (T := TX7) (N := 24) hx hb hts in_X7_ring_X7 tyX7 tyX7_ok nmX7 hown hK hP hD hS 12 rfl rfl 0 (by decide) (hts (.fieldLink RX7 33 "SawSumsModel" "thrown" "I") (by decide +kernel)) (fun _ h9 => h9) rfl (by decide +kernel) rfl rfl (Nat.le_of_ble_eq_true rfl) dX7_ring_2 (fun H locs hP hD hS => ?_)
  have hP : va_P K.1 vwCl (wd K C S1 o g) H := by rw [eS1]; exact hP
  have hD : va_D (inA K) (wd K C S1 o g) := by rw [eS1]; exact hD
  refine lv_iload_n hx hb dX7_ring_5 rfl (lv_at hl 1 rfl) ?_
  refine lv_iload_n hx hb dX7_ring_6 rfl (lv_at hl 2 rfl) ?_
  obtain ⟨r2, qr2, h⟩ := gn_bd h
  refine pc_S (rest := []) ⟨hx, hb, hml, hown, hts⟩ hN (c_X7_isRing l z _ _ r2 qr2) (va_cwS 2 hts gX7_ring_X7_isRing rfl rfl rfl (by decide +kernel) ⟨(Nat.le_of_ble_eq_true rfl), (Nat.le_of_ble_eq_true rfl)⟩) rfl hl.1 rfl (Nat.le_of_ble_eq_true rfl) dX7_ring_7 hcl hsl ?_
  refine lv_if_eq (tgt := 21) hx hb dX7_ring_10 (by decide) (fun c3 => ?_) (fun c3 => ?_)
  · have h := gn_t h c3
    refine lv_iconst (v := (-1 : Int32)) hx hb dX7_ring_21 (by decide) ?_
    obtain ⟨rfl, rfl⟩ := Prod.mk.inj (gn_some h)
    exact W.iret hx hb hr (fun t ht _ => ⟨rfl, by rw [ht]; exact hP, hD, hS.F ht⟩) hS.2.2 dX7_ring_22 hlk
  · have h := gn_f h c3
    refine lv_iload_n hx hb dX7_ring_13 rfl (lv_at hl 1 rfl) ?_
    refine lv_iload_n hx hb dX7_ring_14 rfl (lv_at hl 2 rfl) ?_
    obtain ⟨r4, qr4, h⟩ := gn_bd h
    refine pc_S (rest := []) ⟨hx, hb, hml, hown, hts⟩ hN (c_X7_ringOf l z _ _ r4 qr4) (va_cwS 2 hts gX7_ring_X7_ringOf rfl rfl rfl (by decide +kernel) ⟨(Nat.le_of_ble_eq_true rfl), (Nat.le_of_ble_eq_true rfl)⟩) rfl hl.1 rfl (Nat.le_of_ble_eq_true rfl) dX7_ring_15 hcl hsl ?_
    refine lv_goto (tgt := 22) hx hb dX7_ring_18 (by decide) ?_
    obtain ⟨rfl, rfl⟩ := Prod.mk.inj (gn_some h)
    exact W.iret hx hb hr (fun t ht _ => ⟨rfl, by rw [ht]; exact hP, hD, hS.F ht⟩) hS.2.2 dX7_ring_22 hlk
theorem in_X7_laysRings_X7 : ∀ w ∈ wsX70, w ∈ wsX7_laysRings := fun _ h => List.mem_cons_of_mem _ (List.mem_append_right _ h)
def rm_X7_laysRings : Room := { frames := 3, cells := 0, slots := 0, locals := 75 }
section
variable {p : Program} {l : Launch} {e : Env} {s : State} {m : MethodId} {args : Array Value} {below : List Frame} {meth : Method} {c : Code} {z : Nat} {K : Ev} {C : CS} {o : Nat → Int64} {g : Gh}
set_option maxRecDepth 100000 in
theorem w_X7_laysRings_4 (Cc : Cx p s m args meth c cX7_laysRings 4 RX7 wsX7_laysRings (some .int)) (hK : va_K K.1 vwCl (tysOf K) s) (hF : SF K s) {r : Int32} {S' : MS} (n : Nat) : ∀ (x1 : Int32) (x2 : Int32) (x3 : Int32) (S : MS) (H : Heap) (locs : List Loc), va_P K.1 vwCl (wd K C S o g) H → va_D (inA K) (wd K C S o g) → va_S (inA K) s.heap H locs → G_X7_laysRings_4 z n x1 x2 x3 S = some (r, S') → ∀ ls, lv_has ls 4 [(0, .ref (K.2.2.1 12)), (1, .int x1), (2, .int x2), (3, .int x3)] → W p l e rm_X7_laysRings s m args below meth c H locs 0 0 (MQ below (qR K (some (.int r)) C S' o g) args s 0 0 (inA K)) (F0 m 4 ls []) := by
  obtain ⟨hx, hb, hml, hown, hts, hr, hlk, hN⟩ := id Cc
  have hcl : 0 ≤ (rm_X7_laysRings).cells := Nat.zero_le _
  have hsl : 0 ≤ (rm_X7_laysRings).slots := Nat.zero_le _
  induction n with
  | zero => intro x1 x2 x3 S H locs hP hD hS h; cases h
  | succ n ih =>
    intro x1 x2 x3 S H locs hP hD hS h ls hl
    rw [G_X7_laysRings_4] at h
    refine lv_iload_n hx hb dX7_laysRings_4 rfl (lv_at hl 3 rfl) ?_
    refine lv_iload_n hx hb dX7_laysRings_5 rfl (lv_at hl 1 rfl) ?_
    refine lv_icmp_ge (tgt := 50) hx hb dX7_laysRings_6 (by decide) (fun c1 => ?_) (fun c1 => ?_)
    · have h := gn_t h c1
      refine lv_iload_n hx hb dX7_laysRings_50 rfl (lv_at hl 2 rfl) ?_
      obtain ⟨rfl, rfl⟩ := Prod.mk.inj (gn_some h)
      exact W.iret hx hb hr (fun t ht _ => ⟨rfl, by rw [ht]; exact hP, hD, hS.F ht⟩) hS.2.2 dX7_laysRings_51 hlk
    · have h := gn_f h c1
      refine lv_iload_n hx hb dX7_laysRings_9 rfl (lv_at hl 1 rfl) ?_
      refine lv_i2l hx hb dX7_laysRings_10 rfl ?_
      refine lv_iload_n hx hb dX7_laysRings_11 rfl (lv_at hl 3 rfl) ?_
      refine lv_i2l hx hb dX7_laysRings_12 rfl ?_
      obtain ⟨r2, qr2, h⟩ := gn_bd h
      refine pc_S (rest := []) ⟨hx, hb, hml, hown, hts⟩ hN (c_X7_common l z _ _ r2 qr2) (va_cwS 2 hts gX7_laysRings_X7_common rfl rfl rfl (by decide +kernel) ⟨(Nat.le_of_ble_eq_true rfl), (Nat.le_of_ble_eq_true rfl)⟩) rfl hl.1 rfl (Nat.le_of_ble_eq_true rfl) dX7_laysRings_13 hcl hsl ?_
      refine lv_lconst (v := (1 : Int64)) hx hb dX7_laysRings_16 (by decide) ?_
      refine ll_ne (tgt := 44) hx hb dX7_laysRings_17 dX7_laysRings_18 (by decide) (fun c3 => ?_) (fun c3 => ?_)
      · have h := gn_f h c3
        obtain ⟨v4, ev4, h⟩ := gn_nm h
        refine lv_iinc (v := v4) (lv' := [(3, .int v4), (0, .ref (K.2.2.1 12)), (1, .int x1), (2, .int x2)]) hx hb dX7_laysRings_44 hl (k := 3) rfl (by rw [ev4]; rfl) (by decide) rfl (fun ls hl => ?_)
        refine lv_goto (tgt := 4) hx hb dX7_laysRings_47 (by decide) ?_
        exact ih x1 x2 v4 S _ _ hP hD hS h ls (lv_sub hl [1, 2, 3, 0] rfl)
      · have h := gn_t h c3
        refine lv_iload_n hx hb dX7_laysRings_21 rfl (lv_at hl 1 rfl) ?_
        refine lv_iload_n hx hb dX7_laysRings_22 rfl (lv_at hl 3 rfl) ?_
        obtain ⟨r5, qr5, h⟩ := gn_bd h
        refine pc_S (rest := []) ⟨hx, hb, hml, hown, hts⟩ hN (c_X7_ringOf l z _ _ r5 qr5) (va_cwS 2 hts gX7_laysRings_X7_ringOf rfl rfl rfl (by decide +kernel) ⟨(Nat.le_of_ble_eq_true rfl), (Nat.le_of_ble_eq_true rfl)⟩) rfl hl.1 rfl (Nat.le_of_ble_eq_true rfl) dX7_laysRings_23 hcl hsl ?_
        refine lv_iload_n hx hb dX7_laysRings_26 rfl (lv_at hl 3 rfl) ?_
        refine lv_icmp_eq (tgt := 33) hx hb dX7_laysRings_27 (by decide) (fun c6 => ?_) (fun c6 => ?_)
        · have h := gn_t h c6
          refine lv_aload_n hx hb dX7_laysRings_33 rfl (lv_at hl 0 rfl) ?_
          refine va_get (D := K.1) (ci := 6) (v := .ref (K.2.2.1 13)) (C := RX7) (T := TX7) (N := 24) hx hb hts in_X7_laysRings_X7 hown hK hP 12 rfl rfl 3 (by decide) (hts (.fieldLink RX7 7 "SawSumsModel" "row" "[J") (by decide +kernel)) (fun _ h9 => h9) rfl dX7_laysRings_34 ?_
          refine lv_iload_n hx hb dX7_laysRings_37 rfl (lv_at hl 2 rfl) ?_
          refine lv_iload_n hx hb dX7_laysRings_38 rfl (lv_at hl 3 rfl) ?_
          refine lv_i2l hx hb dX7_laysRings_39 rfl ?_
          obtain ⟨n7, h⟩ := gn_yz h
          obtain ⟨S8, eS8, h⟩ := gn_nm h
          refine va_last hx hb hK hP hD hS 13 0 rfl rfl (ib_in n7) dX7_laysRings_40 (fun H locs hP hD hS => ?_)
          have hP : va_P K.1 vwCl (wd K C S8 o g) H := by rw [eS8]; exact hP
          have hD : va_D (inA K) (wd K C S8 o g) := by rw [eS8]; exact hD
          obtain ⟨v9, ev9, h⟩ := gn_nm h
          refine lv_iinc (v := v9) (lv' := [(2, .int v9), (0, .ref (K.2.2.1 12)), (1, .int x1), (3, .int x3)]) hx hb dX7_laysRings_41 hl (k := 2) rfl (by rw [ev9]; rfl) (by decide) rfl (fun ls hl => ?_)
          obtain ⟨v10, ev10, h⟩ := gn_nm h
          refine lv_iinc (v := v10) (lv' := [(3, .int v10), (2, .int v9), (0, .ref (K.2.2.1 12)), (1, .int x1)]) hx hb dX7_laysRings_44 hl (k := 3) rfl (by rw [ev10]; rfl) (by decide) rfl (fun ls hl => ?_)
          refine lv_goto (tgt := 4) hx hb dX7_laysRings_47 (by decide) ?_
          exact ih x1 v9 v10 S8 _ _ hP hD hS h ls (lv_sub hl [2, 3, 1, 0] rfl)
        · have h := gn_f h c6
          refine lv_goto (tgt := 44) hx hb dX7_laysRings_30 (by decide) ?_
          obtain ⟨v11, ev11, h⟩ := gn_nm h
          refine lv_iinc (v := v11) (lv' := [(3, .int v11), (0, .ref (K.2.2.1 12)), (1, .int x1), (2, .int x2)]) hx hb dX7_laysRings_44 hl (k := 3) rfl (by rw [ev11]; rfl) (by decide) rfl (fun ls hl => ?_)
          refine lv_goto (tgt := 4) hx hb dX7_laysRings_47 (by decide) ?_
          exact ih x1 x2 v11 S _ _ hP hD hS h ls (lv_sub hl [1, 2, 3, 0] rfl)
end
set_option maxRecDepth 100000 in
theorem c_X7_laysRings (l : Launch) (z : Nat) (K : Ev) (C : CS) (o : Nat → Int64) (g : Gh) (a0 : Int32) (S : MS) (r : Int32) (S' : MS) (h : F_X7_laysRings z a0 S = some (r, S')) : Met l yX7_laysRings wsX7_laysRings rm_X7_laysRings (qH K [.ref (K.2.2.1 12), .int a0] C S o g) (qR K (some (.int r)) C S' o g) 0 0 (inA K) := by
  refine Met.ofW (cc := cX7_laysRings) (maxL := 4) (ret := (some .int)) (by decide) rfl ?_
  intro p e s m args below meth c s₁ B hml hv
  obtain ⟨rfl, hN, hP, hK, hD, hF⟩ := hv
  have hx := B.exec
  have hb := B.bytes
  have hr := B.returns
  have hts := atoms_spec (ws := wsX7_laysRings) B.pre
  have hown : s.vm.findClass RX7 = some m.cls := findClass_of_methodNamed B.named
  have hlk := B.notSynchronized
  have hcl : 0 ≤ (rm_X7_laysRings).cells := Nat.zero_le _
  have hsl : 0 ≤ (rm_X7_laysRings).slots := Nat.zero_le _
  have Cc : Cx p s m _ meth c cX7_laysRings 4 RX7 wsX7_laysRings (some .int) := ⟨hx, hb, hml, hown, hts, hr, hlk, hN⟩
  have hS : va_S (inA K) s.heap s.heap [] := va_S.rf
  have hl := lv_entry ([.ref (K.2.2.1 12), .int a0]) (n := 4) (Nat.le_of_ble_eq_true rfl)
  rw [lg_entry_eq]
  generalize (lg_sl ([.ref (K.2.2.1 12), .int a0]) ++ List.replicate (4 - (lg_sl ([.ref (K.2.2.1 12), .int a0])).length) Slot.unset).toArray = ls at hl ⊢
  have hl : lv_has ls 4 [(0, .ref (K.2.2.1 12)), (1, .int a0)] := hl
  rw [F_X7_laysRings] at h
  refine lv_iconst (v := (0 : Int32)) hx hb dX7_laysRings_0 (by decide) ?_
  refine lv_istore_n (lv' := [(2, .int (0 : Int32)), (0, .ref (K.2.2.1 12)), (1, .int a0)]) hx hb dX7_laysRings_1 rfl hl (by decide) rfl (fun ls hl => ?_)
  refine lv_iconst (v := (1 : Int32)) hx hb dX7_laysRings_2 (by decide) ?_
  refine lv_istore_n (lv' := [(3, .int (1 : Int32)), (2, .int (0 : Int32)), (0, .ref (K.2.2.1 12)), (1, .int a0)]) hx hb dX7_laysRings_3 rfl hl (by decide) rfl (fun ls hl => ?_)
  exact w_X7_laysRings_4 Cc hK hF z a0 (0 : Int32) (1 : Int32) S _ _ hP hD hS h ls (lv_sub hl [2, 3, 1, 0] rfl)
theorem in_X7_rings_X7 : ∀ w ∈ wsX70, w ∈ wsX7_rings := fun _ h => List.mem_cons_of_mem _ (List.mem_append_right _ h)
def rm_X7_rings : Room := { frames := 4, cells := 0, slots := 0, locals := 98 }
section
variable {p : Program} {l : Launch} {e : Env} {s : State} {m : MethodId} {args : Array Value} {below : List Frame} {meth : Method} {c : Code} {z : Nat} {K : Ev} {C : CS} {o : Nat → Int64} {g : Gh}
end
set_option maxRecDepth 100000 in
theorem c_X7_rings (l : Launch) (z : Nat) (K : Ev) (C : CS) (o : Nat → Int64) (g : Gh) (a0 : Int32) (a1 : Int32) (S : MS) (r : Int32) (S' : MS) (h : F_X7_rings z a0 a1 S = some (r, S')) : Met l yX7_rings wsX7_rings rm_X7_rings (qH K [.ref (K.2.2.1 12), .int a0, .int a1] C S o g) (qR K (some (.int r)) C S' o g) 0 0 (inA K) := by
  refine Met.ofW (cc := cX7_rings) (maxL := 4) (ret := (some .int)) (by decide) rfl ?_
  intro p e s m args below meth c s₁ B hml hv
  obtain ⟨rfl, hN, hP, hK, hD, hF⟩ := hv
  have hx := B.exec
  have hb := B.bytes
  have hr := B.returns
  have hts := atoms_spec (ws := wsX7_rings) B.pre
  have hown : s.vm.findClass RX7 = some m.cls := findClass_of_methodNamed B.named
  have hlk := B.notSynchronized
  have hcl : 0 ≤ (rm_X7_rings).cells := Nat.zero_le _
  have hsl : 0 ≤ (rm_X7_rings).slots := Nat.zero_le _
  have Cc : Cx p s m _ meth c cX7_rings 4 RX7 wsX7_rings (some .int) := ⟨hx, hb, hml, hown, hts, hr, hlk, hN⟩
  have hS : va_S (inA K) s.heap s.heap [] := va_S.rf
  have hl := lv_entry ([.ref (K.2.2.1 12), .int a0, .int a1]) (n := 4) (Nat.le_of_ble_eq_true rfl)
  rw [lg_entry_eq]
  generalize (lg_sl ([.ref (K.2.2.1 12), .int a0, .int a1]) ++ List.replicate (4 - (lg_sl ([.ref (K.2.2.1 12), .int a0, .int a1])).length) Slot.unset).toArray = ls at hl ⊢
  have hl : lv_has ls 4 [(0, .ref (K.2.2.1 12)), (1, .int a0), (2, .int a1)] := hl
  rw [F_X7_rings] at h
  refine lv_aload_n hx hb dX7_rings_0 rfl (lv_at hl 0 rfl) ?_
  refine lv_iconst (v := (0 : Int32)) hx hb dX7_rings_1 (by decide) ?_
  obtain ⟨S1, eS1, h⟩ := gn_nm h
  refine va_put (D := K.1) (ci := 6) (v := .int (0 : Int32)) (ty := .int) (C := RX7) (T := TX7) (N := 24) hx hb hts in_X7_rings_X7 tyX7 tyX7_ok nmX7 hown hK hP hD hS 12 rfl rfl 0 (by decide) (hts (.fieldLink RX7 33 "SawSumsModel" "thrown" "I") (by decide +kernel)) (fun _ h9 => h9) rfl (by decide +kernel) rfl rfl (Nat.le_of_ble_eq_true rfl) dX7_rings_2 (fun H locs hP hD hS => ?_)
  have hP : va_P K.1 vwCl (wd K C S1 o g) H := by rw [eS1]; exact hP
  have hD : va_D (inA K) (wd K C S1 o g) := by rw [eS1]; exact hD
  refine lv_iload_n hx hb dX7_rings_5 rfl (lv_at hl 1 rfl) ?_
  refine lv_i2l hx hb dX7_rings_6 rfl ?_
  refine lv_ldc2 hx hb hown (hts (.constantLong RX7 85 (2)) (by decide +kernel)) dX7_rings_7 ?_
  refine lv_ldc2 hx hb hown (hts (.constantLong RX7 95 (1000)) (by decide +kernel)) dX7_rings_10 ?_
  obtain ⟨r2, qr2, h⟩ := gn_bd h
  refine pc_S (rest := []) ⟨hx, hb, hml, hown, hts⟩ hN (c_X7_isIn l z _ _ _ r2 qr2) (va_cwS 3 hts gX7_rings_X7_isIn rfl rfl rfl (by decide +kernel) ⟨(Nat.le_of_ble_eq_true rfl), (Nat.le_of_ble_eq_true rfl)⟩) rfl hl.1 rfl (Nat.le_of_ble_eq_true rfl) dX7_rings_13 hcl hsl ?_
  refine lv_if_ne (tgt := 21) hx hb dX7_rings_16 (by decide) (fun c3 => ?_) (fun c3 => ?_)
  · have h := gn_f h c3
    refine lv_aload_n hx hb dX7_rings_21 rfl (lv_at hl 0 rfl) ?_
    refine lv_iload_n hx hb dX7_rings_22 rfl (lv_at hl 1 rfl) ?_
    obtain ⟨r4, S5, qS5, h⟩ := gn_bd2 h
    refine hc_V (rest := []) ⟨hx, hb, hml, hown, hts⟩ hN hF hK hP hD hS (c_X7_laysRings l z K _ o g _ _ r4 S5 qS5) (cwV 1 hts gX7_rings_X7_laysRings rfl rfl rfl (by decide +kernel) ⟨(Nat.le_of_ble_eq_true rfl), (Nat.le_of_ble_eq_true rfl)⟩) (va_recv hK hP (ci := 6) (q0 := 12) rfl rfl) rfl hl.1 rfl (Nat.le_of_ble_eq_true rfl) dX7_rings_23 hcl hsl (fun H locs hP hD hS => ?_)
    have hP : va_P K.1 vwCl (wd K C S5 o g) H := hP
    have hD : va_D (inA K) (wd K C S5 o g) := hD
    refine W.eq (g2 := F0 m 26 ls [.int r4]) rfl ?_
    refine lv_istore_n (lv' := [(3, .int r4), (0, .ref (K.2.2.1 12)), (1, .int a0), (2, .int a1)]) hx hb dX7_rings_26 rfl hl (by decide) rfl (fun ls hl => ?_)
    refine lv_iload_n hx hb dX7_rings_27 rfl (lv_at hl 3 rfl) ?_
    refine lv_iconst (v := (-1 : Int32)) hx hb dX7_rings_28 (by decide) ?_
    refine lv_icmp_ne (tgt := 36) hx hb dX7_rings_29 (by decide) (fun c6 => ?_) (fun c6 => ?_)
    · have h := gn_f h c6
      refine lv_iload_n hx hb dX7_rings_36 rfl (lv_at hl 3 rfl) ?_
      refine lv_i2l hx hb dX7_rings_37 rfl ?_
      refine lv_lconst (v := (0 : Int64)) hx hb dX7_rings_38 (by decide) ?_
      refine lv_iload_n hx hb dX7_rings_39 rfl (lv_at hl 0 rfl) ?_
      refine lv_iconst (v := (1 : Int32)) hx hb dX7_rings_40 (by decide) ?_
      refine lv_isub hx hb dX7_rings_41 ?_
      refine lv_i2l hx hb dX7_rings_42 rfl ?_
      obtain ⟨r7, qr7, h⟩ := gn_bd h
      refine pc_S (rest := []) ⟨hx, hb, hml, hown, hts⟩ hN (c_X7_isIn l z _ _ _ r7 qr7) (va_cwS 3 hts gX7_rings_X7_isIn rfl rfl rfl (by decide +kernel) ⟨(Nat.le_of_ble_eq_true rfl), (Nat.le_of_ble_eq_true rfl)⟩) rfl hl.1 rfl (Nat.le_of_ble_eq_true rfl) dX7_rings_43 hcl hsl ?_
      refine lv_if_eq (tgt := 59) hx hb dX7_rings_46 (by decide) (fun c8 => ?_) (fun c8 => ?_)
      · have h := gn_t h c8
        refine lv_iconst (v := (-1 : Int32)) hx hb dX7_rings_59 (by decide) ?_
        obtain ⟨rfl, rfl⟩ := Prod.mk.inj (gn_some h)
        exact W.iret hx hb hr (fun t ht _ => ⟨rfl, by rw [ht]; exact hP, hD, hS.F ht⟩) hS.2.2 dX7_rings_60 hlk
      · have h := gn_f h c8
        refine lv_aload_n hx hb dX7_rings_49 rfl (lv_at hl 1 rfl) ?_
        refine va_get (D := K.1) (ci := 6) (v := .ref (K.2.2.1 13)) (C := RX7) (T := TX7) (N := 24) hx hb hts in_X7_rings_X7 hown hK hP 12 rfl rfl 3 (by decide) (hts (.fieldLink RX7 7 "SawSumsModel" "row" "[J") (by decide +kernel)) (fun _ h9 => h9) rfl dX7_rings_50 ?_
        refine lv_iload_n hx hb dX7_rings_53 rfl (lv_at hl 3 rfl) ?_
        obtain ⟨n9, h⟩ := gn_yz h
        refine va_lald hx hb hK hP 13 0 rfl rfl (ib_in n9) dX7_rings_54 ?_
        refine lv_l2i hx hb dX7_rings_55 rfl ?_
        refine lv_goto (tgt := 60) hx hb dX7_rings_56 (by decide) ?_
        obtain ⟨rfl, rfl⟩ := Prod.mk.inj (gn_some h)
        exact W.iret hx hb hr (fun t ht _ => ⟨rfl, by rw [ht]; exact hP, hD, hS.F ht⟩) hS.2.2 dX7_rings_60 hlk
    · have h := gn_t h c6
      refine lv_iload_n hx hb dX7_rings_32 rfl (lv_at hl 0 rfl) ?_
      refine lv_goto (tgt := 60) hx hb dX7_rings_33 (by decide) ?_
      obtain ⟨rfl, rfl⟩ := Prod.mk.inj (gn_some h)
      exact W.iret hx hb hr (fun t ht _ => ⟨rfl, by rw [ht]; exact hP, hD, hS.F ht⟩) hS.2.2 dX7_rings_60 hlk
  · have h := gn_t h c3
    refine lv_iconst (v := (-1 : Int32)) hx hb dX7_rings_19 (by decide) ?_
    obtain ⟨rfl, rfl⟩ := Prod.mk.inj (gn_some h)
    exact W.iret hx hb hr (fun t ht _ => ⟨rfl, by rw [ht]; exact hP, hD, hS.F ht⟩) hS.2.2 dX7_rings_20 hlk
theorem in_X7_twins_X7 : ∀ w ∈ wsX70, w ∈ wsX7_twins := fun _ h => List.mem_cons_of_mem _ (List.mem_append_right _ h)
def rm_X7_twins : Room := { frames := 4, cells := 0, slots := 0, locals := 98 }
section
variable {p : Program} {l : Launch} {e : Env} {s : State} {m : MethodId} {args : Array Value} {below : List Frame} {meth : Method} {c : Code} {z : Nat} {K : Ev} {C : CS} {o : Nat → Int64} {g : Gh}
set_option maxRecDepth 100000 in
theorem w_X7_twins_62 (Cc : Cx p s m args meth c cX7_twins 9 RX7 wsX7_twins (some .int)) (hK : va_K K.1 vwCl (tysOf K) s) (hF : SF K s) {r : Int32} {S' : MS} {k33 : Int32 → Int32 → Int32 → Int32 → Int32 → MS → Option (Int32 × MS)} (hk33 : ∀ (x1 : Int32) (x2 : Int32) (x3 : Int32) (x4 : Int32) (x5 : Int32) (S : MS) (H : Heap) (locs : List Loc), va_P K.1 vwCl (wd K C S o g) H → va_D (inA K) (wd K C S o g) → va_S (inA K) s.heap H locs → k33 x1 x2 x3 x4 x5 S = some (r, S') → ∀ ls, lv_has ls 9 [(0, .ref (K.2.2.1 12)), (1, .int x1), (2, .int x2), (3, .int x3), (4, .int x4), (5, .int x5)] → W p l e rm_X7_twins s m args below meth c H locs 0 0 (MQ below (qR K (some (.int r)) C S' o g) args s 0 0 (inA K)) (F0 m 33 ls [])) (n : Nat) : ∀ (x1 : Int32) (x2 : Int32) (x3 : Int32) (x4 : Int32) (x5 : Int32) (x6 : Int64) (x8 : Int32) (S : MS) (H : Heap) (locs : List Loc), va_P K.1 vwCl (wd K C S o g) H → va_D (inA K) (wd K C S o g) → va_S (inA K) s.heap H locs → G_X7_twins_62 z k33 n x1 x2 x3 x4 x5 x6 x8 S = some (r, S') → ∀ ls, lv_has ls 9 [(0, .ref (K.2.2.1 12)), (1, .int x1), (2, .int x2), (3, .int x3), (4, .int x4), (5, .int x5), (6, .long x6), (8, .int x8)] → W p l e rm_X7_twins s m args below meth c H locs 0 0 (MQ below (qR K (some (.int r)) C S' o g) args s 0 0 (inA K)) (F0 m 62 ls []) := by
  obtain ⟨hx, hb, hml, hown, hts, hr, hlk, hN⟩ := id Cc
  have hcl : 0 ≤ (rm_X7_twins).cells := Nat.zero_le _
  have hsl : 0 ≤ (rm_X7_twins).slots := Nat.zero_le _
  induction n with
  | zero => intro x1 x2 x3 x4 x5 x6 x8 S H locs hP hD hS h; cases h
  | succ n ih =>
    intro x1 x2 x3 x4 x5 x6 x8 S H locs hP hD hS h ls hl
    rw [G_X7_twins_62] at h
    refine lv_iload hx hb dX7_twins_62 (lv_at hl 7 rfl) ?_
    refine lv_iload_n hx hb dX7_twins_64 rfl (lv_at hl 3 rfl) ?_
    refine lv_icmp_ge (tgt := 128) hx hb dX7_twins_65 (by decide) (fun c1 => ?_) (fun c1 => ?_)
    · have h := gn_t h c1
      obtain ⟨v2, ev2, h⟩ := gn_nm h
      refine lv_iinc (v := v2) (lv' := [(5, .int v2), (0, .ref (K.2.2.1 12)), (1, .int x1), (2, .int x2), (3, .int x3), (4, .int x4), (6, .long x6), (8, .int x8)]) hx hb dX7_twins_128 hl (k := 5) rfl (by rw [ev2]; rfl) (by decide) rfl (fun ls hl => ?_)
      refine lv_goto (tgt := 33) hx hb dX7_twins_131 (by decide) ?_
      exact hk33 x1 x2 x3 x4 v2 S _ _ hP hD hS h ls (lv_sub hl [1, 2, 3, 4, 5, 0] rfl)
    · have h := gn_f h c1
      refine lv_aload_n hx hb dX7_twins_68 rfl (lv_at hl 0 rfl) ?_
      refine va_get (D := K.1) (ci := 6) (v := .ref (K.2.2.1 13)) (C := RX7) (T := TX7) (N := 24) hx hb hts in_X7_twins_X7 hown hK hP 12 rfl rfl 3 (by decide) (hts (.fieldLink RX7 7 "SawSumsModel" "row" "[J") (by decide +kernel)) (fun _ h9 => h9) rfl dX7_twins_69 ?_
      refine lv_iload hx hb dX7_twins_72 (lv_at hl 7 rfl) ?_
      obtain ⟨n3, h⟩ := gn_yz h
      refine va_lald hx hb hK hP 13 0 rfl rfl (ib_in n3) dX7_twins_74 ?_
      refine lv_iload_n hx hb dX7_twins_75 rfl (lv_at hl 1 rfl) ?_
      refine lv_i2l hx hb dX7_twins_76 rfl ?_
      obtain ⟨r4, qr4, h⟩ := gn_bd h
      refine pc_S (rest := []) ⟨hx, hb, hml, hown, hts⟩ hN (c_X7_twelve l z _ _ r4 qr4) (va_cwS 2 hts gX7_twins_X7_twelve rfl rfl rfl (by decide +kernel) ⟨(Nat.le_of_ble_eq_true rfl), (Nat.le_of_ble_eq_true rfl)⟩) rfl hl.1 rfl (Nat.le_of_ble_eq_true rfl) dX7_twins_77 hcl hsl ?_
      obtain ⟨r5, qr5, h⟩ := gn_bd h
      refine pc_S (rest := []) ⟨hx, hb, hml, hown, hts⟩ hN (c_X7_size l z _ r5 qr5) (va_cwS 1 hts gX7_twins_X7_size rfl rfl rfl (by decide +kernel) ⟨(Nat.le_of_ble_eq_true rfl), (Nat.le_of_ble_eq_true rfl)⟩) rfl hl.1 rfl (Nat.le_of_ble_eq_true rfl) dX7_twins_80 hcl hsl ?_
      refine lv_lload hx hb dX7_twins_83 (lv_at hl 6 rfl) ?_
      refine ll_eq (tgt := 92) hx hb dX7_twins_85 dX7_twins_86 (by decide) (fun c6 => ?_) (fun c6 => ?_)
      · have h := gn_t h c6
        refine lv_iload hx hb dX7_twins_92 (lv_at hl 4 rfl) ?_
        refine lv_iload_n hx hb dX7_twins_94 rfl (lv_at hl 2 rfl) ?_
        refine lv_icmp_ne (tgt := 119) hx hb dX7_twins_95 (by decide) (fun c7 => ?_) (fun c7 => ?_)
        · have h := gn_f h c7
          obtain ⟨v8, ev8, h⟩ := gn_nm h
          refine lv_iinc (v := v8) (lv' := [(4, .int v8), (0, .ref (K.2.2.1 12)), (1, .int x1), (2, .int x2), (3, .int x3), (5, .int x5), (6, .long x6), (8, .int x8)]) hx hb dX7_twins_119 hl (k := 4) rfl (by rw [ev8]; rfl) (by decide) rfl (fun ls hl => ?_)
          obtain ⟨v9, ev9, h⟩ := gn_nm h
          refine lv_iinc (v := v9) (lv' := [(8, .int v9), (4, .int v8), (0, .ref (K.2.2.1 12)), (1, .int x1), (2, .int x2), (3, .int x3), (5, .int x5), (6, .long x6)]) hx hb dX7_twins_122 hl (k := 7) rfl (by rw [ev9]; rfl) (by decide) rfl (fun ls hl => ?_)
          refine lv_goto (tgt := 62) hx hb dX7_twins_125 (by decide) ?_
          exact ih x1 x2 x3 v8 x5 x6 v9 S _ _ hP hD hS h ls (lv_sub hl [2, 3, 4, 5, 1, 6, 7, 0] rfl)
        · have h := gn_t h c7
          refine lv_ldc2 hx hb hown (hts (.constantLong RX7 95 (1000)) (by decide +kernel)) dX7_twins_98 ?_
          refine lv_aload_n hx hb dX7_twins_101 rfl (lv_at hl 0 rfl) ?_
          refine va_get (D := K.1) (ci := 6) (v := .ref (K.2.2.1 13)) (C := RX7) (T := TX7) (N := 24) hx hb hts in_X7_twins_X7 hown hK hP 12 rfl rfl 3 (by decide) (hts (.fieldLink RX7 7 "SawSumsModel" "row" "[J") (by decide +kernel)) (fun _ h9 => h9) rfl dX7_twins_102 ?_
          refine lv_iload hx hb dX7_twins_105 (lv_at hl 5 rfl) ?_
          obtain ⟨n10, h⟩ := gn_yz h
          refine va_lald hx hb hK hP 13 0 rfl rfl (ib_in n10) dX7_twins_107 ?_
          refine lv_lmul hx hb dX7_twins_108 ?_
          refine lv_aload_n hx hb dX7_twins_109 rfl (lv_at hl 0 rfl) ?_
          refine va_get (D := K.1) (ci := 6) (v := .ref (K.2.2.1 13)) (C := RX7) (T := TX7) (N := 24) hx hb hts in_X7_twins_X7 hown hK hP 12 rfl rfl 3 (by decide) (hts (.fieldLink RX7 7 "SawSumsModel" "row" "[J") (by decide +kernel)) (fun _ h9 => h9) rfl dX7_twins_110 ?_
          refine lv_iload hx hb dX7_twins_113 (lv_at hl 7 rfl) ?_
          obtain ⟨n11, h⟩ := gn_yz h
          refine va_lald hx hb hK hP 13 0 rfl rfl (ib_in n11) dX7_twins_115 ?_
          refine lv_ladd hx hb dX7_twins_116 ?_
          refine lv_l2i hx hb dX7_twins_117 rfl ?_
          obtain ⟨rfl, rfl⟩ := Prod.mk.inj (gn_some h)
          exact W.iret hx hb hr (fun t ht _ => ⟨rfl, by rw [ht]; exact hP, hD, hS.F ht⟩) hS.2.2 dX7_twins_118 hlk
      · have h := gn_f h c6
        refine lv_goto (tgt := 122) hx hb dX7_twins_89 (by decide) ?_
        obtain ⟨v12, ev12, h⟩ := gn_nm h
        refine lv_iinc (v := v12) (lv' := [(8, .int v12), (0, .ref (K.2.2.1 12)), (1, .int x1), (2, .int x2), (3, .int x3), (4, .int x4), (5, .int x5), (6, .long x6)]) hx hb dX7_twins_122 hl (k := 7) rfl (by rw [ev12]; rfl) (by decide) rfl (fun ls hl => ?_)
        refine lv_goto (tgt := 62) hx hb dX7_twins_125 (by decide) ?_
        exact ih x1 x2 x3 x4 x5 x6 v12 S _ _ hP hD hS h ls (lv_sub hl [1, 2, 3, 4, 5, 6, 7, 0] rfl)
set_option maxRecDepth 100000 in
theorem w_X7_twins_33 (Cc : Cx p s m args meth c cX7_twins 9 RX7 wsX7_twins (some .int)) (hK : va_K K.1 vwCl (tysOf K) s) (hF : SF K s) {r : Int32} {S' : MS} (n : Nat) : ∀ (x1 : Int32) (x2 : Int32) (x3 : Int32) (x4 : Int32) (x5 : Int32) (S : MS) (H : Heap) (locs : List Loc), va_P K.1 vwCl (wd K C S o g) H → va_D (inA K) (wd K C S o g) → va_S (inA K) s.heap H locs → G_X7_twins_33 z n x1 x2 x3 x4 x5 S = some (r, S') → ∀ ls, lv_has ls 9 [(0, .ref (K.2.2.1 12)), (1, .int x1), (2, .int x2), (3, .int x3), (4, .int x4), (5, .int x5)] → W p l e rm_X7_twins s m args below meth c H locs 0 0 (MQ below (qR K (some (.int r)) C S' o g) args s 0 0 (inA K)) (F0 m 33 ls []) := by
  obtain ⟨hx, hb, hml, hown, hts, hr, hlk, hN⟩ := id Cc
  have hcl : 0 ≤ (rm_X7_twins).cells := Nat.zero_le _
  have hsl : 0 ≤ (rm_X7_twins).slots := Nat.zero_le _
  induction n with
  | zero => intro x1 x2 x3 x4 x5 S H locs hP hD hS h; cases h
  | succ n ih =>
    intro x1 x2 x3 x4 x5 S H locs hP hD hS h ls hl
    rw [G_X7_twins_33] at h
    refine lv_iload hx hb dX7_twins_33 (lv_at hl 5 rfl) ?_
    refine lv_iload_n hx hb dX7_twins_35 rfl (lv_at hl 3 rfl) ?_
    refine lv_icmp_ge (tgt := 134) hx hb dX7_twins_36 (by decide) (fun c1 => ?_) (fun c1 => ?_)
    · have h := gn_t h c1
      refine lv_iload_n hx hb dX7_twins_134 rfl (lv_at hl 2 rfl) ?_
      refine lv_iconst (v := (-1 : Int32)) hx hb dX7_twins_135 (by decide) ?_
      refine lv_icmp_ne (tgt := 144) hx hb dX7_twins_136 (by decide) (fun c2 => ?_) (fun c2 => ?_)
      · have h := gn_f h c2
        refine lv_iconst (v := (-1 : Int32)) hx hb dX7_twins_144 (by decide) ?_
        obtain ⟨rfl, rfl⟩ := Prod.mk.inj (gn_some h)
        exact W.iret hx hb hr (fun t ht _ => ⟨rfl, by rw [ht]; exact hP, hD, hS.F ht⟩) hS.2.2 dX7_twins_145 hlk
      · have h := gn_t h c2
        refine lv_iload hx hb dX7_twins_139 (lv_at hl 4 rfl) ?_
        refine lv_goto (tgt := 145) hx hb dX7_twins_141 (by decide) ?_
        obtain ⟨rfl, rfl⟩ := Prod.mk.inj (gn_some h)
        exact W.iret hx hb hr (fun t ht _ => ⟨rfl, by rw [ht]; exact hP, hD, hS.F ht⟩) hS.2.2 dX7_twins_145 hlk
    · have h := gn_f h c1
      refine lv_aload_n hx hb dX7_twins_39 rfl (lv_at hl 0 rfl) ?_
      refine va_get (D := K.1) (ci := 6) (v := .ref (K.2.2.1 13)) (C := RX7) (T := TX7) (N := 24) hx hb hts in_X7_twins_X7 hown hK hP 12 rfl rfl 3 (by decide) (hts (.fieldLink RX7 7 "SawSumsModel" "row" "[J") (by decide +kernel)) (fun _ h9 => h9) rfl dX7_twins_40 ?_
      refine lv_iload hx hb dX7_twins_43 (lv_at hl 5 rfl) ?_
      obtain ⟨n3, h⟩ := gn_yz h
      refine va_lald hx hb hK hP 13 0 rfl rfl (ib_in n3) dX7_twins_45 ?_
      refine lv_iload_n hx hb dX7_twins_46 rfl (lv_at hl 1 rfl) ?_
      refine lv_i2l hx hb dX7_twins_47 rfl ?_
      obtain ⟨r4, qr4, h⟩ := gn_bd h
      refine pc_S (rest := []) ⟨hx, hb, hml, hown, hts⟩ hN (c_X7_twelve l z _ _ r4 qr4) (va_cwS 2 hts gX7_twins_X7_twelve rfl rfl rfl (by decide +kernel) ⟨(Nat.le_of_ble_eq_true rfl), (Nat.le_of_ble_eq_true rfl)⟩) rfl hl.1 rfl (Nat.le_of_ble_eq_true rfl) dX7_twins_48 hcl hsl ?_
      obtain ⟨r5, qr5, h⟩ := gn_bd h
      refine pc_S (rest := []) ⟨hx, hb, hml, hown, hts⟩ hN (c_X7_size l z _ r5 qr5) (va_cwS 1 hts gX7_twins_X7_size rfl rfl rfl (by decide +kernel) ⟨(Nat.le_of_ble_eq_true rfl), (Nat.le_of_ble_eq_true rfl)⟩) rfl hl.1 rfl (Nat.le_of_ble_eq_true rfl) dX7_twins_51 hcl hsl ?_
      refine lv_lstore (lv' := [(6, .long r5), (0, .ref (K.2.2.1 12)), (1, .int x1), (2, .int x2), (3, .int x3), (4, .int x4), (5, .int x5)]) hx hb dX7_twins_54 hl (by decide) rfl (fun ls hl => ?_)
      refine lv_iload hx hb dX7_twins_56 (lv_at hl 6 rfl) ?_
      refine lv_iconst (v := (1 : Int32)) hx hb dX7_twins_58 (by decide) ?_
      refine lv_iadd hx hb dX7_twins_59 ?_
      obtain ⟨v6, ev6, h⟩ := gn_nm h
      refine ln_i ev6 ?_
      refine lv_istore (lv' := [(8, .int v6), (6, .long r5), (0, .ref (K.2.2.1 12)), (1, .int x1), (2, .int x2), (3, .int x3), (4, .int x4), (5, .int x5)]) hx hb dX7_twins_60 hl (by decide) rfl (fun ls hl => ?_)
      exact w_X7_twins_62 Cc hK hF ih z x1 x2 x3 x4 x5 r5 v6 S _ _ hP hD hS h ls (lv_sub hl [2, 3, 4, 5, 6, 7, 1, 0] rfl)
end
set_option maxRecDepth 100000 in
theorem c_X7_twins (l : Launch) (z : Nat) (K : Ev) (C : CS) (o : Nat → Int64) (g : Gh) (a0 : Int32) (a1 : Int32) (S : MS) (r : Int32) (S' : MS) (h : F_X7_twins z a0 a1 S = some (r, S')) : Met l yX7_twins wsX7_twins rm_X7_twins (qH K [.ref (K.2.2.1 12), .int a0, .int a1] C S o g) (qR K (some (.int r)) C S' o g) 0 0 (inA K) := by
  refine Met.ofW (cc := cX7_twins) (maxL := 9) (ret := (some .int)) (by decide) rfl ?_
  intro p e s m args below meth c s₁ B hml hv
  obtain ⟨rfl, hN, hP, hK, hD, hF⟩ := hv
  have hx := B.exec
  have hb := B.bytes
  have hr := B.returns
  have hts := atoms_spec (ws := wsX7_twins) B.pre
  have hown : s.vm.findClass RX7 = some m.cls := findClass_of_methodNamed B.named
  have hlk := B.notSynchronized
  have hcl : 0 ≤ (rm_X7_twins).cells := Nat.zero_le _
  have hsl : 0 ≤ (rm_X7_twins).slots := Nat.zero_le _
  have Cc : Cx p s m _ meth c cX7_twins 9 RX7 wsX7_twins (some .int) := ⟨hx, hb, hml, hown, hts, hr, hlk, hN⟩
  have hS : va_S (inA K) s.heap s.heap [] := va_S.rf
  have hl := lv_entry ([.ref (K.2.2.1 12), .int a0, .int a1]) (n := 9) (Nat.le_of_ble_eq_true rfl)
  rw [lg_entry_eq]
  generalize (lg_sl ([.ref (K.2.2.1 12), .int a0, .int a1]) ++ List.replicate (9 - (lg_sl ([.ref (K.2.2.1 12), .int a0, .int a1])).length) Slot.unset).toArray = ls at hl ⊢
  have hl : lv_has ls 9 [(0, .ref (K.2.2.1 12)), (1, .int a0), (2, .int a1)] := hl
  rw [F_X7_twins] at h
  refine lv_aload_n hx hb dX7_twins_0 rfl (lv_at hl 0 rfl) ?_
  refine lv_iconst (v := (0 : Int32)) hx hb dX7_twins_1 (by decide) ?_
  obtain ⟨S1, eS1, h⟩ := gn_nm h
  refine va_put (D := K.1) (ci := 6) (v := .int (0 : Int32)) (ty := .int) (C := RX7) (T := TX7) (N := 24) hx hb hts in_X7_twins_X7 tyX7 tyX7_ok nmX7 hown hK hP hD hS 12 rfl rfl 0 (by decide) (hts (.fieldLink RX7 33 "SawSumsModel" "thrown" "I") (by decide +kernel)) (fun _ h9 => h9) rfl (by decide +kernel) rfl rfl (Nat.le_of_ble_eq_true rfl) dX7_twins_2 (fun H locs hP hD hS => ?_)
  have hP : va_P K.1 vwCl (wd K C S1 o g) H := by rw [eS1]; exact hP
  have hD : va_D (inA K) (wd K C S1 o g) := by rw [eS1]; exact hD
  refine lv_iload_n hx hb dX7_twins_5 rfl (lv_at hl 1 rfl) ?_
  refine lv_i2l hx hb dX7_twins_6 rfl ?_
  refine lv_ldc2 hx hb hown (hts (.constantLong RX7 85 (2)) (by decide +kernel)) dX7_twins_7 ?_
  refine lv_ldc2 hx hb hown (hts (.constantLong RX7 95 (1000)) (by decide +kernel)) dX7_twins_10 ?_
  obtain ⟨r2, qr2, h⟩ := gn_bd h
  refine pc_S (rest := []) ⟨hx, hb, hml, hown, hts⟩ hN (c_X7_isIn l z _ _ _ r2 qr2) (va_cwS 3 hts gX7_twins_X7_isIn rfl rfl rfl (by decide +kernel) ⟨(Nat.le_of_ble_eq_true rfl), (Nat.le_of_ble_eq_true rfl)⟩) rfl hl.1 rfl (Nat.le_of_ble_eq_true rfl) dX7_twins_13 hcl hsl ?_
  refine lv_if_ne (tgt := 21) hx hb dX7_twins_16 (by decide) (fun c3 => ?_) (fun c3 => ?_)
  · have h := gn_f h c3
    refine lv_aload_n hx hb dX7_twins_21 rfl (lv_at hl 0 rfl) ?_
    refine lv_iload_n hx hb dX7_twins_22 rfl (lv_at hl 1 rfl) ?_
    obtain ⟨r4, S5, qS5, h⟩ := gn_bd2 h
    refine hc_V (rest := []) ⟨hx, hb, hml, hown, hts⟩ hN hF hK hP hD hS (c_X7_laysRings l z K _ o g _ _ r4 S5 qS5) (cwV 1 hts gX7_twins_X7_laysRings rfl rfl rfl (by decide +kernel) ⟨(Nat.le_of_ble_eq_true rfl), (Nat.le_of_ble_eq_true rfl)⟩) (va_recv hK hP (ci := 6) (q0 := 12) rfl rfl) rfl hl.1 rfl (Nat.le_of_ble_eq_true rfl) dX7_twins_23 hcl hsl (fun H locs hP hD hS => ?_)
    have hP : va_P K.1 vwCl (wd K C S5 o g) H := hP
    have hD : va_D (inA K) (wd K C S5 o g) := hD
    refine W.eq (g2 := F0 m 26 ls [.int r4]) rfl ?_
    refine lv_istore_n (lv' := [(3, .int r4), (0, .ref (K.2.2.1 12)), (1, .int a0), (2, .int a1)]) hx hb dX7_twins_26 rfl hl (by decide) rfl (fun ls hl => ?_)
    refine lv_iconst (v := (0 : Int32)) hx hb dX7_twins_27 (by decide) ?_
    refine lv_istore (lv' := [(4, .int (0 : Int32)), (3, .int r4), (0, .ref (K.2.2.1 12)), (1, .int a0), (2, .int a1)]) hx hb dX7_twins_28 hl (by decide) rfl (fun ls hl => ?_)
    refine lv_iconst (v := (0 : Int32)) hx hb dX7_twins_30 (by decide) ?_
    refine lv_istore (lv' := [(5, .int (0 : Int32)), (4, .int (0 : Int32)), (3, .int r4), (0, .ref (K.2.2.1 12)), (1, .int a0), (2, .int a1)]) hx hb dX7_twins_31 hl (by decide) rfl (fun ls hl => ?_)
    exact w_X7_twins_33 Cc hK hF z a0 a1 r4 (0 : Int32) (0 : Int32) S5 _ _ hP hD hS h ls (lv_sub hl [3, 4, 5, 2, 1, 0] rfl)
  · have h := gn_t h c3
    refine lv_iconst (v := (-1 : Int32)) hx hb dX7_twins_19 (by decide) ?_
    obtain ⟨rfl, rfl⟩ := Prod.mk.inj (gn_some h)
    exact W.iret hx hb hr (fun t ht _ => ⟨rfl, by rw [ht]; exact hP, hD, hS.F ht⟩) hS.2.2 dX7_twins_20 hlk
theorem in_X7_put_X7 : ∀ w ∈ wsX70, w ∈ wsX7_put := fun _ h => List.mem_cons_of_mem _ (List.mem_append_right _ h)
def rm_X7_put : Room := { frames := 0, cells := 0, slots := 0, locals := 0 }
section
variable {p : Program} {l : Launch} {e : Env} {s : State} {m : MethodId} {args : Array Value} {below : List Frame} {meth : Method} {c : Code} {z : Nat} {K : Ev} {C : CS} {o : Nat → Int64} {g : Gh}
set_option maxRecDepth 100000 in
theorem w_X7_put_3 (Cc : Cx p s m args meth c cX7_put 3 RX7 wsX7_put none) (hK : va_K K.1 vwCl (tysOf K) s) (hF : SF K s)  {S' : MS} (n : Nat) : ∀ (x1 : Int32) (x2 : Int32) (S : MS) (H : Heap) (locs : List Loc), va_P K.1 vwCl (wd K C S o g) H → va_D (inA K) (wd K C S o g) → va_S (inA K) s.heap H locs → G_X7_put_3 z n x1 x2 S = some S' → ∀ ls, lv_has ls 3 [(0, .ref (K.2.2.1 12)), (1, .int x1), (2, .int x2)] → W p l e rm_X7_put s m args below meth c H locs 0 0 (MQ below (qR K none C S' o g) args s 0 0 (inA K)) (F0 m 3 ls []) := by
  obtain ⟨hx, hb, hml, hown, hts, hr, hlk, hN⟩ := id Cc
  have hcl : 0 ≤ (rm_X7_put).cells := Nat.zero_le _
  have hsl : 0 ≤ (rm_X7_put).slots := Nat.zero_le _
  induction n with
  | zero => intro x1 x2 S H locs hP hD hS h; cases h
  | succ n ih =>
    intro x1 x2 S H locs hP hD hS h ls hl
    rw [G_X7_put_3] at h
    refine lv_iload_n hx hb dX7_put_3 rfl (lv_at hl 2 rfl) ?_
    refine lv_if_lt (tgt := 36) hx hb dX7_put_4 (by decide) (fun c1 => ?_) (fun c1 => ?_)
    · have h := gn_t h c1
      obtain rfl := gn_some h
      exact W.vret hx hb hr (fun t ht _ => ⟨rfl, by rw [ht]; exact hP, hD, hS.F ht⟩) hS.2.2 dX7_put_36 hlk
    · have h := gn_f h c1
      refine lv_aload_n hx hb dX7_put_7 rfl (lv_at hl 0 rfl) ?_
      refine va_get (D := K.1) (ci := 6) (v := .ref (K.2.2.1 14)) (C := RX7) (T := TX7) (N := 24) hx hb hts in_X7_put_X7 hown hK hP 12 rfl rfl 8 (by decide) (hts (.fieldLink RX7 13 "SawSumsModel" "tape" "[B") (by decide +kernel)) (fun _ h9 => h9) rfl dX7_put_8 ?_
      refine lv_aload_n hx hb dX7_put_11 rfl (lv_at hl 0 rfl) ?_
      refine va_get (D := K.1) (ci := 6) (v := .int (mg_taped S)) (C := RX7) (T := TX7) (N := 24) hx hb hts in_X7_put_X7 hown hK hP 12 rfl rfl 9 (by decide) (hts (.fieldLink RX7 178 "SawSumsModel" "taped" "I") (by decide +kernel)) (fun _ h9 => h9) rfl dX7_put_12 ?_
      refine lv_iload_n hx hb dX7_put_15 rfl (lv_at hl 1 rfl) ?_
      refine lv_iload_n hx hb dX7_put_16 rfl (lv_at hl 2 rfl) ?_
      refine lv_ishr hx hb dX7_put_17 ?_
      refine lv_i2b hx hb dX7_put_18 rfl ?_
      obtain ⟨n2, h⟩ := gn_yz h
      obtain ⟨S3, eS3, h⟩ := gn_nm h
      refine va_bast hx hb hK hP hD hS 14 1 rfl rfl (ib_in n2) dX7_put_19 (fun H locs hP hD hS => ?_)
      have hP : va_P K.1 vwCl (wd K C S3 o g) H := by rw [eS3]; exact hP
      have hD : va_D (inA K) (wd K C S3 o g) := by rw [eS3]; exact hD
      refine lv_aload_n hx hb dX7_put_20 rfl (lv_at hl 0 rfl) ?_
      refine lv_dup hx hb dX7_put_21 rfl ?_
      refine va_get (D := K.1) (ci := 6) (v := .int (mg_taped S3)) (C := RX7) (T := TX7) (N := 24) hx hb hts in_X7_put_X7 hown hK hP 12 rfl rfl 9 (by decide) (hts (.fieldLink RX7 178 "SawSumsModel" "taped" "I") (by decide +kernel)) (fun _ h9 => h9) rfl dX7_put_22 ?_
      refine lv_iconst (v := (1 : Int32)) hx hb dX7_put_25 (by decide) ?_
      refine lv_iadd hx hb dX7_put_26 ?_
      obtain ⟨v4, ev4, h⟩ := gn_nm h
      refine ln_i ev4 ?_
      obtain ⟨S5, eS5, h⟩ := gn_nm h
      refine va_put (D := K.1) (ci := 6) (v := .int v4) (ty := .int) (C := RX7) (T := TX7) (N := 24) hx hb hts in_X7_put_X7 tyX7 tyX7_ok nmX7 hown hK hP hD hS 12 rfl rfl 9 (by decide) (hts (.fieldLink RX7 178 "SawSumsModel" "taped" "I") (by decide +kernel)) (fun _ h9 => h9) rfl (by decide +kernel) rfl rfl (Nat.le_of_ble_eq_true rfl) dX7_put_27 (fun H locs hP hD hS => ?_)
      have hP : va_P K.1 vwCl (wd K C S5 o g) H := by rw [eS5]; exact hP
      have hD : va_D (inA K) (wd K C S5 o g) := by rw [eS5]; exact hD
      obtain ⟨v6, ev6, h⟩ := gn_nm h
      refine lv_iinc (v := v6) (lv' := [(2, .int v6), (0, .ref (K.2.2.1 12)), (1, .int x1)]) hx hb dX7_put_30 hl (k := 2) rfl (by rw [ev6]; rfl) (by decide) rfl (fun ls hl => ?_)
      refine lv_goto (tgt := 3) hx hb dX7_put_33 (by decide) ?_
      exact ih x1 v6 S5 _ _ hP hD hS h ls (lv_sub hl [1, 2, 0] rfl)
end
set_option maxRecDepth 100000 in
theorem c_X7_put (l : Launch) (z : Nat) (K : Ev) (C : CS) (o : Nat → Int64) (g : Gh) (a0 : Int32) (S : MS)  (S' : MS) (h : F_X7_put z a0 S = some S') : Met l yX7_put wsX7_put rm_X7_put (qH K [.ref (K.2.2.1 12), .int a0] C S o g) (qR K none C S' o g) 0 0 (inA K) := by
  refine Met.ofW (cc := cX7_put) (maxL := 3) (ret := none) (by decide) rfl ?_
  intro p e s m args below meth c s₁ B hml hv
  obtain ⟨rfl, hN, hP, hK, hD, hF⟩ := hv
  have hx := B.exec
  have hb := B.bytes
  have hr := B.returns
  have hts := atoms_spec (ws := wsX7_put) B.pre
  have hown : s.vm.findClass RX7 = some m.cls := findClass_of_methodNamed B.named
  have hlk := B.notSynchronized
  have hcl : 0 ≤ (rm_X7_put).cells := Nat.zero_le _
  have hsl : 0 ≤ (rm_X7_put).slots := Nat.zero_le _
  have Cc : Cx p s m _ meth c cX7_put 3 RX7 wsX7_put none := ⟨hx, hb, hml, hown, hts, hr, hlk, hN⟩
  have hS : va_S (inA K) s.heap s.heap [] := va_S.rf
  have hl := lv_entry ([.ref (K.2.2.1 12), .int a0]) (n := 3) (Nat.le_of_ble_eq_true rfl)
  rw [lg_entry_eq]
  generalize (lg_sl ([.ref (K.2.2.1 12), .int a0]) ++ List.replicate (3 - (lg_sl ([.ref (K.2.2.1 12), .int a0])).length) Slot.unset).toArray = ls at hl ⊢
  have hl : lv_has ls 3 [(0, .ref (K.2.2.1 12)), (1, .int a0)] := hl
  rw [F_X7_put] at h
  refine lv_bipush (v := (24 : Int32)) hx hb dX7_put_0 (by decide) ?_
  refine lv_istore_n (lv' := [(2, .int (24 : Int32)), (0, .ref (K.2.2.1 12)), (1, .int a0)]) hx hb dX7_put_2 rfl hl (by decide) rfl (fun ls hl => ?_)
  exact w_X7_put_3 Cc hK hF z a0 (24 : Int32) S _ _ hP hD hS h ls (lv_sub hl [1, 2, 0] rfl)
theorem in_X7_feed_X7 : ∀ w ∈ wsX70, w ∈ wsX7_feed := fun _ h => List.mem_cons_of_mem _ (List.mem_append_right _ h)
def rm_X7_feed : Room := { frames := 1, cells := 0, slots := 0, locals := 22 }
section
variable {p : Program} {l : Launch} {e : Env} {s : State} {m : MethodId} {args : Array Value} {below : List Frame} {meth : Method} {c : Code} {z : Nat} {K : Ev} {C : CS} {o : Nat → Int64} {g : Gh}
end
set_option maxRecDepth 100000 in
theorem c_X7_feed (l : Launch) (z : Nat) (K : Ev) (C : CS) (o : Nat → Int64) (g : Gh) (a0 : Int32) (a1 : Int32) (a2 : Int32) (a3 : Int32) (a4 : Int32) (S : MS) (r : Int32) (S' : MS) (h : F_X7_feed z a0 a1 a2 a3 a4 S = some (r, S')) : Met l yX7_feed wsX7_feed rm_X7_feed (qH K [.ref (K.2.2.1 12), .int a0, .int a1, .int a2, .int a3, .int a4] C S o g) (qR K (some (.int r)) C S' o g) 0 0 (inA K) := by
  refine Met.ofW (cc := cX7_feed) (maxL := 6) (ret := (some .int)) (by decide) rfl ?_
  intro p e s m args below meth c s₁ B hml hv
  obtain ⟨rfl, hN, hP, hK, hD, hF⟩ := hv
  have hx := B.exec
  have hb := B.bytes
  have hr := B.returns
  have hts := atoms_spec (ws := wsX7_feed) B.pre
  have hown : s.vm.findClass RX7 = some m.cls := findClass_of_methodNamed B.named
  have hlk := B.notSynchronized
  have hcl : 0 ≤ (rm_X7_feed).cells := Nat.zero_le _
  have hsl : 0 ≤ (rm_X7_feed).slots := Nat.zero_le _
  have Cc : Cx p s m _ meth c cX7_feed 6 RX7 wsX7_feed (some .int) := ⟨hx, hb, hml, hown, hts, hr, hlk, hN⟩
  have hS : va_S (inA K) s.heap s.heap [] := va_S.rf
  have hl := lv_entry ([.ref (K.2.2.1 12), .int a0, .int a1, .int a2, .int a3, .int a4]) (n := 6) (Nat.le_of_ble_eq_true rfl)
  rw [lg_entry_eq]
  generalize (lg_sl ([.ref (K.2.2.1 12), .int a0, .int a1, .int a2, .int a3, .int a4]) ++ List.replicate (6 - (lg_sl ([.ref (K.2.2.1 12), .int a0, .int a1, .int a2, .int a3, .int a4])).length) Slot.unset).toArray = ls at hl ⊢
  have hl : lv_has ls 6 [(0, .ref (K.2.2.1 12)), (1, .int a0), (2, .int a1), (3, .int a2), (4, .int a3), (5, .int a4)] := hl
  rw [F_X7_feed] at h
  refine lv_aload_n hx hb dX7_feed_0 rfl (lv_at hl 0 rfl) ?_
  refine lv_iconst (v := (0 : Int32)) hx hb dX7_feed_1 (by decide) ?_
  obtain ⟨S1, eS1, h⟩ := gn_nm h
  refine va_put (D := K.1) (ci := 6) (v := .int (0 : Int32)) (ty := .int) (C := RX7) (T := TX7) (N := 24) hx hb hts in_X7_feed_X7 tyX7 tyX7_ok nmX7 hown hK hP hD hS 12 rfl rfl 0 (by decide) (hts (.fieldLink RX7 33 "SawSumsModel" "thrown" "I") (by decide +kernel)) (fun _ h9 => h9) rfl (by decide +kernel) rfl rfl (Nat.le_of_ble_eq_true rfl) dX7_feed_2 (fun H locs hP hD hS => ?_)
  have hP : va_P K.1 vwCl (wd K C S1 o g) H := by rw [eS1]; exact hP
  have hD : va_D (inA K) (wd K C S1 o g) := by rw [eS1]; exact hD
  refine lv_aload_n hx hb dX7_feed_5 rfl (lv_at hl 0 rfl) ?_
  refine va_get (D := K.1) (ci := 6) (v := .int (mg_taped S1)) (C := RX7) (T := TX7) (N := 24) hx hb hts in_X7_feed_X7 hown hK hP 12 rfl rfl 9 (by decide) (hts (.fieldLink RX7 178 "SawSumsModel" "taped" "I") (by decide +kernel)) (fun _ h9 => h9) rfl dX7_feed_6 ?_
  refine lv_bipush (v := (20 : Int32)) hx hb dX7_feed_9 (by decide) ?_
  refine lv_iadd hx hb dX7_feed_11 ?_
  refine lv_sipush (v := (300 : Int32)) hx hb dX7_feed_12 (by decide) ?_
  refine lv_icmp_le (tgt := 20) hx hb dX7_feed_15 (by decide) (fun c2 => ?_) (fun c2 => ?_)
  · have h := gn_t h c2
    refine lv_aload_n hx hb dX7_feed_20 rfl (lv_at hl 0 rfl) ?_
    refine lv_iload_n hx hb dX7_feed_21 rfl (lv_at hl 1 rfl) ?_
    obtain ⟨S3, qS3, h⟩ := gn_bd h
    refine hc_V (rest := []) ⟨hx, hb, hml, hown, hts⟩ hN hF hK hP hD hS (c_X7_put l z K _ o g _ _  S3 qS3) (cwV 1 hts gX7_feed_X7_put rfl rfl rfl (by decide +kernel) ⟨(Nat.le_of_ble_eq_true rfl), (Nat.le_of_ble_eq_true rfl)⟩) (va_recv hK hP (ci := 6) (q0 := 12) rfl rfl) rfl hl.1 rfl (Nat.le_of_ble_eq_true rfl) dX7_feed_22 hcl hsl (fun H locs hP hD hS => ?_)
    have hP : va_P K.1 vwCl (wd K C S3 o g) H := hP
    have hD : va_D (inA K) (wd K C S3 o g) := hD
    refine W.eq (g2 := F0 m 25 ls []) rfl ?_
    refine lv_aload_n hx hb dX7_feed_25 rfl (lv_at hl 0 rfl) ?_
    refine lv_iload_n hx hb dX7_feed_26 rfl (lv_at hl 2 rfl) ?_
    obtain ⟨S4, qS4, h⟩ := gn_bd h
    refine hc_V (rest := []) ⟨hx, hb, hml, hown, hts⟩ hN hF hK hP hD hS (c_X7_put l z K _ o g _ _  S4 qS4) (cwV 1 hts gX7_feed_X7_put rfl rfl rfl (by decide +kernel) ⟨(Nat.le_of_ble_eq_true rfl), (Nat.le_of_ble_eq_true rfl)⟩) (va_recv hK hP (ci := 6) (q0 := 12) rfl rfl) rfl hl.1 rfl (Nat.le_of_ble_eq_true rfl) dX7_feed_27 hcl hsl (fun H locs hP hD hS => ?_)
    have hP : va_P K.1 vwCl (wd K C S4 o g) H := hP
    have hD : va_D (inA K) (wd K C S4 o g) := hD
    refine W.eq (g2 := F0 m 30 ls []) rfl ?_
    refine lv_aload_n hx hb dX7_feed_30 rfl (lv_at hl 0 rfl) ?_
    refine lv_iload_n hx hb dX7_feed_31 rfl (lv_at hl 3 rfl) ?_
    obtain ⟨S5, qS5, h⟩ := gn_bd h
    refine hc_V (rest := []) ⟨hx, hb, hml, hown, hts⟩ hN hF hK hP hD hS (c_X7_put l z K _ o g _ _  S5 qS5) (cwV 1 hts gX7_feed_X7_put rfl rfl rfl (by decide +kernel) ⟨(Nat.le_of_ble_eq_true rfl), (Nat.le_of_ble_eq_true rfl)⟩) (va_recv hK hP (ci := 6) (q0 := 12) rfl rfl) rfl hl.1 rfl (Nat.le_of_ble_eq_true rfl) dX7_feed_32 hcl hsl (fun H locs hP hD hS => ?_)
    have hP : va_P K.1 vwCl (wd K C S5 o g) H := hP
    have hD : va_D (inA K) (wd K C S5 o g) := hD
    refine W.eq (g2 := F0 m 35 ls []) rfl ?_
    refine lv_aload_n hx hb dX7_feed_35 rfl (lv_at hl 0 rfl) ?_
    refine lv_iload hx hb dX7_feed_36 (lv_at hl 4 rfl) ?_
    obtain ⟨S6, qS6, h⟩ := gn_bd h
    refine hc_V (rest := []) ⟨hx, hb, hml, hown, hts⟩ hN hF hK hP hD hS (c_X7_put l z K _ o g _ _  S6 qS6) (cwV 1 hts gX7_feed_X7_put rfl rfl rfl (by decide +kernel) ⟨(Nat.le_of_ble_eq_true rfl), (Nat.le_of_ble_eq_true rfl)⟩) (va_recv hK hP (ci := 6) (q0 := 12) rfl rfl) rfl hl.1 rfl (Nat.le_of_ble_eq_true rfl) dX7_feed_38 hcl hsl (fun H locs hP hD hS => ?_)
    have hP : va_P K.1 vwCl (wd K C S6 o g) H := hP
    have hD : va_D (inA K) (wd K C S6 o g) := hD
    refine W.eq (g2 := F0 m 41 ls []) rfl ?_
    refine lv_aload_n hx hb dX7_feed_41 rfl (lv_at hl 0 rfl) ?_
    refine lv_iload hx hb dX7_feed_42 (lv_at hl 5 rfl) ?_
    obtain ⟨S7, qS7, h⟩ := gn_bd h
    refine hc_V (rest := []) ⟨hx, hb, hml, hown, hts⟩ hN hF hK hP hD hS (c_X7_put l z K _ o g _ _  S7 qS7) (cwV 1 hts gX7_feed_X7_put rfl rfl rfl (by decide +kernel) ⟨(Nat.le_of_ble_eq_true rfl), (Nat.le_of_ble_eq_true rfl)⟩) (va_recv hK hP (ci := 6) (q0 := 12) rfl rfl) rfl hl.1 rfl (Nat.le_of_ble_eq_true rfl) dX7_feed_44 hcl hsl (fun H locs hP hD hS => ?_)
    have hP : va_P K.1 vwCl (wd K C S7 o g) H := hP
    have hD : va_D (inA K) (wd K C S7 o g) := hD
    refine W.eq (g2 := F0 m 47 ls []) rfl ?_
    refine lv_aload_n hx hb dX7_feed_47 rfl (lv_at hl 0 rfl) ?_
    refine va_get (D := K.1) (ci := 6) (v := .int (mg_taped S7)) (C := RX7) (T := TX7) (N := 24) hx hb hts in_X7_feed_X7 hown hK hP 12 rfl rfl 9 (by decide) (hts (.fieldLink RX7 178 "SawSumsModel" "taped" "I") (by decide +kernel)) (fun _ h9 => h9) rfl dX7_feed_48 ?_
    obtain ⟨rfl, rfl⟩ := Prod.mk.inj (gn_some h)
    exact W.iret hx hb hr (fun t ht _ => ⟨rfl, by rw [ht]; exact hP, hD, hS.F ht⟩) hS.2.2 dX7_feed_51 hlk
  · have h := gn_f h c2
    refine lv_iconst (v := (-1 : Int32)) hx hb dX7_feed_18 (by decide) ?_
    obtain ⟨rfl, rfl⟩ := Prod.mk.inj (gn_some h)
    exact W.iret hx hb hr (fun t ht _ => ⟨rfl, by rw [ht]; exact hP, hD, hS.F ht⟩) hS.2.2 dX7_feed_19 hlk
theorem in_X7_end_X7 : ∀ w ∈ wsX70, w ∈ wsX7_end := fun _ h => List.mem_cons_of_mem _ (List.mem_append_right _ h)
def rm_X7_end : Room := { frames := 1, cells := 0, slots := 0, locals := 25 }
section
variable {p : Program} {l : Launch} {e : Env} {s : State} {m : MethodId} {args : Array Value} {below : List Frame} {meth : Method} {c : Code} {z : Nat} {K : Ev} {C : CS} {o : Nat → Int64} {g : Gh}
end
set_option maxRecDepth 100000 in
theorem c_X7_end (l : Launch) (z : Nat) (K : Ev) (C : CS) (o : Nat → Int64) (g : Gh) (a0 : Int32) (S : MS) (r : Int32) (S' : MS) (h : F_X7_end z a0 S = some (r, S')) : Met l yX7_end wsX7_end rm_X7_end (qH K [.ref (K.2.2.1 12), .int a0] C S o g) (qR K (some (.int r)) C S' o g) 0 0 (inA K) := by
  refine Met.ofW (cc := cX7_end) (maxL := 2) (ret := (some .boolean)) (by decide) rfl ?_
  intro p e s m args below meth c s₁ B hml hv
  obtain ⟨rfl, hN, hP, hK, hD, hF⟩ := hv
  have hx := B.exec
  have hb := B.bytes
  have hr := B.returns
  have hts := atoms_spec (ws := wsX7_end) B.pre
  have hown : s.vm.findClass RX7 = some m.cls := findClass_of_methodNamed B.named
  have hlk := B.notSynchronized
  have hcl : 0 ≤ (rm_X7_end).cells := Nat.zero_le _
  have hsl : 0 ≤ (rm_X7_end).slots := Nat.zero_le _
  have Cc : Cx p s m _ meth c cX7_end 2 RX7 wsX7_end (some .boolean) := ⟨hx, hb, hml, hown, hts, hr, hlk, hN⟩
  have hS : va_S (inA K) s.heap s.heap [] := va_S.rf
  have hl := lv_entry ([.ref (K.2.2.1 12), .int a0]) (n := 2) (Nat.le_of_ble_eq_true rfl)
  rw [lg_entry_eq]
  generalize (lg_sl ([.ref (K.2.2.1 12), .int a0]) ++ List.replicate (2 - (lg_sl ([.ref (K.2.2.1 12), .int a0])).length) Slot.unset).toArray = ls at hl ⊢
  have hl : lv_has ls 2 [(0, .ref (K.2.2.1 12)), (1, .int a0)] := hl
  rw [F_X7_end] at h
  refine lv_aload_n hx hb dX7_end_0 rfl (lv_at hl 0 rfl) ?_
  refine lv_iconst (v := (0 : Int32)) hx hb dX7_end_1 (by decide) ?_
  obtain ⟨S1, eS1, h⟩ := gn_nm h
  refine va_put (D := K.1) (ci := 6) (v := .int (0 : Int32)) (ty := .int) (C := RX7) (T := TX7) (N := 24) hx hb hts in_X7_end_X7 tyX7 tyX7_ok nmX7 hown hK hP hD hS 12 rfl rfl 0 (by decide) (hts (.fieldLink RX7 33 "SawSumsModel" "thrown" "I") (by decide +kernel)) (fun _ h9 => h9) rfl (by decide +kernel) rfl rfl (Nat.le_of_ble_eq_true rfl) dX7_end_2 (fun H locs hP hD hS => ?_)
  have hP : va_P K.1 vwCl (wd K C S1 o g) H := by rw [eS1]; exact hP
  have hD : va_D (inA K) (wd K C S1 o g) := by rw [eS1]; exact hD
  refine lv_iload_n hx hb dX7_end_5 rfl (lv_at hl 1 rfl) ?_
  refine lv_i2l hx hb dX7_end_6 rfl ?_
  refine lv_lconst (v := (0 : Int64)) hx hb dX7_end_7 (by decide) ?_
  refine lv_aload_n hx hb dX7_end_8 rfl (lv_at hl 0 rfl) ?_
  refine va_get (D := K.1) (ci := 6) (v := .int (mg_taped S1)) (C := RX7) (T := TX7) (N := 24) hx hb hts in_X7_end_X7 hown hK hP 12 rfl rfl 9 (by decide) (hts (.fieldLink RX7 178 "SawSumsModel" "taped" "I") (by decide +kernel)) (fun _ h9 => h9) rfl dX7_end_9 ?_
  refine lv_i2l hx hb dX7_end_12 rfl ?_
  obtain ⟨r2, qr2, h⟩ := gn_bd h
  refine pc_S (rest := []) ⟨hx, hb, hml, hown, hts⟩ hN (c_X7_isIn l z _ _ _ r2 qr2) (va_cwS 3 hts gX7_end_X7_isIn rfl rfl rfl (by decide +kernel) ⟨(Nat.le_of_ble_eq_true rfl), (Nat.le_of_ble_eq_true rfl)⟩) rfl hl.1 rfl (Nat.le_of_ble_eq_true rfl) dX7_end_13 hcl hsl ?_
  refine lv_if_ne (tgt := 21) hx hb dX7_end_16 (by decide) (fun c3 => ?_) (fun c3 => ?_)
  · have h := gn_f h c3
    refine lv_aload_n hx hb dX7_end_21 rfl (lv_at hl 0 rfl) ?_
    refine lv_iload_n hx hb dX7_end_22 rfl (lv_at hl 1 rfl) ?_
    obtain ⟨S4, eS4, h⟩ := gn_nm h
    refine va_put (D := K.1) (ci := 6) (v := .int a0) (ty := .int) (C := RX7) (T := TX7) (N := 24) hx hb hts in_X7_end_X7 tyX7 tyX7_ok nmX7 hown hK hP hD hS 12 rfl rfl 9 (by decide) (hts (.fieldLink RX7 178 "SawSumsModel" "taped" "I") (by decide +kernel)) (fun _ h9 => h9) rfl (by decide +kernel) rfl rfl (Nat.le_of_ble_eq_true rfl) dX7_end_23 (fun H locs hP hD hS => ?_)
    have hP : va_P K.1 vwCl (wd K C S4 o g) H := by rw [eS4]; exact hP
    have hD : va_D (inA K) (wd K C S4 o g) := by rw [eS4]; exact hD
    refine lv_iconst (v := (1 : Int32)) hx hb dX7_end_26 (by decide) ?_
    obtain ⟨rfl, rfl⟩ := Prod.mk.inj (gn_some h)
    exact W.zret (ty := .boolean) hx hb hr rfl (fun t ht _ => ⟨rfl, by rw [ht]; exact hP, hD, hS.F ht⟩) hS.2.2 dX7_end_27 hlk
  · have h := gn_t h c3
    refine lv_iconst (v := (0 : Int32)) hx hb dX7_end_19 (by decide) ?_
    obtain ⟨rfl, rfl⟩ := Prod.mk.inj (gn_some h)
    exact W.zret (ty := .boolean) hx hb hr rfl (fun t ht _ => ⟨rfl, by rw [ht]; exact hP, hD, hS.F ht⟩) hS.2.2 dX7_end_20 hlk
theorem in_X7_here_X7 : ∀ w ∈ wsX70, w ∈ wsX7_here := fun _ h => List.mem_cons_of_mem _ (List.mem_append_right _ h)
def rm_X7_here : Room := { frames := 0, cells := 0, slots := 0, locals := 0 }
section
variable {p : Program} {l : Launch} {e : Env} {s : State} {m : MethodId} {args : Array Value} {below : List Frame} {meth : Method} {c : Code} {z : Nat} {K : Ev} {C : CS} {o : Nat → Int64} {g : Gh}
set_option maxRecDepth 100000 in
theorem w_X7_here_52 (Cc : Cx p s m args meth c cX7_here 1 RX7 wsX7_here (some .int)) (hK : va_K K.1 vwCl (tysOf K) s) (hF : SF K s) {r : Int32} {S' : MS} : ∀  (S : MS) (H : Heap) (locs : List Loc), va_P K.1 vwCl (wd K C S o g) H → va_D (inA K) (wd K C S o g) → va_S (inA K) s.heap H locs → G_X7_here_52 z S = some (r, S') → ∀ ls, lv_has ls 1 [(0, .ref (K.2.2.1 12))] → W p l e rm_X7_here s m args below meth c H locs 0 0 (MQ below (qR K (some (.int r)) C S' o g) args s 0 0 (inA K)) (F0 m 52 ls []) := by
  obtain ⟨hx, hb, hml, hown, hts, hr, hlk, hN⟩ := id Cc
  have hcl : 0 ≤ (rm_X7_here).cells := Nat.zero_le _
  have hsl : 0 ≤ (rm_X7_here).slots := Nat.zero_le _
  intro S H locs hP hD hS h ls hl
  rw [G_X7_here_52] at h
  refine lv_aload_n hx hb dX7_here_52 rfl (lv_at hl 0 rfl) ?_
  refine va_get (D := K.1) (ci := 6) (v := .int (mg_at S)) (C := RX7) (T := TX7) (N := 24) hx hb hts in_X7_here_X7 hown hK hP 12 rfl rfl 11 (by decide) (hts (.fieldLink RX7 185 "SawSumsModel" "at" "I") (by decide +kernel)) (fun _ h9 => h9) rfl dX7_here_53 ?_
  refine lv_aload_n hx hb dX7_here_56 rfl (lv_at hl 0 rfl) ?_
  refine va_get (D := K.1) (ci := 6) (v := .int (mg_length S)) (C := RX7) (T := TX7) (N := 24) hx hb hts in_X7_here_X7 hown hK hP 12 rfl rfl 10 (by decide) (hts (.fieldLink RX7 188 "SawSumsModel" "length" "I") (by decide +kernel)) (fun _ h9 => h9) rfl dX7_here_57 ?_
  refine lv_icmp_ge (tgt := 79) hx hb dX7_here_60 (by decide) (fun c1 => ?_) (fun c1 => ?_)
  · have h := gn_t h c1
    refine lv_iconst (v := (-1 : Int32)) hx hb dX7_here_79 (by decide) ?_
    obtain ⟨rfl, rfl⟩ := Prod.mk.inj (gn_some h)
    exact W.iret hx hb hr (fun t ht _ => ⟨rfl, by rw [ht]; exact hP, hD, hS.F ht⟩) hS.2.2 dX7_here_80 hlk
  · have h := gn_f h c1
    refine lv_aload_n hx hb dX7_here_63 rfl (lv_at hl 0 rfl) ?_
    refine va_get (D := K.1) (ci := 6) (v := .ref (K.2.2.1 14)) (C := RX7) (T := TX7) (N := 24) hx hb hts in_X7_here_X7 hown hK hP 12 rfl rfl 8 (by decide) (hts (.fieldLink RX7 13 "SawSumsModel" "tape" "[B") (by decide +kernel)) (fun _ h9 => h9) rfl dX7_here_64 ?_
    refine lv_aload_n hx hb dX7_here_67 rfl (lv_at hl 0 rfl) ?_
    refine va_get (D := K.1) (ci := 6) (v := .int (mg_at S)) (C := RX7) (T := TX7) (N := 24) hx hb hts in_X7_here_X7 hown hK hP 12 rfl rfl 11 (by decide) (hts (.fieldLink RX7 185 "SawSumsModel" "at" "I") (by decide +kernel)) (fun _ h9 => h9) rfl dX7_here_68 ?_
    obtain ⟨n2, h⟩ := gn_yz h
    refine va_bald hx hb hK hP 14 1 rfl rfl (ib_in n2) dX7_here_71 ?_
    refine lv_sipush (v := (255 : Int32)) hx hb dX7_here_72 (by decide) ?_
    refine lv_iand hx hb dX7_here_75 ?_
    refine lv_goto (tgt := 80) hx hb dX7_here_76 (by decide) ?_
    obtain ⟨rfl, rfl⟩ := Prod.mk.inj (gn_some h)
    exact W.iret hx hb hr (fun t ht _ => ⟨rfl, by rw [ht]; exact hP, hD, hS.F ht⟩) hS.2.2 dX7_here_80 hlk
set_option maxRecDepth 100000 in
theorem w_X7_here_0 (Cc : Cx p s m args meth c cX7_here 1 RX7 wsX7_here (some .int)) (hK : va_K K.1 vwCl (tysOf K) s) (hF : SF K s) {r : Int32} {S' : MS} (n : Nat) : ∀  (S : MS) (H : Heap) (locs : List Loc), va_P K.1 vwCl (wd K C S o g) H → va_D (inA K) (wd K C S o g) → va_S (inA K) s.heap H locs → G_X7_here_0 z n S = some (r, S') → ∀ ls, lv_has ls 1 [(0, .ref (K.2.2.1 12))] → W p l e rm_X7_here s m args below meth c H locs 0 0 (MQ below (qR K (some (.int r)) C S' o g) args s 0 0 (inA K)) (F0 m 0 ls []) := by
  obtain ⟨hx, hb, hml, hown, hts, hr, hlk, hN⟩ := id Cc
  have hcl : 0 ≤ (rm_X7_here).cells := Nat.zero_le _
  have hsl : 0 ≤ (rm_X7_here).slots := Nat.zero_le _
  induction n with
  | zero => intro S H locs hP hD hS h; cases h
  | succ n ih =>
    intro S H locs hP hD hS h ls hl
    rw [G_X7_here_0] at h
    refine lv_aload_n hx hb dX7_here_0 rfl (lv_at hl 0 rfl) ?_
    refine va_get (D := K.1) (ci := 6) (v := .int (mg_at S)) (C := RX7) (T := TX7) (N := 24) hx hb hts in_X7_here_X7 hown hK hP 12 rfl rfl 11 (by decide) (hts (.fieldLink RX7 185 "SawSumsModel" "at" "I") (by decide +kernel)) (fun _ h9 => h9) rfl dX7_here_1 ?_
    refine lv_aload_n hx hb dX7_here_4 rfl (lv_at hl 0 rfl) ?_
    refine va_get (D := K.1) (ci := 6) (v := .int (mg_length S)) (C := RX7) (T := TX7) (N := 24) hx hb hts in_X7_here_X7 hown hK hP 12 rfl rfl 10 (by decide) (hts (.fieldLink RX7 188 "SawSumsModel" "length" "I") (by decide +kernel)) (fun _ h9 => h9) rfl dX7_here_5 ?_
    refine lv_icmp_ge (tgt := 52) hx hb dX7_here_8 (by decide) (fun c1 => ?_) (fun c1 => ?_)
    · have h := gn_t h c1
      exact w_X7_here_52 Cc hK hF S _ _ hP hD hS h ls (lv_sub hl [0] rfl)
    · have h := gn_f h c1
      refine lv_aload_n hx hb dX7_here_11 rfl (lv_at hl 0 rfl) ?_
      refine va_get (D := K.1) (ci := 6) (v := .ref (K.2.2.1 14)) (C := RX7) (T := TX7) (N := 24) hx hb hts in_X7_here_X7 hown hK hP 12 rfl rfl 8 (by decide) (hts (.fieldLink RX7 13 "SawSumsModel" "tape" "[B") (by decide +kernel)) (fun _ h9 => h9) rfl dX7_here_12 ?_
      refine lv_aload_n hx hb dX7_here_15 rfl (lv_at hl 0 rfl) ?_
      refine va_get (D := K.1) (ci := 6) (v := .int (mg_at S)) (C := RX7) (T := TX7) (N := 24) hx hb hts in_X7_here_X7 hown hK hP 12 rfl rfl 11 (by decide) (hts (.fieldLink RX7 185 "SawSumsModel" "at" "I") (by decide +kernel)) (fun _ h9 => h9) rfl dX7_here_16 ?_
      obtain ⟨n2, h⟩ := gn_yz h
      refine va_bald hx hb hK hP 14 1 rfl rfl (ib_in n2) dX7_here_19 ?_
      refine lv_bipush (v := (32 : Int32)) hx hb dX7_here_20 (by decide) ?_
      refine lv_icmp_eq (tgt := 39) hx hb dX7_here_22 (by decide) (fun c3 => ?_) (fun c3 => ?_)
      · have h := gn_t h c3
        refine lv_aload_n hx hb dX7_here_39 rfl (lv_at hl 0 rfl) ?_
        refine lv_dup hx hb dX7_here_40 rfl ?_
        refine va_get (D := K.1) (ci := 6) (v := .int (mg_at S)) (C := RX7) (T := TX7) (N := 24) hx hb hts in_X7_here_X7 hown hK hP 12 rfl rfl 11 (by decide) (hts (.fieldLink RX7 185 "SawSumsModel" "at" "I") (by decide +kernel)) (fun _ h9 => h9) rfl dX7_here_41 ?_
        refine lv_iconst (v := (1 : Int32)) hx hb dX7_here_44 (by decide) ?_
        refine lv_iadd hx hb dX7_here_45 ?_
        obtain ⟨v4, ev4, h⟩ := gn_nm h
        refine ln_i ev4 ?_
        obtain ⟨S5, eS5, h⟩ := gn_nm h
        refine va_put (D := K.1) (ci := 6) (v := .int v4) (ty := .int) (C := RX7) (T := TX7) (N := 24) hx hb hts in_X7_here_X7 tyX7 tyX7_ok nmX7 hown hK hP hD hS 12 rfl rfl 11 (by decide) (hts (.fieldLink RX7 185 "SawSumsModel" "at" "I") (by decide +kernel)) (fun _ h9 => h9) rfl (by decide +kernel) rfl rfl (Nat.le_of_ble_eq_true rfl) dX7_here_46 (fun H locs hP hD hS => ?_)
        have hP : va_P K.1 vwCl (wd K C S5 o g) H := by rw [eS5]; exact hP
        have hD : va_D (inA K) (wd K C S5 o g) := by rw [eS5]; exact hD
        refine lv_goto (tgt := 0) hx hb dX7_here_49 (by decide) ?_
        exact ih S5 _ _ hP hD hS h ls (lv_sub hl [0] rfl)
      · have h := gn_f h c3
        refine lv_aload_n hx hb dX7_here_25 rfl (lv_at hl 0 rfl) ?_
        refine va_get (D := K.1) (ci := 6) (v := .ref (K.2.2.1 14)) (C := RX7) (T := TX7) (N := 24) hx hb hts in_X7_here_X7 hown hK hP 12 rfl rfl 8 (by decide) (hts (.fieldLink RX7 13 "SawSumsModel" "tape" "[B") (by decide +kernel)) (fun _ h9 => h9) rfl dX7_here_26 ?_
        refine lv_aload_n hx hb dX7_here_29 rfl (lv_at hl 0 rfl) ?_
        refine va_get (D := K.1) (ci := 6) (v := .int (mg_at S)) (C := RX7) (T := TX7) (N := 24) hx hb hts in_X7_here_X7 hown hK hP 12 rfl rfl 11 (by decide) (hts (.fieldLink RX7 185 "SawSumsModel" "at" "I") (by decide +kernel)) (fun _ h9 => h9) rfl dX7_here_30 ?_
        obtain ⟨n6, h⟩ := gn_yz h
        refine va_bald hx hb hK hP 14 1 rfl rfl (ib_in n6) dX7_here_33 ?_
        refine lv_bipush (v := (10 : Int32)) hx hb dX7_here_34 (by decide) ?_
        refine lv_icmp_ne (tgt := 52) hx hb dX7_here_36 (by decide) (fun c7 => ?_) (fun c7 => ?_)
        · have h := gn_f h c7
          exact w_X7_here_52 Cc hK hF S _ _ hP hD hS h ls (lv_sub hl [0] rfl)
        · have h := gn_t h c7
          refine lv_aload_n hx hb dX7_here_39 rfl (lv_at hl 0 rfl) ?_
          refine lv_dup hx hb dX7_here_40 rfl ?_
          refine va_get (D := K.1) (ci := 6) (v := .int (mg_at S)) (C := RX7) (T := TX7) (N := 24) hx hb hts in_X7_here_X7 hown hK hP 12 rfl rfl 11 (by decide) (hts (.fieldLink RX7 185 "SawSumsModel" "at" "I") (by decide +kernel)) (fun _ h9 => h9) rfl dX7_here_41 ?_
          refine lv_iconst (v := (1 : Int32)) hx hb dX7_here_44 (by decide) ?_
          refine lv_iadd hx hb dX7_here_45 ?_
          obtain ⟨v8, ev8, h⟩ := gn_nm h
          refine ln_i ev8 ?_
          obtain ⟨S9, eS9, h⟩ := gn_nm h
          refine va_put (D := K.1) (ci := 6) (v := .int v8) (ty := .int) (C := RX7) (T := TX7) (N := 24) hx hb hts in_X7_here_X7 tyX7 tyX7_ok nmX7 hown hK hP hD hS 12 rfl rfl 11 (by decide) (hts (.fieldLink RX7 185 "SawSumsModel" "at" "I") (by decide +kernel)) (fun _ h9 => h9) rfl (by decide +kernel) rfl rfl (Nat.le_of_ble_eq_true rfl) dX7_here_46 (fun H locs hP hD hS => ?_)
          have hP : va_P K.1 vwCl (wd K C S9 o g) H := by rw [eS9]; exact hP
          have hD : va_D (inA K) (wd K C S9 o g) := by rw [eS9]; exact hD
          refine lv_goto (tgt := 0) hx hb dX7_here_49 (by decide) ?_
          exact ih S9 _ _ hP hD hS h ls (lv_sub hl [0] rfl)
end
set_option maxRecDepth 100000 in
theorem c_X7_here (l : Launch) (z : Nat) (K : Ev) (C : CS) (o : Nat → Int64) (g : Gh)  (S : MS) (r : Int32) (S' : MS) (h : F_X7_here z S = some (r, S')) : Met l yX7_here wsX7_here rm_X7_here (qH K [.ref (K.2.2.1 12)] C S o g) (qR K (some (.int r)) C S' o g) 0 0 (inA K) := by
  refine Met.ofW (cc := cX7_here) (maxL := 1) (ret := (some .int)) (by decide) rfl ?_
  intro p e s m args below meth c s₁ B hml hv
  obtain ⟨rfl, hN, hP, hK, hD, hF⟩ := hv
  have hx := B.exec
  have hb := B.bytes
  have hr := B.returns
  have hts := atoms_spec (ws := wsX7_here) B.pre
  have hown : s.vm.findClass RX7 = some m.cls := findClass_of_methodNamed B.named
  have hlk := B.notSynchronized
  have hcl : 0 ≤ (rm_X7_here).cells := Nat.zero_le _
  have hsl : 0 ≤ (rm_X7_here).slots := Nat.zero_le _
  have Cc : Cx p s m _ meth c cX7_here 1 RX7 wsX7_here (some .int) := ⟨hx, hb, hml, hown, hts, hr, hlk, hN⟩
  have hS : va_S (inA K) s.heap s.heap [] := va_S.rf
  have hl := lv_entry ([.ref (K.2.2.1 12)]) (n := 1) (Nat.le_of_ble_eq_true rfl)
  rw [lg_entry_eq]
  generalize (lg_sl ([.ref (K.2.2.1 12)]) ++ List.replicate (1 - (lg_sl ([.ref (K.2.2.1 12)])).length) Slot.unset).toArray = ls at hl ⊢
  have hl : lv_has ls 1 [(0, .ref (K.2.2.1 12))] := hl
  rw [F_X7_here] at h
  refine lv_aload_n hx hb dX7_here_0 rfl (lv_at hl 0 rfl) ?_
  refine va_get (D := K.1) (ci := 6) (v := .int (mg_at S)) (C := RX7) (T := TX7) (N := 24) hx hb hts in_X7_here_X7 hown hK hP 12 rfl rfl 11 (by decide) (hts (.fieldLink RX7 185 "SawSumsModel" "at" "I") (by decide +kernel)) (fun _ h9 => h9) rfl dX7_here_1 ?_
  refine lv_aload_n hx hb dX7_here_4 rfl (lv_at hl 0 rfl) ?_
  refine va_get (D := K.1) (ci := 6) (v := .int (mg_length S)) (C := RX7) (T := TX7) (N := 24) hx hb hts in_X7_here_X7 hown hK hP 12 rfl rfl 10 (by decide) (hts (.fieldLink RX7 188 "SawSumsModel" "length" "I") (by decide +kernel)) (fun _ h9 => h9) rfl dX7_here_5 ?_
  refine lv_icmp_ge (tgt := 52) hx hb dX7_here_8 (by decide) (fun c1 => ?_) (fun c1 => ?_)
  · have h := gn_t h c1
    exact w_X7_here_52 Cc hK hF S _ _ hP hD hS h ls (lv_sub hl [0] rfl)
  · have h := gn_f h c1
    refine lv_aload_n hx hb dX7_here_11 rfl (lv_at hl 0 rfl) ?_
    refine va_get (D := K.1) (ci := 6) (v := .ref (K.2.2.1 14)) (C := RX7) (T := TX7) (N := 24) hx hb hts in_X7_here_X7 hown hK hP 12 rfl rfl 8 (by decide) (hts (.fieldLink RX7 13 "SawSumsModel" "tape" "[B") (by decide +kernel)) (fun _ h9 => h9) rfl dX7_here_12 ?_
    refine lv_aload_n hx hb dX7_here_15 rfl (lv_at hl 0 rfl) ?_
    refine va_get (D := K.1) (ci := 6) (v := .int (mg_at S)) (C := RX7) (T := TX7) (N := 24) hx hb hts in_X7_here_X7 hown hK hP 12 rfl rfl 11 (by decide) (hts (.fieldLink RX7 185 "SawSumsModel" "at" "I") (by decide +kernel)) (fun _ h9 => h9) rfl dX7_here_16 ?_
    obtain ⟨n2, h⟩ := gn_yz h
    refine va_bald hx hb hK hP 14 1 rfl rfl (ib_in n2) dX7_here_19 ?_
    refine lv_bipush (v := (32 : Int32)) hx hb dX7_here_20 (by decide) ?_
    refine lv_icmp_eq (tgt := 39) hx hb dX7_here_22 (by decide) (fun c3 => ?_) (fun c3 => ?_)
    · have h := gn_t h c3
      refine lv_aload_n hx hb dX7_here_39 rfl (lv_at hl 0 rfl) ?_
      refine lv_dup hx hb dX7_here_40 rfl ?_
      refine va_get (D := K.1) (ci := 6) (v := .int (mg_at S)) (C := RX7) (T := TX7) (N := 24) hx hb hts in_X7_here_X7 hown hK hP 12 rfl rfl 11 (by decide) (hts (.fieldLink RX7 185 "SawSumsModel" "at" "I") (by decide +kernel)) (fun _ h9 => h9) rfl dX7_here_41 ?_
      refine lv_iconst (v := (1 : Int32)) hx hb dX7_here_44 (by decide) ?_
      refine lv_iadd hx hb dX7_here_45 ?_
      obtain ⟨v4, ev4, h⟩ := gn_nm h
      refine ln_i ev4 ?_
      obtain ⟨S5, eS5, h⟩ := gn_nm h
      refine va_put (D := K.1) (ci := 6) (v := .int v4) (ty := .int) (C := RX7) (T := TX7) (N := 24) hx hb hts in_X7_here_X7 tyX7 tyX7_ok nmX7 hown hK hP hD hS 12 rfl rfl 11 (by decide) (hts (.fieldLink RX7 185 "SawSumsModel" "at" "I") (by decide +kernel)) (fun _ h9 => h9) rfl (by decide +kernel) rfl rfl (Nat.le_of_ble_eq_true rfl) dX7_here_46 (fun H locs hP hD hS => ?_)
      have hP : va_P K.1 vwCl (wd K C S5 o g) H := by rw [eS5]; exact hP
      have hD : va_D (inA K) (wd K C S5 o g) := by rw [eS5]; exact hD
      refine lv_goto (tgt := 0) hx hb dX7_here_49 (by decide) ?_
      exact w_X7_here_0 Cc hK hF z S5 _ _ hP hD hS h ls (lv_sub hl [0] rfl)
    · have h := gn_f h c3
      refine lv_aload_n hx hb dX7_here_25 rfl (lv_at hl 0 rfl) ?_
      refine va_get (D := K.1) (ci := 6) (v := .ref (K.2.2.1 14)) (C := RX7) (T := TX7) (N := 24) hx hb hts in_X7_here_X7 hown hK hP 12 rfl rfl 8 (by decide) (hts (.fieldLink RX7 13 "SawSumsModel" "tape" "[B") (by decide +kernel)) (fun _ h9 => h9) rfl dX7_here_26 ?_
      refine lv_aload_n hx hb dX7_here_29 rfl (lv_at hl 0 rfl) ?_
      refine va_get (D := K.1) (ci := 6) (v := .int (mg_at S)) (C := RX7) (T := TX7) (N := 24) hx hb hts in_X7_here_X7 hown hK hP 12 rfl rfl 11 (by decide) (hts (.fieldLink RX7 185 "SawSumsModel" "at" "I") (by decide +kernel)) (fun _ h9 => h9) rfl dX7_here_30 ?_
      obtain ⟨n6, h⟩ := gn_yz h
      refine va_bald hx hb hK hP 14 1 rfl rfl (ib_in n6) dX7_here_33 ?_
      refine lv_bipush (v := (10 : Int32)) hx hb dX7_here_34 (by decide) ?_
      refine lv_icmp_ne (tgt := 52) hx hb dX7_here_36 (by decide) (fun c7 => ?_) (fun c7 => ?_)
      · have h := gn_f h c7
        exact w_X7_here_52 Cc hK hF S _ _ hP hD hS h ls (lv_sub hl [0] rfl)
      · have h := gn_t h c7
        refine lv_aload_n hx hb dX7_here_39 rfl (lv_at hl 0 rfl) ?_
        refine lv_dup hx hb dX7_here_40 rfl ?_
        refine va_get (D := K.1) (ci := 6) (v := .int (mg_at S)) (C := RX7) (T := TX7) (N := 24) hx hb hts in_X7_here_X7 hown hK hP 12 rfl rfl 11 (by decide) (hts (.fieldLink RX7 185 "SawSumsModel" "at" "I") (by decide +kernel)) (fun _ h9 => h9) rfl dX7_here_41 ?_
        refine lv_iconst (v := (1 : Int32)) hx hb dX7_here_44 (by decide) ?_
        refine lv_iadd hx hb dX7_here_45 ?_
        obtain ⟨v8, ev8, h⟩ := gn_nm h
        refine ln_i ev8 ?_
        obtain ⟨S9, eS9, h⟩ := gn_nm h
        refine va_put (D := K.1) (ci := 6) (v := .int v8) (ty := .int) (C := RX7) (T := TX7) (N := 24) hx hb hts in_X7_here_X7 tyX7 tyX7_ok nmX7 hown hK hP hD hS 12 rfl rfl 11 (by decide) (hts (.fieldLink RX7 185 "SawSumsModel" "at" "I") (by decide +kernel)) (fun _ h9 => h9) rfl (by decide +kernel) rfl rfl (Nat.le_of_ble_eq_true rfl) dX7_here_46 (fun H locs hP hD hS => ?_)
        have hP : va_P K.1 vwCl (wd K C S9 o g) H := by rw [eS9]; exact hP
        have hD : va_D (inA K) (wd K C S9 o g) := by rw [eS9]; exact hD
        refine lv_goto (tgt := 0) hx hb dX7_here_49 (by decide) ?_
        exact w_X7_here_0 Cc hK hF z S9 _ _ hP hD hS h ls (lv_sub hl [0] rfl)
theorem in_X7_fails_X7 : ∀ w ∈ wsX70, w ∈ wsX7_fails := fun _ h => List.mem_cons_of_mem _ (List.mem_append_right _ h)
def rm_X7_fails : Room := { frames := 0, cells := 0, slots := 0, locals := 0 }
section
variable {p : Program} {l : Launch} {e : Env} {s : State} {m : MethodId} {args : Array Value} {below : List Frame} {meth : Method} {c : Code} {z : Nat} {K : Ev} {C : CS} {o : Nat → Int64} {g : Gh}
end
set_option maxRecDepth 100000 in
theorem c_X7_fails (l : Launch) (z : Nat) (K : Ev) (C : CS) (o : Nat → Int64) (g : Gh) (a0 : Int32) (a1 : Int32) (S : MS)  (S' : MS) (h : F_X7_fails z a0 a1 S = some S') : Met l yX7_fails wsX7_fails rm_X7_fails (qH K [.ref (K.2.2.1 12), .int a0, .int a1] C S o g) (qR K none C S' o g) 0 0 (inA K) := by
  refine Met.ofW (cc := cX7_fails) (maxL := 3) (ret := none) (by decide) rfl ?_
  intro p e s m args below meth c s₁ B hml hv
  obtain ⟨rfl, hN, hP, hK, hD, hF⟩ := hv
  have hx := B.exec
  have hb := B.bytes
  have hr := B.returns
  have hts := atoms_spec (ws := wsX7_fails) B.pre
  have hown : s.vm.findClass RX7 = some m.cls := findClass_of_methodNamed B.named
  have hlk := B.notSynchronized
  have hcl : 0 ≤ (rm_X7_fails).cells := Nat.zero_le _
  have hsl : 0 ≤ (rm_X7_fails).slots := Nat.zero_le _
  have Cc : Cx p s m _ meth c cX7_fails 3 RX7 wsX7_fails none := ⟨hx, hb, hml, hown, hts, hr, hlk, hN⟩
  have hS : va_S (inA K) s.heap s.heap [] := va_S.rf
  have hl := lv_entry ([.ref (K.2.2.1 12), .int a0, .int a1]) (n := 3) (Nat.le_of_ble_eq_true rfl)
  rw [lg_entry_eq]
  generalize (lg_sl ([.ref (K.2.2.1 12), .int a0, .int a1]) ++ List.replicate (3 - (lg_sl ([.ref (K.2.2.1 12), .int a0, .int a1])).length) Slot.unset).toArray = ls at hl ⊢
  have hl : lv_has ls 3 [(0, .ref (K.2.2.1 12)), (1, .int a0), (2, .int a1)] := hl
  rw [F_X7_fails] at h
  refine lv_aload_n hx hb dX7_fails_0 rfl (lv_at hl 0 rfl) ?_
  refine va_get (D := K.1) (ci := 6) (v := .int (mg_fault S)) (C := RX7) (T := TX7) (N := 24) hx hb hts in_X7_fails_X7 hown hK hP 12 rfl rfl 13 (by decide) (hts (.fieldLink RX7 191 "SawSumsModel" "fault" "I") (by decide +kernel)) (fun _ h9 => h9) rfl dX7_fails_1 ?_
  refine lv_if_ne (tgt := 17) hx hb dX7_fails_4 (by decide) (fun c1 => ?_) (fun c1 => ?_)
  · have h := gn_f h c1
    obtain rfl := gn_some h
    exact W.vret hx hb hr (fun t ht _ => ⟨rfl, by rw [ht]; exact hP, hD, hS.F ht⟩) hS.2.2 dX7_fails_17 hlk
  · have h := gn_t h c1
    refine lv_aload_n hx hb dX7_fails_7 rfl (lv_at hl 0 rfl) ?_
    refine lv_iload_n hx hb dX7_fails_8 rfl (lv_at hl 1 rfl) ?_
    refine lv_bipush (v := (8 : Int32)) hx hb dX7_fails_9 (by decide) ?_
    refine lv_iload_n hx hb dX7_fails_11 rfl (lv_at hl 2 rfl) ?_
    refine lv_imul hx hb dX7_fails_12 ?_
    refine lv_iadd hx hb dX7_fails_13 ?_
    obtain ⟨v2, ev2, h⟩ := gn_nm h
    refine ln_i ev2 ?_
    obtain ⟨S3, eS3, h⟩ := gn_nm h
    refine va_put (D := K.1) (ci := 6) (v := .int v2) (ty := .int) (C := RX7) (T := TX7) (N := 24) hx hb hts in_X7_fails_X7 tyX7 tyX7_ok nmX7 hown hK hP hD hS 12 rfl rfl 13 (by decide) (hts (.fieldLink RX7 191 "SawSumsModel" "fault" "I") (by decide +kernel)) (fun _ h9 => h9) rfl (by decide +kernel) rfl rfl (Nat.le_of_ble_eq_true rfl) dX7_fails_14 (fun H locs hP hD hS => ?_)
    have hP : va_P K.1 vwCl (wd K C S3 o g) H := by rw [eS3]; exact hP
    have hD : va_D (inA K) (wd K C S3 o g) := by rw [eS3]; exact hD
    obtain rfl := gn_some h
    exact W.vret hx hb hr (fun t ht _ => ⟨rfl, by rw [ht]; exact hP, hD, hS.F ht⟩) hS.2.2 dX7_fails_17 hlk
theorem in_X7_piles_X7 : ∀ w ∈ wsX70, w ∈ wsX7_piles := fun _ h => List.mem_cons_of_mem _ (List.mem_append_right _ h)
def rm_X7_piles : Room := { frames := 1, cells := 0, slots := 0, locals := 21 }
section
variable {p : Program} {l : Launch} {e : Env} {s : State} {m : MethodId} {args : Array Value} {below : List Frame} {meth : Method} {c : Code} {z : Nat} {K : Ev} {C : CS} {o : Nat → Int64} {g : Gh}
set_option maxRecDepth 100000 in
theorem w_X7_piles_68 (Cc : Cx p s m args meth c cX7_piles 3 RX7 wsX7_piles none) (hK : va_K K.1 vwCl (tysOf K) s) (hF : SF K s)  {S' : MS} : ∀ (x2 : Int32) (t0 : Int64) (t1 : Int32) (S : MS) (H : Heap) (locs : List Loc), va_P K.1 vwCl (wd K C S o g) H → va_D (inA K) (wd K C S o g) → va_S (inA K) s.heap H locs → G_X7_piles_68 z x2 t0 t1 S = some S' → ∀ ls, lv_has ls 3 [(0, .ref (K.2.2.1 12)), (2, .int x2)] → W p l e rm_X7_piles s m args below meth c H locs 0 0 (MQ below (qR K none C S' o g) args s 0 0 (inA K)) (F0 m 68 ls [.long t0, .int t1, .ref (K.2.2.1 15)]) := by
  obtain ⟨hx, hb, hml, hown, hts, hr, hlk, hN⟩ := id Cc
  have hcl : 0 ≤ (rm_X7_piles).cells := Nat.zero_le _
  have hsl : 0 ≤ (rm_X7_piles).slots := Nat.zero_le _
  intro x2 t0 t1 S H locs hP hD hS h ls hl
  rw [G_X7_piles_68] at h
  obtain ⟨n1, h⟩ := gn_yz h
  obtain ⟨S2, eS2, h⟩ := gn_nm h
  refine va_last hx hb hK hP hD hS 15 0 rfl rfl (ib_in n1) dX7_piles_68 (fun H locs hP hD hS => ?_)
  have hP : va_P K.1 vwCl (wd K C S2 o g) H := by rw [eS2]; exact hP
  have hD : va_D (inA K) (wd K C S2 o g) := by rw [eS2]; exact hD
  refine lv_aload_n hx hb dX7_piles_69 rfl (lv_at hl 0 rfl) ?_
  refine va_get (D := K.1) (ci := 6) (v := .ref (K.2.2.1 16)) (C := RX7) (T := TX7) (N := 24) hx hb hts in_X7_piles_X7 hown hK hP 12 rfl rfl 21 (by decide) (hts (.fieldLink RX7 20 "SawSumsModel" "bottoms" "[J") (by decide +kernel)) (fun _ h9 => h9) rfl dX7_piles_70 ?_
  refine lv_aload_n hx hb dX7_piles_73 rfl (lv_at hl 0 rfl) ?_
  refine va_get (D := K.1) (ci := 6) (v := .int (mg_piled S2)) (C := RX7) (T := TX7) (N := 24) hx hb hts in_X7_piles_X7 hown hK hP 12 rfl rfl 19 (by decide) (hts (.fieldLink RX7 197 "SawSumsModel" "piled" "I") (by decide +kernel)) (fun _ h9 => h9) rfl dX7_piles_74 ?_
  refine lv_iload_n hx hb dX7_piles_77 rfl (lv_at hl 1 rfl) ?_
  refine lv_if_eq (tgt := 85) hx hb dX7_piles_78 (by decide) (fun c3 => ?_) (fun c3 => ?_)
  · have h := gn_t h c3
    refine lv_aload_n hx hb dX7_piles_85 rfl (lv_at hl 0 rfl) ?_
    refine va_get (D := K.1) (ci := 6) (v := .long (mg_under S2)) (C := RX7) (T := TX7) (N := 24) hx hb hts in_X7_piles_X7 hown hK hP 12 rfl rfl 2 (by decide) (hts (.fieldLink RX7 51 "SawSumsModel" "under" "J") (by decide +kernel)) (fun _ h9 => h9) rfl dX7_piles_86 ?_
    obtain ⟨n4, h⟩ := gn_yz h
    obtain ⟨S5, eS5, h⟩ := gn_nm h
    refine va_last hx hb hK hP hD hS 16 0 rfl rfl (ib_in n4) dX7_piles_89 (fun H locs hP hD hS => ?_)
    have hP : va_P K.1 vwCl (wd K C S5 o g) H := by rw [eS5]; exact hP
    have hD : va_D (inA K) (wd K C S5 o g) := by rw [eS5]; exact hD
    refine lv_aload_n hx hb dX7_piles_90 rfl (lv_at hl 0 rfl) ?_
    refine lv_dup hx hb dX7_piles_91 rfl ?_
    refine va_get (D := K.1) (ci := 6) (v := .int (mg_piled S5)) (C := RX7) (T := TX7) (N := 24) hx hb hts in_X7_piles_X7 hown hK hP 12 rfl rfl 19 (by decide) (hts (.fieldLink RX7 197 "SawSumsModel" "piled" "I") (by decide +kernel)) (fun _ h9 => h9) rfl dX7_piles_92 ?_
    refine lv_iconst (v := (1 : Int32)) hx hb dX7_piles_95 (by decide) ?_
    refine lv_iadd hx hb dX7_piles_96 ?_
    obtain ⟨v6, ev6, h⟩ := gn_nm h
    refine ln_i ev6 ?_
    obtain ⟨S7, eS7, h⟩ := gn_nm h
    refine va_put (D := K.1) (ci := 6) (v := .int v6) (ty := .int) (C := RX7) (T := TX7) (N := 24) hx hb hts in_X7_piles_X7 tyX7 tyX7_ok nmX7 hown hK hP hD hS 12 rfl rfl 19 (by decide) (hts (.fieldLink RX7 197 "SawSumsModel" "piled" "I") (by decide +kernel)) (fun _ h9 => h9) rfl (by decide +kernel) rfl rfl (Nat.le_of_ble_eq_true rfl) dX7_piles_97 (fun H locs hP hD hS => ?_)
    have hP : va_P K.1 vwCl (wd K C S7 o g) H := by rw [eS7]; exact hP
    have hD : va_D (inA K) (wd K C S7 o g) := by rw [eS7]; exact hD
    obtain rfl := gn_some h
    exact W.vret hx hb hr (fun t ht _ => ⟨rfl, by rw [ht]; exact hP, hD, hS.F ht⟩) hS.2.2 dX7_piles_100 hlk
  · have h := gn_f h c3
    refine lv_lconst (v := (1 : Int64)) hx hb dX7_piles_81 (by decide) ?_
    refine lv_goto (tgt := 89) hx hb dX7_piles_82 (by decide) ?_
    obtain ⟨n8, h⟩ := gn_yz h
    obtain ⟨S9, eS9, h⟩ := gn_nm h
    refine va_last hx hb hK hP hD hS 16 0 rfl rfl (ib_in n8) dX7_piles_89 (fun H locs hP hD hS => ?_)
    have hP : va_P K.1 vwCl (wd K C S9 o g) H := by rw [eS9]; exact hP
    have hD : va_D (inA K) (wd K C S9 o g) := by rw [eS9]; exact hD
    refine lv_aload_n hx hb dX7_piles_90 rfl (lv_at hl 0 rfl) ?_
    refine lv_dup hx hb dX7_piles_91 rfl ?_
    refine va_get (D := K.1) (ci := 6) (v := .int (mg_piled S9)) (C := RX7) (T := TX7) (N := 24) hx hb hts in_X7_piles_X7 hown hK hP 12 rfl rfl 19 (by decide) (hts (.fieldLink RX7 197 "SawSumsModel" "piled" "I") (by decide +kernel)) (fun _ h9 => h9) rfl dX7_piles_92 ?_
    refine lv_iconst (v := (1 : Int32)) hx hb dX7_piles_95 (by decide) ?_
    refine lv_iadd hx hb dX7_piles_96 ?_
    obtain ⟨v10, ev10, h⟩ := gn_nm h
    refine ln_i ev10 ?_
    obtain ⟨S11, eS11, h⟩ := gn_nm h
    refine va_put (D := K.1) (ci := 6) (v := .int v10) (ty := .int) (C := RX7) (T := TX7) (N := 24) hx hb hts in_X7_piles_X7 tyX7 tyX7_ok nmX7 hown hK hP hD hS 12 rfl rfl 19 (by decide) (hts (.fieldLink RX7 197 "SawSumsModel" "piled" "I") (by decide +kernel)) (fun _ h9 => h9) rfl (by decide +kernel) rfl rfl (Nat.le_of_ble_eq_true rfl) dX7_piles_97 (fun H locs hP hD hS => ?_)
    have hP : va_P K.1 vwCl (wd K C S11 o g) H := by rw [eS11]; exact hP
    have hD : va_D (inA K) (wd K C S11 o g) := by rw [eS11]; exact hD
    obtain rfl := gn_some h
    exact W.vret hx hb hr (fun t ht _ => ⟨rfl, by rw [ht]; exact hP, hD, hS.F ht⟩) hS.2.2 dX7_piles_100 hlk
set_option maxRecDepth 100000 in
theorem w_X7_piles_48 (Cc : Cx p s m args meth c cX7_piles 3 RX7 wsX7_piles none) (hK : va_K K.1 vwCl (tysOf K) s) (hF : SF K s)  {S' : MS} : ∀ (x2 : Int32) (S : MS) (H : Heap) (locs : List Loc), va_P K.1 vwCl (wd K C S o g) H → va_D (inA K) (wd K C S o g) → va_S (inA K) s.heap H locs → G_X7_piles_48 z x2 S = some S' → ∀ ls, lv_has ls 3 [(0, .ref (K.2.2.1 12)), (2, .int x2)] → W p l e rm_X7_piles s m args below meth c H locs 0 0 (MQ below (qR K none C S' o g) args s 0 0 (inA K)) (F0 m 48 ls []) := by
  obtain ⟨hx, hb, hml, hown, hts, hr, hlk, hN⟩ := id Cc
  have hcl : 0 ≤ (rm_X7_piles).cells := Nat.zero_le _
  have hsl : 0 ≤ (rm_X7_piles).slots := Nat.zero_le _
  intro x2 S H locs hP hD hS h ls hl
  rw [G_X7_piles_48] at h
  refine lv_aload_n hx hb dX7_piles_48 rfl (lv_at hl 0 rfl) ?_
  refine va_get (D := K.1) (ci := 6) (v := .ref (K.2.2.1 15)) (C := RX7) (T := TX7) (N := 24) hx hb hts in_X7_piles_X7 hown hK hP 12 rfl rfl 20 (by decide) (hts (.fieldLink RX7 17 "SawSumsModel" "tops" "[J") (by decide +kernel)) (fun _ h9 => h9) rfl dX7_piles_49 ?_
  refine lv_aload_n hx hb dX7_piles_52 rfl (lv_at hl 0 rfl) ?_
  refine va_get (D := K.1) (ci := 6) (v := .int (mg_piled S)) (C := RX7) (T := TX7) (N := 24) hx hb hts in_X7_piles_X7 hown hK hP 12 rfl rfl 19 (by decide) (hts (.fieldLink RX7 197 "SawSumsModel" "piled" "I") (by decide +kernel)) (fun _ h9 => h9) rfl dX7_piles_53 ?_
  refine lv_iload_n hx hb dX7_piles_56 rfl (lv_at hl 1 rfl) ?_
  refine lv_if_eq (tgt := 64) hx hb dX7_piles_57 (by decide) (fun c1 => ?_) (fun c1 => ?_)
  · have h := gn_t h c1
    refine lv_aload_n hx hb dX7_piles_64 rfl (lv_at hl 0 rfl) ?_
    refine va_get (D := K.1) (ci := 6) (v := .long (mg_up S)) (C := RX7) (T := TX7) (N := 24) hx hb hts in_X7_piles_X7 hown hK hP 12 rfl rfl 1 (by decide) (hts (.fieldLink RX7 48 "SawSumsModel" "up" "J") (by decide +kernel)) (fun _ h9 => h9) rfl dX7_piles_65 ?_
    exact w_X7_piles_68 Cc hK hF x2 (mg_up S) (mg_piled S) S _ _ hP hD hS h ls (lv_sub hl [0, 1] rfl)
  · have h := gn_f h c1
    refine lv_lconst (v := (0 : Int64)) hx hb dX7_piles_60 (by decide) ?_
    refine lv_goto (tgt := 68) hx hb dX7_piles_61 (by decide) ?_
    exact w_X7_piles_68 Cc hK hF x2 (0 : Int64) (mg_piled S) S _ _ hP hD hS h ls (lv_sub hl [0, 1] rfl)
set_option maxRecDepth 100000 in
theorem w_X7_piles_30 (Cc : Cx p s m args meth c cX7_piles 3 RX7 wsX7_piles none) (hK : va_K K.1 vwCl (tysOf K) s) (hF : SF K s)  {S' : MS} : ∀ (x1 : Int32) (t0 : Int32) (S : MS) (H : Heap) (locs : List Loc), va_P K.1 vwCl (wd K C S o g) H → va_D (inA K) (wd K C S o g) → va_S (inA K) s.heap H locs → G_X7_piles_30 z x1 t0 S = some S' → ∀ ls, lv_has ls 3 [(0, .ref (K.2.2.1 12)), (1, .int x1)] → W p l e rm_X7_piles s m args below meth c H locs 0 0 (MQ below (qR K none C S' o g) args s 0 0 (inA K)) (F0 m 30 ls [.int t0]) := by
  obtain ⟨hx, hb, hml, hown, hts, hr, hlk, hN⟩ := id Cc
  have hcl : 0 ≤ (rm_X7_piles).cells := Nat.zero_le _
  have hsl : 0 ≤ (rm_X7_piles).slots := Nat.zero_le _
  intro x1 t0 S H locs hP hD hS h ls hl
  rw [G_X7_piles_30] at h
  refine lv_istore_n (lv' := [(2, .int t0), (0, .ref (K.2.2.1 12)), (1, .int x1)]) hx hb dX7_piles_30 rfl hl (by decide) rfl (fun ls hl => ?_)
  refine lv_iload_n hx hb dX7_piles_31 rfl (lv_at hl 0 rfl) ?_
  refine lv_if_eq (tgt := 48) hx hb dX7_piles_32 (by decide) (fun c1 => ?_) (fun c1 => ?_)
  · have h := gn_t h c1
    exact w_X7_piles_48 Cc hK hF t0 S _ _ hP hD hS h ls (lv_sub hl [1, 0] rfl)
  · have h := gn_f h c1
    refine lv_aload_n hx hb dX7_piles_35 rfl (lv_at hl 1 rfl) ?_
    refine va_get (D := K.1) (ci := 6) (v := .int (mg_beyond S)) (C := RX7) (T := TX7) (N := 24) hx hb hts in_X7_piles_X7 hown hK hP 12 rfl rfl 14 (by decide) (hts (.fieldLink RX7 194 "SawSumsModel" "beyond" "I") (by decide +kernel)) (fun _ h9 => h9) rfl dX7_piles_36 ?_
    refine lv_iconst (v := (-1 : Int32)) hx hb dX7_piles_39 (by decide) ?_
    refine lv_icmp_ne (tgt := 48) hx hb dX7_piles_40 (by decide) (fun c2 => ?_) (fun c2 => ?_)
    · have h := gn_f h c2
      exact w_X7_piles_48 Cc hK hF t0 S _ _ hP hD hS h ls (lv_sub hl [1, 0] rfl)
    · have h := gn_t h c2
      refine lv_aload_n hx hb dX7_piles_43 rfl (lv_at hl 1 rfl) ?_
      refine lv_iload_n hx hb dX7_piles_44 rfl (lv_at hl 2 rfl) ?_
      obtain ⟨S3, eS3, h⟩ := gn_nm h
      refine va_put (D := K.1) (ci := 6) (v := .int x1) (ty := .int) (C := RX7) (T := TX7) (N := 24) hx hb hts in_X7_piles_X7 tyX7 tyX7_ok nmX7 hown hK hP hD hS 12 rfl rfl 14 (by decide) (hts (.fieldLink RX7 194 "SawSumsModel" "beyond" "I") (by decide +kernel)) (fun _ h9 => h9) rfl (by decide +kernel) rfl rfl (Nat.le_of_ble_eq_true rfl) dX7_piles_45 (fun H locs hP hD hS => ?_)
      have hP : va_P K.1 vwCl (wd K C S3 o g) H := by rw [eS3]; exact hP
      have hD : va_D (inA K) (wd K C S3 o g) := by rw [eS3]; exact hD
      exact w_X7_piles_48 Cc hK hF t0 S3 _ _ hP hD hS h ls (lv_sub hl [1, 0] rfl)
end
set_option maxRecDepth 100000 in
theorem c_X7_piles (l : Launch) (z : Nat) (K : Ev) (C : CS) (o : Nat → Int64) (g : Gh) (a0 : Int32) (S : MS)  (S' : MS) (h : F_X7_piles z a0 S = some S') : Met l yX7_piles wsX7_piles rm_X7_piles (qH K [.ref (K.2.2.1 12), .int a0] C S o g) (qR K none C S' o g) 0 0 (inA K) := by
  refine Met.ofW (cc := cX7_piles) (maxL := 3) (ret := none) (by decide) rfl ?_
  intro p e s m args below meth c s₁ B hml hv
  obtain ⟨rfl, hN, hP, hK, hD, hF⟩ := hv
  have hx := B.exec
  have hb := B.bytes
  have hr := B.returns
  have hts := atoms_spec (ws := wsX7_piles) B.pre
  have hown : s.vm.findClass RX7 = some m.cls := findClass_of_methodNamed B.named
  have hlk := B.notSynchronized
  have hcl : 0 ≤ (rm_X7_piles).cells := Nat.zero_le _
  have hsl : 0 ≤ (rm_X7_piles).slots := Nat.zero_le _
  have Cc : Cx p s m _ meth c cX7_piles 3 RX7 wsX7_piles none := ⟨hx, hb, hml, hown, hts, hr, hlk, hN⟩
  have hS : va_S (inA K) s.heap s.heap [] := va_S.rf
  have hl := lv_entry ([.ref (K.2.2.1 12), .int a0]) (n := 3) (Nat.le_of_ble_eq_true rfl)
  rw [lg_entry_eq]
  generalize (lg_sl ([.ref (K.2.2.1 12), .int a0]) ++ List.replicate (3 - (lg_sl ([.ref (K.2.2.1 12), .int a0])).length) Slot.unset).toArray = ls at hl ⊢
  have hl : lv_has ls 3 [(0, .ref (K.2.2.1 12)), (1, .int a0)] := hl
  rw [F_X7_piles] at h
  refine lv_aload_n hx hb dX7_piles_0 rfl (lv_at hl 0 rfl) ?_
  refine va_get (D := K.1) (ci := 6) (v := .long (mg_up S)) (C := RX7) (T := TX7) (N := 24) hx hb hts in_X7_piles_X7 hown hK hP 12 rfl rfl 1 (by decide) (hts (.fieldLink RX7 48 "SawSumsModel" "up" "J") (by decide +kernel)) (fun _ h9 => h9) rfl dX7_piles_1 ?_
  obtain ⟨r1, qr1, h⟩ := gn_bd h
  refine pc_S (rest := []) ⟨hx, hb, hml, hown, hts⟩ hN (c_X7_size l z _ r1 qr1) (va_cwS 1 hts gX7_piles_X7_size rfl rfl rfl (by decide +kernel) ⟨(Nat.le_of_ble_eq_true rfl), (Nat.le_of_ble_eq_true rfl)⟩) rfl hl.1 rfl (Nat.le_of_ble_eq_true rfl) dX7_piles_4 hcl hsl ?_
  refine lv_ldc2 hx hb hown (hts (.constantLong RX7 70 (1000000000)) (by decide +kernel)) dX7_piles_7 ?_
  refine ll_gt (tgt := 25) hx hb dX7_piles_10 dX7_piles_11 (by decide) (fun c2 => ?_) (fun c2 => ?_)
  · have h := gn_t h c2
    refine lv_iconst (v := (1 : Int32)) hx hb dX7_piles_25 (by decide) ?_
    refine lv_goto (tgt := 30) hx hb dX7_piles_26 (by decide) ?_
    exact w_X7_piles_30 Cc hK hF a0 (1 : Int32) S _ _ hP hD hS h ls (lv_sub hl [0, 1] rfl)
  · have h := gn_f h c2
    refine lv_aload_n hx hb dX7_piles_14 rfl (lv_at hl 0 rfl) ?_
    refine va_get (D := K.1) (ci := 6) (v := .long (mg_under S)) (C := RX7) (T := TX7) (N := 24) hx hb hts in_X7_piles_X7 hown hK hP 12 rfl rfl 2 (by decide) (hts (.fieldLink RX7 51 "SawSumsModel" "under" "J") (by decide +kernel)) (fun _ h9 => h9) rfl dX7_piles_15 ?_
    refine lv_ldc2 hx hb hown (hts (.constantLong RX7 70 (1000000000)) (by decide +kernel)) dX7_piles_18 ?_
    refine ll_le (tgt := 29) hx hb dX7_piles_21 dX7_piles_22 (by decide) (fun c3 => ?_) (fun c3 => ?_)
    · have h := gn_t h c3
      refine lv_iconst (v := (0 : Int32)) hx hb dX7_piles_29 (by decide) ?_
      exact w_X7_piles_30 Cc hK hF a0 (0 : Int32) S _ _ hP hD hS h ls (lv_sub hl [0, 1] rfl)
    · have h := gn_f h c3
      refine lv_iconst (v := (1 : Int32)) hx hb dX7_piles_25 (by decide) ?_
      refine lv_goto (tgt := 30) hx hb dX7_piles_26 (by decide) ?_
      exact w_X7_piles_30 Cc hK hF a0 (1 : Int32) S _ _ hP hD hS h ls (lv_sub hl [0, 1] rfl)
theorem in_X7_number_X7 : ∀ w ∈ wsX70, w ∈ wsX7_number := fun _ h => List.mem_cons_of_mem _ (List.mem_append_right _ h)
def rm_X7_number : Room := { frames := 1, cells := 0, slots := 0, locals := 25 }
section
variable {p : Program} {l : Launch} {e : Env} {s : State} {m : MethodId} {args : Array Value} {below : List Frame} {meth : Method} {c : Code} {z : Nat} {K : Ev} {C : CS} {o : Nat → Int64} {g : Gh}
set_option maxRecDepth 100000 in
theorem w_X7_number_109 (Cc : Cx p s m args meth c cX7_number 3 RX7 wsX7_number (some .long)) (hK : va_K K.1 vwCl (tysOf K) s) (hF : SF K s) {r : Int64} {S' : MS} : ∀ (x1 : Int64) (S : MS) (H : Heap) (locs : List Loc), va_P K.1 vwCl (wd K C S o g) H → va_D (inA K) (wd K C S o g) → va_S (inA K) s.heap H locs → G_X7_number_109 z x1 S = some (r, S') → ∀ ls, lv_has ls 3 [(0, .ref (K.2.2.1 12)), (1, .long x1)] → W p l e rm_X7_number s m args below meth c H locs 0 0 (MQ below (qR K (some (.long r)) C S' o g) args s 0 0 (inA K)) (F0 m 109 ls []) := by
  obtain ⟨hx, hb, hml, hown, hts, hr, hlk, hN⟩ := id Cc
  have hcl : 0 ≤ (rm_X7_number).cells := Nat.zero_le _
  have hsl : 0 ≤ (rm_X7_number).slots := Nat.zero_le _
  intro x1 S H locs hP hD hS h ls hl
  rw [G_X7_number_109] at h
  refine lv_aload_n hx hb dX7_number_109 rfl (lv_at hl 0 rfl) ?_
  refine va_get (D := K.1) (ci := 6) (v := .int (mg_at S)) (C := RX7) (T := TX7) (N := 24) hx hb hts in_X7_number_X7 hown hK hP 12 rfl rfl 11 (by decide) (hts (.fieldLink RX7 185 "SawSumsModel" "at" "I") (by decide +kernel)) (fun _ h9 => h9) rfl dX7_number_110 ?_
  refine lv_aload_n hx hb dX7_number_113 rfl (lv_at hl 0 rfl) ?_
  refine va_get (D := K.1) (ci := 6) (v := .int (mg_from S)) (C := RX7) (T := TX7) (N := 24) hx hb hts in_X7_number_X7 hown hK hP 12 rfl rfl 12 (by decide) (hts (.fieldLink RX7 204 "SawSumsModel" "from" "I") (by decide +kernel)) (fun _ h9 => h9) rfl dX7_number_114 ?_
  refine lv_isub hx hb dX7_number_117 ?_
  refine lv_i2l hx hb dX7_number_118 rfl ?_
  refine lv_lconst (v := (1 : Int64)) hx hb dX7_number_119 (by decide) ?_
  refine lv_ldc2 hx hb hown (hts (.constantLong RX7 213 (9)) (by decide +kernel)) dX7_number_120 ?_
  obtain ⟨r1, qr1, h⟩ := gn_bd h
  refine pc_S (rest := []) ⟨hx, hb, hml, hown, hts⟩ hN (c_X7_isIn l z _ _ _ r1 qr1) (va_cwS 3 hts gX7_number_X7_isIn rfl rfl rfl (by decide +kernel) ⟨(Nat.le_of_ble_eq_true rfl), (Nat.le_of_ble_eq_true rfl)⟩) rfl hl.1 rfl (Nat.le_of_ble_eq_true rfl) dX7_number_123 hcl hsl ?_
  refine lv_if_ne (tgt := 138) hx hb dX7_number_126 (by decide) (fun c2 => ?_) (fun c2 => ?_)
  · have h := gn_f h c2
    refine lv_lload_n hx hb dX7_number_138 rfl (lv_at hl 1 rfl) ?_
    obtain ⟨rfl, rfl⟩ := Prod.mk.inj (gn_some h)
    exact W.lret hx hb hr (fun t ht _ => ⟨rfl, by rw [ht]; exact hP, hD, hS.F ht⟩) hS.2.2 dX7_number_139 hlk
  · have h := gn_t h c2
    refine lv_aload_n hx hb dX7_number_129 rfl (lv_at hl 0 rfl) ?_
    refine lv_iconst (v := (1 : Int32)) hx hb dX7_number_130 (by decide) ?_
    refine lv_aload_n hx hb dX7_number_131 rfl (lv_at hl 0 rfl) ?_
    refine va_get (D := K.1) (ci := 6) (v := .int (mg_from S)) (C := RX7) (T := TX7) (N := 24) hx hb hts in_X7_number_X7 hown hK hP 12 rfl rfl 12 (by decide) (hts (.fieldLink RX7 204 "SawSumsModel" "from" "I") (by decide +kernel)) (fun _ h9 => h9) rfl dX7_number_132 ?_
    obtain ⟨S3, qS3, h⟩ := gn_bd h
    refine hc_V (rest := []) ⟨hx, hb, hml, hown, hts⟩ hN hF hK hP hD hS (c_X7_fails l z K _ o g _ _ _  S3 qS3) (cwV 2 hts gX7_number_X7_fails rfl rfl rfl (by decide +kernel) ⟨(Nat.le_of_ble_eq_true rfl), (Nat.le_of_ble_eq_true rfl)⟩) (va_recv hK hP (ci := 6) (q0 := 12) rfl rfl) rfl hl.1 rfl (Nat.le_of_ble_eq_true rfl) dX7_number_135 hcl hsl (fun H locs hP hD hS => ?_)
    have hP : va_P K.1 vwCl (wd K C S3 o g) H := hP
    have hD : va_D (inA K) (wd K C S3 o g) := hD
    refine W.eq (g2 := F0 m 138 ls []) rfl ?_
    refine lv_lload_n hx hb dX7_number_138 rfl (lv_at hl 1 rfl) ?_
    obtain ⟨rfl, rfl⟩ := Prod.mk.inj (gn_some h)
    exact W.lret hx hb hr (fun t ht _ => ⟨rfl, by rw [ht]; exact hP, hD, hS.F ht⟩) hS.2.2 dX7_number_139 hlk
set_option maxRecDepth 100000 in
theorem w_X7_number_24 (Cc : Cx p s m args meth c cX7_number 3 RX7 wsX7_number (some .long)) (hK : va_K K.1 vwCl (tysOf K) s) (hF : SF K s) {r : Int64} {S' : MS} (n : Nat) : ∀ (x1 : Int64) (S : MS) (H : Heap) (locs : List Loc), va_P K.1 vwCl (wd K C S o g) H → va_D (inA K) (wd K C S o g) → va_S (inA K) s.heap H locs → G_X7_number_24 z n x1 S = some (r, S') → ∀ ls, lv_has ls 3 [(0, .ref (K.2.2.1 12)), (1, .long x1)] → W p l e rm_X7_number s m args below meth c H locs 0 0 (MQ below (qR K (some (.long r)) C S' o g) args s 0 0 (inA K)) (F0 m 24 ls []) := by
  obtain ⟨hx, hb, hml, hown, hts, hr, hlk, hN⟩ := id Cc
  have hcl : 0 ≤ (rm_X7_number).cells := Nat.zero_le _
  have hsl : 0 ≤ (rm_X7_number).slots := Nat.zero_le _
  induction n with
  | zero => intro x1 S H locs hP hD hS h; cases h
  | succ n ih =>
    intro x1 S H locs hP hD hS h ls hl
    rw [G_X7_number_24] at h
    refine lv_aload_n hx hb dX7_number_24 rfl (lv_at hl 0 rfl) ?_
    refine va_get (D := K.1) (ci := 6) (v := .int (mg_at S)) (C := RX7) (T := TX7) (N := 24) hx hb hts in_X7_number_X7 hown hK hP 12 rfl rfl 11 (by decide) (hts (.fieldLink RX7 185 "SawSumsModel" "at" "I") (by decide +kernel)) (fun _ h9 => h9) rfl dX7_number_25 ?_
    refine lv_aload_n hx hb dX7_number_28 rfl (lv_at hl 0 rfl) ?_
    refine va_get (D := K.1) (ci := 6) (v := .int (mg_length S)) (C := RX7) (T := TX7) (N := 24) hx hb hts in_X7_number_X7 hown hK hP 12 rfl rfl 10 (by decide) (hts (.fieldLink RX7 188 "SawSumsModel" "length" "I") (by decide +kernel)) (fun _ h9 => h9) rfl dX7_number_29 ?_
    refine lv_icmp_ge (tgt := 109) hx hb dX7_number_32 (by decide) (fun c1 => ?_) (fun c1 => ?_)
    · have h := gn_t h c1
      exact w_X7_number_109 Cc hK hF x1 S _ _ hP hD hS h ls (lv_sub hl [0, 1] rfl)
    · have h := gn_f h c1
      refine lv_aload_n hx hb dX7_number_35 rfl (lv_at hl 0 rfl) ?_
      refine va_get (D := K.1) (ci := 6) (v := .ref (K.2.2.1 14)) (C := RX7) (T := TX7) (N := 24) hx hb hts in_X7_number_X7 hown hK hP 12 rfl rfl 8 (by decide) (hts (.fieldLink RX7 13 "SawSumsModel" "tape" "[B") (by decide +kernel)) (fun _ h9 => h9) rfl dX7_number_36 ?_
      refine lv_aload_n hx hb dX7_number_39 rfl (lv_at hl 0 rfl) ?_
      refine va_get (D := K.1) (ci := 6) (v := .int (mg_at S)) (C := RX7) (T := TX7) (N := 24) hx hb hts in_X7_number_X7 hown hK hP 12 rfl rfl 11 (by decide) (hts (.fieldLink RX7 185 "SawSumsModel" "at" "I") (by decide +kernel)) (fun _ h9 => h9) rfl dX7_number_40 ?_
      obtain ⟨n2, h⟩ := gn_yz h
      refine va_bald hx hb hK hP 14 1 rfl rfl (ib_in n2) dX7_number_43 ?_
      refine lv_i2l hx hb dX7_number_44 rfl ?_
      refine lv_ldc2 hx hb hown (hts (.constantLong RX7 207 (48)) (by decide +kernel)) dX7_number_45 ?_
      refine lv_ldc2 hx hb hown (hts (.constantLong RX7 209 (57)) (by decide +kernel)) dX7_number_48 ?_
      obtain ⟨r3, qr3, h⟩ := gn_bd h
      refine pc_S (rest := []) ⟨hx, hb, hml, hown, hts⟩ hN (c_X7_isIn l z _ _ _ r3 qr3) (va_cwS 3 hts gX7_number_X7_isIn rfl rfl rfl (by decide +kernel) ⟨(Nat.le_of_ble_eq_true rfl), (Nat.le_of_ble_eq_true rfl)⟩) rfl hl.1 rfl (Nat.le_of_ble_eq_true rfl) dX7_number_51 hcl hsl ?_
      refine lv_if_eq (tgt := 109) hx hb dX7_number_54 (by decide) (fun c4 => ?_) (fun c4 => ?_)
      · have h := gn_t h c4
        exact w_X7_number_109 Cc hK hF x1 S _ _ hP hD hS h ls (lv_sub hl [0, 1] rfl)
      · have h := gn_f h c4
        refine lv_aload_n hx hb dX7_number_57 rfl (lv_at hl 0 rfl) ?_
        refine va_get (D := K.1) (ci := 6) (v := .int (mg_at S)) (C := RX7) (T := TX7) (N := 24) hx hb hts in_X7_number_X7 hown hK hP 12 rfl rfl 11 (by decide) (hts (.fieldLink RX7 185 "SawSumsModel" "at" "I") (by decide +kernel)) (fun _ h9 => h9) rfl dX7_number_58 ?_
        refine lv_aload_n hx hb dX7_number_61 rfl (lv_at hl 0 rfl) ?_
        refine va_get (D := K.1) (ci := 6) (v := .int (mg_from S)) (C := RX7) (T := TX7) (N := 24) hx hb hts in_X7_number_X7 hown hK hP 12 rfl rfl 12 (by decide) (hts (.fieldLink RX7 204 "SawSumsModel" "from" "I") (by decide +kernel)) (fun _ h9 => h9) rfl dX7_number_62 ?_
        refine lv_isub hx hb dX7_number_65 ?_
        refine lv_bipush (v := (9 : Int32)) hx hb dX7_number_66 (by decide) ?_
        refine lv_icmp_ge (tgt := 94) hx hb dX7_number_68 (by decide) (fun c5 => ?_) (fun c5 => ?_)
        · have h := gn_t h c5
          refine lv_lload_n hx hb dX7_number_94 rfl (lv_at hl 1 rfl) ?_
          refine lv_lstore_n (lv' := [(1, .long x1), (0, .ref (K.2.2.1 12))]) hx hb dX7_number_95 rfl hl (by decide) rfl (fun ls hl => ?_)
          refine lv_aload_n hx hb dX7_number_96 rfl (lv_at hl 1 rfl) ?_
          refine lv_dup hx hb dX7_number_97 rfl ?_
          refine va_get (D := K.1) (ci := 6) (v := .int (mg_at S)) (C := RX7) (T := TX7) (N := 24) hx hb hts in_X7_number_X7 hown hK hP 12 rfl rfl 11 (by decide) (hts (.fieldLink RX7 185 "SawSumsModel" "at" "I") (by decide +kernel)) (fun _ h9 => h9) rfl dX7_number_98 ?_
          refine lv_iconst (v := (1 : Int32)) hx hb dX7_number_101 (by decide) ?_
          refine lv_iadd hx hb dX7_number_102 ?_
          obtain ⟨v6, ev6, h⟩ := gn_nm h
          refine ln_i ev6 ?_
          obtain ⟨S7, eS7, h⟩ := gn_nm h
          refine va_put (D := K.1) (ci := 6) (v := .int v6) (ty := .int) (C := RX7) (T := TX7) (N := 24) hx hb hts in_X7_number_X7 tyX7 tyX7_ok nmX7 hown hK hP hD hS 12 rfl rfl 11 (by decide) (hts (.fieldLink RX7 185 "SawSumsModel" "at" "I") (by decide +kernel)) (fun _ h9 => h9) rfl (by decide +kernel) rfl rfl (Nat.le_of_ble_eq_true rfl) dX7_number_103 (fun H locs hP hD hS => ?_)
          have hP : va_P K.1 vwCl (wd K C S7 o g) H := by rw [eS7]; exact hP
          have hD : va_D (inA K) (wd K C S7 o g) := by rw [eS7]; exact hD
          refine lv_goto (tgt := 24) hx hb dX7_number_106 (by decide) ?_
          exact ih x1 S7 _ _ hP hD hS h ls (lv_sub hl [1, 0] rfl)
        · have h := gn_f h c5
          refine lv_ldc2 hx hb hown (hts (.constantLong RX7 211 (10)) (by decide +kernel)) dX7_number_71 ?_
          refine lv_lload_n hx hb dX7_number_74 rfl (lv_at hl 1 rfl) ?_
          refine lv_lmul hx hb dX7_number_75 ?_
          refine lv_aload_n hx hb dX7_number_76 rfl (lv_at hl 0 rfl) ?_
          refine va_get (D := K.1) (ci := 6) (v := .ref (K.2.2.1 14)) (C := RX7) (T := TX7) (N := 24) hx hb hts in_X7_number_X7 hown hK hP 12 rfl rfl 8 (by decide) (hts (.fieldLink RX7 13 "SawSumsModel" "tape" "[B") (by decide +kernel)) (fun _ h9 => h9) rfl dX7_number_77 ?_
          refine lv_aload_n hx hb dX7_number_80 rfl (lv_at hl 0 rfl) ?_
          refine va_get (D := K.1) (ci := 6) (v := .int (mg_at S)) (C := RX7) (T := TX7) (N := 24) hx hb hts in_X7_number_X7 hown hK hP 12 rfl rfl 11 (by decide) (hts (.fieldLink RX7 185 "SawSumsModel" "at" "I") (by decide +kernel)) (fun _ h9 => h9) rfl dX7_number_81 ?_
          obtain ⟨n8, h⟩ := gn_yz h
          refine va_bald hx hb hK hP 14 1 rfl rfl (ib_in n8) dX7_number_84 ?_
          refine lv_i2l hx hb dX7_number_85 rfl ?_
          refine lv_ladd hx hb dX7_number_86 ?_
          refine lv_ldc2 hx hb hown (hts (.constantLong RX7 207 (48)) (by decide +kernel)) dX7_number_87 ?_
          refine lv_lsub hx hb dX7_number_90 ?_
          refine lv_goto (tgt := 95) hx hb dX7_number_91 (by decide) ?_
          obtain ⟨v9, ev9, h⟩ := gn_nm h
          refine ln_l ev9 ?_
          refine lv_lstore_n (lv' := [(1, .long v9), (0, .ref (K.2.2.1 12))]) hx hb dX7_number_95 rfl hl (by decide) rfl (fun ls hl => ?_)
          refine lv_aload_n hx hb dX7_number_96 rfl (lv_at hl 1 rfl) ?_
          refine lv_dup hx hb dX7_number_97 rfl ?_
          refine va_get (D := K.1) (ci := 6) (v := .int (mg_at S)) (C := RX7) (T := TX7) (N := 24) hx hb hts in_X7_number_X7 hown hK hP 12 rfl rfl 11 (by decide) (hts (.fieldLink RX7 185 "SawSumsModel" "at" "I") (by decide +kernel)) (fun _ h9 => h9) rfl dX7_number_98 ?_
          refine lv_iconst (v := (1 : Int32)) hx hb dX7_number_101 (by decide) ?_
          refine lv_iadd hx hb dX7_number_102 ?_
          obtain ⟨v10, ev10, h⟩ := gn_nm h
          refine ln_i ev10 ?_
          obtain ⟨S11, eS11, h⟩ := gn_nm h
          refine va_put (D := K.1) (ci := 6) (v := .int v10) (ty := .int) (C := RX7) (T := TX7) (N := 24) hx hb hts in_X7_number_X7 tyX7 tyX7_ok nmX7 hown hK hP hD hS 12 rfl rfl 11 (by decide) (hts (.fieldLink RX7 185 "SawSumsModel" "at" "I") (by decide +kernel)) (fun _ h9 => h9) rfl (by decide +kernel) rfl rfl (Nat.le_of_ble_eq_true rfl) dX7_number_103 (fun H locs hP hD hS => ?_)
          have hP : va_P K.1 vwCl (wd K C S11 o g) H := by rw [eS11]; exact hP
          have hD : va_D (inA K) (wd K C S11 o g) := by rw [eS11]; exact hD
          refine lv_goto (tgt := 24) hx hb dX7_number_106 (by decide) ?_
          exact ih v9 S11 _ _ hP hD hS h ls (lv_sub hl [1, 0] rfl)
end
set_option maxRecDepth 100000 in
theorem c_X7_number (l : Launch) (z : Nat) (K : Ev) (C : CS) (o : Nat → Int64) (g : Gh)  (S : MS) (r : Int64) (S' : MS) (h : F_X7_number z S = some (r, S')) : Met l yX7_number wsX7_number rm_X7_number (qH K [.ref (K.2.2.1 12)] C S o g) (qR K (some (.long r)) C S' o g) 0 0 (inA K) := by
  refine Met.ofW (cc := cX7_number) (maxL := 3) (ret := (some .long)) (by decide) rfl ?_
  intro p e s m args below meth c s₁ B hml hv
  obtain ⟨rfl, hN, hP, hK, hD, hF⟩ := hv
  have hx := B.exec
  have hb := B.bytes
  have hr := B.returns
  have hts := atoms_spec (ws := wsX7_number) B.pre
  have hown : s.vm.findClass RX7 = some m.cls := findClass_of_methodNamed B.named
  have hlk := B.notSynchronized
  have hcl : 0 ≤ (rm_X7_number).cells := Nat.zero_le _
  have hsl : 0 ≤ (rm_X7_number).slots := Nat.zero_le _
  have Cc : Cx p s m _ meth c cX7_number 3 RX7 wsX7_number (some .long) := ⟨hx, hb, hml, hown, hts, hr, hlk, hN⟩
  have hS : va_S (inA K) s.heap s.heap [] := va_S.rf
  have hl := lv_entry ([.ref (K.2.2.1 12)]) (n := 3) (Nat.le_of_ble_eq_true rfl)
  rw [lg_entry_eq]
  generalize (lg_sl ([.ref (K.2.2.1 12)]) ++ List.replicate (3 - (lg_sl ([.ref (K.2.2.1 12)])).length) Slot.unset).toArray = ls at hl ⊢
  have hl : lv_has ls 3 [(0, .ref (K.2.2.1 12))] := hl
  rw [F_X7_number] at h
  refine lv_aload_n hx hb dX7_number_0 rfl (lv_at hl 0 rfl) ?_
  obtain ⟨r1, S2, qS2, h⟩ := gn_bd2 h
  refine hc_V (rest := []) ⟨hx, hb, hml, hown, hts⟩ hN hF hK hP hD hS (c_X7_here l z K _ o g  _ r1 S2 qS2) (cwV 0 hts gX7_number_X7_here rfl rfl rfl (by decide +kernel) ⟨(Nat.le_of_ble_eq_true rfl), (Nat.le_of_ble_eq_true rfl)⟩) (va_recv hK hP (ci := 6) (q0 := 12) rfl rfl) rfl hl.1 rfl (Nat.le_of_ble_eq_true rfl) dX7_number_1 hcl hsl (fun H locs hP hD hS => ?_)
  have hP : va_P K.1 vwCl (wd K C S2 o g) H := hP
  have hD : va_D (inA K) (wd K C S2 o g) := hD
  refine W.eq (g2 := F0 m 4 ls [.int r1]) rfl ?_
  refine lv_pop hx hb dX7_number_4 rfl ?_
  refine lv_aload_n hx hb dX7_number_5 rfl (lv_at hl 0 rfl) ?_
  refine lv_aload_n hx hb dX7_number_6 rfl (lv_at hl 0 rfl) ?_
  refine va_get (D := K.1) (ci := 6) (v := .int (mg_at S2)) (C := RX7) (T := TX7) (N := 24) hx hb hts in_X7_number_X7 hown hK hP 12 rfl rfl 11 (by decide) (hts (.fieldLink RX7 185 "SawSumsModel" "at" "I") (by decide +kernel)) (fun _ h9 => h9) rfl dX7_number_7 ?_
  obtain ⟨v3, ev3, h⟩ := gn_nm h
  refine ln_i ev3 ?_
  obtain ⟨S4, eS4, h⟩ := gn_nm h
  refine va_put (D := K.1) (ci := 6) (v := .int v3) (ty := .int) (C := RX7) (T := TX7) (N := 24) hx hb hts in_X7_number_X7 tyX7 tyX7_ok nmX7 hown hK hP hD hS 12 rfl rfl 12 (by decide) (hts (.fieldLink RX7 204 "SawSumsModel" "from" "I") (by decide +kernel)) (fun _ h9 => h9) rfl (by decide +kernel) rfl rfl (Nat.le_of_ble_eq_true rfl) dX7_number_10 (fun H locs hP hD hS => ?_)
  have hP : va_P K.1 vwCl (wd K C S4 o g) H := by rw [eS4]; exact hP
  have hD : va_D (inA K) (wd K C S4 o g) := by rw [eS4]; exact hD
  refine lv_aload_n hx hb dX7_number_13 rfl (lv_at hl 0 rfl) ?_
  refine va_get (D := K.1) (ci := 6) (v := .int (mg_fault S4)) (C := RX7) (T := TX7) (N := 24) hx hb hts in_X7_number_X7 hown hK hP 12 rfl rfl 13 (by decide) (hts (.fieldLink RX7 191 "SawSumsModel" "fault" "I") (by decide +kernel)) (fun _ h9 => h9) rfl dX7_number_14 ?_
  refine lv_if_eq (tgt := 22) hx hb dX7_number_17 (by decide) (fun c5 => ?_) (fun c5 => ?_)
  · have h := gn_t h c5
    refine lv_lconst (v := (0 : Int64)) hx hb dX7_number_22 (by decide) ?_
    refine lv_lstore_n (lv' := [(1, .long (0 : Int64)), (0, .ref (K.2.2.1 12))]) hx hb dX7_number_23 rfl hl (by decide) rfl (fun ls hl => ?_)
    exact w_X7_number_24 Cc hK hF z (0 : Int64) S4 _ _ hP hD hS h ls (lv_sub hl [1, 0] rfl)
  · have h := gn_f h c5
    refine lv_lconst (v := (0 : Int64)) hx hb dX7_number_20 (by decide) ?_
    obtain ⟨rfl, rfl⟩ := Prod.mk.inj (gn_some h)
    exact W.lret hx hb hr (fun t ht _ => ⟨rfl, by rw [ht]; exact hP, hD, hS.F ht⟩) hS.2.2 dX7_number_21 hlk
theorem in_X7_sign_X7 : ∀ w ∈ wsX70, w ∈ wsX7_sign := fun _ h => List.mem_cons_of_mem _ (List.mem_append_right _ h)
def rm_X7_sign : Room := { frames := 1, cells := 0, slots := 0, locals := 22 }
section
variable {p : Program} {l : Launch} {e : Env} {s : State} {m : MethodId} {args : Array Value} {below : List Frame} {meth : Method} {c : Code} {z : Nat} {K : Ev} {C : CS} {o : Nat → Int64} {g : Gh}
end
set_option maxRecDepth 100000 in
theorem c_X7_sign (l : Launch) (z : Nat) (K : Ev) (C : CS) (o : Nat → Int64) (g : Gh) (a0 : Int32) (S : MS)  (S' : MS) (h : F_X7_sign z a0 S = some S') : Met l yX7_sign wsX7_sign rm_X7_sign (qH K [.ref (K.2.2.1 12), .int a0] C S o g) (qR K none C S' o g) 0 0 (inA K) := by
  refine Met.ofW (cc := cX7_sign) (maxL := 2) (ret := none) (by decide) rfl ?_
  intro p e s m args below meth c s₁ B hml hv
  obtain ⟨rfl, hN, hP, hK, hD, hF⟩ := hv
  have hx := B.exec
  have hb := B.bytes
  have hr := B.returns
  have hts := atoms_spec (ws := wsX7_sign) B.pre
  have hown : s.vm.findClass RX7 = some m.cls := findClass_of_methodNamed B.named
  have hlk := B.notSynchronized
  have hcl : 0 ≤ (rm_X7_sign).cells := Nat.zero_le _
  have hsl : 0 ≤ (rm_X7_sign).slots := Nat.zero_le _
  have Cc : Cx p s m _ meth c cX7_sign 2 RX7 wsX7_sign none := ⟨hx, hb, hml, hown, hts, hr, hlk, hN⟩
  have hS : va_S (inA K) s.heap s.heap [] := va_S.rf
  have hl := lv_entry ([.ref (K.2.2.1 12), .int a0]) (n := 2) (Nat.le_of_ble_eq_true rfl)
  rw [lg_entry_eq]
  generalize (lg_sl ([.ref (K.2.2.1 12), .int a0]) ++ List.replicate (2 - (lg_sl ([.ref (K.2.2.1 12), .int a0])).length) Slot.unset).toArray = ls at hl ⊢
  have hl : lv_has ls 2 [(0, .ref (K.2.2.1 12)), (1, .int a0)] := hl
  rw [F_X7_sign] at h
  refine lv_aload_n hx hb dX7_sign_0 rfl (lv_at hl 0 rfl) ?_
  refine va_get (D := K.1) (ci := 6) (v := .int (mg_fault S)) (C := RX7) (T := TX7) (N := 24) hx hb hts in_X7_sign_X7 hown hK hP 12 rfl rfl 13 (by decide) (hts (.fieldLink RX7 191 "SawSumsModel" "fault" "I") (by decide +kernel)) (fun _ h9 => h9) rfl dX7_sign_1 ?_
  refine lv_if_ne (tgt := 24) hx hb dX7_sign_4 (by decide) (fun c1 => ?_) (fun c1 => ?_)
  · have h := gn_f h c1
    refine lv_aload_n hx hb dX7_sign_24 rfl (lv_at hl 0 rfl) ?_
    refine lv_dup hx hb dX7_sign_25 rfl ?_
    refine va_get (D := K.1) (ci := 6) (v := .int (mg_at S)) (C := RX7) (T := TX7) (N := 24) hx hb hts in_X7_sign_X7 hown hK hP 12 rfl rfl 11 (by decide) (hts (.fieldLink RX7 185 "SawSumsModel" "at" "I") (by decide +kernel)) (fun _ h9 => h9) rfl dX7_sign_26 ?_
    refine lv_iconst (v := (1 : Int32)) hx hb dX7_sign_29 (by decide) ?_
    refine lv_iadd hx hb dX7_sign_30 ?_
    obtain ⟨v2, ev2, h⟩ := gn_nm h
    refine ln_i ev2 ?_
    obtain ⟨S3, eS3, h⟩ := gn_nm h
    refine va_put (D := K.1) (ci := 6) (v := .int v2) (ty := .int) (C := RX7) (T := TX7) (N := 24) hx hb hts in_X7_sign_X7 tyX7 tyX7_ok nmX7 hown hK hP hD hS 12 rfl rfl 11 (by decide) (hts (.fieldLink RX7 185 "SawSumsModel" "at" "I") (by decide +kernel)) (fun _ h9 => h9) rfl (by decide +kernel) rfl rfl (Nat.le_of_ble_eq_true rfl) dX7_sign_31 (fun H locs hP hD hS => ?_)
    have hP : va_P K.1 vwCl (wd K C S3 o g) H := by rw [eS3]; exact hP
    have hD : va_D (inA K) (wd K C S3 o g) := by rw [eS3]; exact hD
    obtain rfl := gn_some h
    exact W.vret hx hb hr (fun t ht _ => ⟨rfl, by rw [ht]; exact hP, hD, hS.F ht⟩) hS.2.2 dX7_sign_34 hlk
  · have h := gn_t h c1
    refine lv_aload_n hx hb dX7_sign_7 rfl (lv_at hl 0 rfl) ?_
    obtain ⟨r4, S5, qS5, h⟩ := gn_bd2 h
    refine hc_V (rest := []) ⟨hx, hb, hml, hown, hts⟩ hN hF hK hP hD hS (c_X7_here l z K _ o g  _ r4 S5 qS5) (cwV 0 hts gX7_sign_X7_here rfl rfl rfl (by decide +kernel) ⟨(Nat.le_of_ble_eq_true rfl), (Nat.le_of_ble_eq_true rfl)⟩) (va_recv hK hP (ci := 6) (q0 := 12) rfl rfl) rfl hl.1 rfl (Nat.le_of_ble_eq_true rfl) dX7_sign_8 hcl hsl (fun H locs hP hD hS => ?_)
    have hP : va_P K.1 vwCl (wd K C S5 o g) H := hP
    have hD : va_D (inA K) (wd K C S5 o g) := hD
    refine W.eq (g2 := F0 m 11 ls [.int r4]) rfl ?_
    refine lv_iload_n hx hb dX7_sign_11 rfl (lv_at hl 1 rfl) ?_
    refine lv_icmp_eq (tgt := 24) hx hb dX7_sign_12 (by decide) (fun c6 => ?_) (fun c6 => ?_)
    · have h := gn_t h c6
      refine lv_aload_n hx hb dX7_sign_24 rfl (lv_at hl 0 rfl) ?_
      refine lv_dup hx hb dX7_sign_25 rfl ?_
      refine va_get (D := K.1) (ci := 6) (v := .int (mg_at S5)) (C := RX7) (T := TX7) (N := 24) hx hb hts in_X7_sign_X7 hown hK hP 12 rfl rfl 11 (by decide) (hts (.fieldLink RX7 185 "SawSumsModel" "at" "I") (by decide +kernel)) (fun _ h9 => h9) rfl dX7_sign_26 ?_
      refine lv_iconst (v := (1 : Int32)) hx hb dX7_sign_29 (by decide) ?_
      refine lv_iadd hx hb dX7_sign_30 ?_
      obtain ⟨v7, ev7, h⟩ := gn_nm h
      refine ln_i ev7 ?_
      obtain ⟨S8, eS8, h⟩ := gn_nm h
      refine va_put (D := K.1) (ci := 6) (v := .int v7) (ty := .int) (C := RX7) (T := TX7) (N := 24) hx hb hts in_X7_sign_X7 tyX7 tyX7_ok nmX7 hown hK hP hD hS 12 rfl rfl 11 (by decide) (hts (.fieldLink RX7 185 "SawSumsModel" "at" "I") (by decide +kernel)) (fun _ h9 => h9) rfl (by decide +kernel) rfl rfl (Nat.le_of_ble_eq_true rfl) dX7_sign_31 (fun H locs hP hD hS => ?_)
      have hP : va_P K.1 vwCl (wd K C S8 o g) H := by rw [eS8]; exact hP
      have hD : va_D (inA K) (wd K C S8 o g) := by rw [eS8]; exact hD
      obtain rfl := gn_some h
      exact W.vret hx hb hr (fun t ht _ => ⟨rfl, by rw [ht]; exact hP, hD, hS.F ht⟩) hS.2.2 dX7_sign_34 hlk
    · have h := gn_f h c6
      refine lv_aload_n hx hb dX7_sign_15 rfl (lv_at hl 0 rfl) ?_
      refine lv_iconst (v := (1 : Int32)) hx hb dX7_sign_16 (by decide) ?_
      refine lv_aload_n hx hb dX7_sign_17 rfl (lv_at hl 0 rfl) ?_
      refine va_get (D := K.1) (ci := 6) (v := .int (mg_at S5)) (C := RX7) (T := TX7) (N := 24) hx hb hts in_X7_sign_X7 hown hK hP 12 rfl rfl 11 (by decide) (hts (.fieldLink RX7 185 "SawSumsModel" "at" "I") (by decide +kernel)) (fun _ h9 => h9) rfl dX7_sign_18 ?_
      obtain ⟨S9, qS9, h⟩ := gn_bd h
      refine hc_V (rest := []) ⟨hx, hb, hml, hown, hts⟩ hN hF hK hP hD hS (c_X7_fails l z K _ o g _ _ _  S9 qS9) (cwV 2 hts gX7_sign_X7_fails rfl rfl rfl (by decide +kernel) ⟨(Nat.le_of_ble_eq_true rfl), (Nat.le_of_ble_eq_true rfl)⟩) (va_recv hK hP (ci := 6) (q0 := 12) rfl rfl) rfl hl.1 rfl (Nat.le_of_ble_eq_true rfl) dX7_sign_21 hcl hsl (fun H locs hP hD hS => ?_)
      have hP : va_P K.1 vwCl (wd K C S9 o g) H := hP
      have hD : va_D (inA K) (wd K C S9 o g) := hD
      refine W.eq (g2 := F0 m 24 ls []) rfl ?_
      refine lv_aload_n hx hb dX7_sign_24 rfl (lv_at hl 0 rfl) ?_
      refine lv_dup hx hb dX7_sign_25 rfl ?_
      refine va_get (D := K.1) (ci := 6) (v := .int (mg_at S9)) (C := RX7) (T := TX7) (N := 24) hx hb hts in_X7_sign_X7 hown hK hP 12 rfl rfl 11 (by decide) (hts (.fieldLink RX7 185 "SawSumsModel" "at" "I") (by decide +kernel)) (fun _ h9 => h9) rfl dX7_sign_26 ?_
      refine lv_iconst (v := (1 : Int32)) hx hb dX7_sign_29 (by decide) ?_
      refine lv_iadd hx hb dX7_sign_30 ?_
      obtain ⟨v10, ev10, h⟩ := gn_nm h
      refine ln_i ev10 ?_
      obtain ⟨S11, eS11, h⟩ := gn_nm h
      refine va_put (D := K.1) (ci := 6) (v := .int v10) (ty := .int) (C := RX7) (T := TX7) (N := 24) hx hb hts in_X7_sign_X7 tyX7 tyX7_ok nmX7 hown hK hP hD hS 12 rfl rfl 11 (by decide) (hts (.fieldLink RX7 185 "SawSumsModel" "at" "I") (by decide +kernel)) (fun _ h9 => h9) rfl (by decide +kernel) rfl rfl (Nat.le_of_ble_eq_true rfl) dX7_sign_31 (fun H locs hP hD hS => ?_)
      have hP : va_P K.1 vwCl (wd K C S11 o g) H := by rw [eS11]; exact hP
      have hD : va_D (inA K) (wd K C S11 o g) := by rw [eS11]; exact hD
      obtain rfl := gn_some h
      exact W.vret hx hb hr (fun t ht _ => ⟨rfl, by rw [ht]; exact hP, hD, hS.F ht⟩) hS.2.2 dX7_sign_34 hlk
theorem in_X7_opens_X7 : ∀ w ∈ wsX70, w ∈ wsX7_opens := fun _ h => List.mem_cons_of_mem _ (List.mem_append_right _ h)
def rm_X7_opens : Room := { frames := 1, cells := 0, slots := 0, locals := 22 }
section
variable {p : Program} {l : Launch} {e : Env} {s : State} {m : MethodId} {args : Array Value} {below : List Frame} {meth : Method} {c : Code} {z : Nat} {K : Ev} {C : CS} {o : Nat → Int64} {g : Gh}
set_option maxRecDepth 100000 in
theorem w_X7_opens_43 (Cc : Cx p s m args meth c cX7_opens 1 RX7 wsX7_opens none) (hK : va_K K.1 vwCl (tysOf K) s) (hF : SF K s)  {S' : MS} : ∀  (S : MS) (H : Heap) (locs : List Loc), va_P K.1 vwCl (wd K C S o g) H → va_D (inA K) (wd K C S o g) → va_S (inA K) s.heap H locs → G_X7_opens_43 z S = some S' → ∀ ls, lv_has ls 1 [(0, .ref (K.2.2.1 12))] → W p l e rm_X7_opens s m args below meth c H locs 0 0 (MQ below (qR K none C S' o g) args s 0 0 (inA K)) (F0 m 43 ls []) := by
  obtain ⟨hx, hb, hml, hown, hts, hr, hlk, hN⟩ := id Cc
  have hcl : 0 ≤ (rm_X7_opens).cells := Nat.zero_le _
  have hsl : 0 ≤ (rm_X7_opens).slots := Nat.zero_le _
  intro S H locs hP hD hS h ls hl
  rw [G_X7_opens_43] at h
  refine lv_aload_n hx hb dX7_opens_43 rfl (lv_at hl 0 rfl) ?_
  refine lv_dup hx hb dX7_opens_44 rfl ?_
  refine va_get (D := K.1) (ci := 6) (v := .int (mg_open S)) (C := RX7) (T := TX7) (N := 24) hx hb hts in_X7_opens_X7 hown hK hP 12 rfl rfl 15 (by decide) (hts (.fieldLink RX7 219 "SawSumsModel" "open" "I") (by decide +kernel)) (fun _ h9 => h9) rfl dX7_opens_45 ?_
  refine lv_iconst (v := (1 : Int32)) hx hb dX7_opens_48 (by decide) ?_
  refine lv_iadd hx hb dX7_opens_49 ?_
  obtain ⟨v1, ev1, h⟩ := gn_nm h
  refine ln_i ev1 ?_
  obtain ⟨S2, eS2, h⟩ := gn_nm h
  refine va_put (D := K.1) (ci := 6) (v := .int v1) (ty := .int) (C := RX7) (T := TX7) (N := 24) hx hb hts in_X7_opens_X7 tyX7 tyX7_ok nmX7 hown hK hP hD hS 12 rfl rfl 15 (by decide) (hts (.fieldLink RX7 219 "SawSumsModel" "open" "I") (by decide +kernel)) (fun _ h9 => h9) rfl (by decide +kernel) rfl rfl (Nat.le_of_ble_eq_true rfl) dX7_opens_50 (fun H locs hP hD hS => ?_)
  have hP : va_P K.1 vwCl (wd K C S2 o g) H := by rw [eS2]; exact hP
  have hD : va_D (inA K) (wd K C S2 o g) := by rw [eS2]; exact hD
  refine lv_aload_n hx hb dX7_opens_53 rfl (lv_at hl 0 rfl) ?_
  refine lv_dup hx hb dX7_opens_54 rfl ?_
  refine va_get (D := K.1) (ci := 6) (v := .int (mg_at S2)) (C := RX7) (T := TX7) (N := 24) hx hb hts in_X7_opens_X7 hown hK hP 12 rfl rfl 11 (by decide) (hts (.fieldLink RX7 185 "SawSumsModel" "at" "I") (by decide +kernel)) (fun _ h9 => h9) rfl dX7_opens_55 ?_
  refine lv_iconst (v := (1 : Int32)) hx hb dX7_opens_58 (by decide) ?_
  refine lv_iadd hx hb dX7_opens_59 ?_
  obtain ⟨v3, ev3, h⟩ := gn_nm h
  refine ln_i ev3 ?_
  obtain ⟨S4, eS4, h⟩ := gn_nm h
  refine va_put (D := K.1) (ci := 6) (v := .int v3) (ty := .int) (C := RX7) (T := TX7) (N := 24) hx hb hts in_X7_opens_X7 tyX7 tyX7_ok nmX7 hown hK hP hD hS 12 rfl rfl 11 (by decide) (hts (.fieldLink RX7 185 "SawSumsModel" "at" "I") (by decide +kernel)) (fun _ h9 => h9) rfl (by decide +kernel) rfl rfl (Nat.le_of_ble_eq_true rfl) dX7_opens_60 (fun H locs hP hD hS => ?_)
  have hP : va_P K.1 vwCl (wd K C S4 o g) H := by rw [eS4]; exact hP
  have hD : va_D (inA K) (wd K C S4 o g) := by rw [eS4]; exact hD
  obtain rfl := gn_some h
  exact W.vret hx hb hr (fun t ht _ => ⟨rfl, by rw [ht]; exact hP, hD, hS.F ht⟩) hS.2.2 dX7_opens_63 hlk
set_option maxRecDepth 100000 in
theorem w_X7_opens_25 (Cc : Cx p s m args meth c cX7_opens 1 RX7 wsX7_opens none) (hK : va_K K.1 vwCl (tysOf K) s) (hF : SF K s)  {S' : MS} : ∀  (S : MS) (H : Heap) (locs : List Loc), va_P K.1 vwCl (wd K C S o g) H → va_D (inA K) (wd K C S o g) → va_S (inA K) s.heap H locs → G_X7_opens_25 z S = some S' → ∀ ls, lv_has ls 1 [(0, .ref (K.2.2.1 12))] → W p l e rm_X7_opens s m args below meth c H locs 0 0 (MQ below (qR K none C S' o g) args s 0 0 (inA K)) (F0 m 25 ls []) := by
  obtain ⟨hx, hb, hml, hown, hts, hr, hlk, hN⟩ := id Cc
  have hcl : 0 ≤ (rm_X7_opens).cells := Nat.zero_le _
  have hsl : 0 ≤ (rm_X7_opens).slots := Nat.zero_le _
  intro S H locs hP hD hS h ls hl
  rw [G_X7_opens_25] at h
  refine lv_aload_n hx hb dX7_opens_25 rfl (lv_at hl 0 rfl) ?_
  refine va_get (D := K.1) (ci := 6) (v := .int (mg_open S)) (C := RX7) (T := TX7) (N := 24) hx hb hts in_X7_opens_X7 hown hK hP 12 rfl rfl 15 (by decide) (hts (.fieldLink RX7 219 "SawSumsModel" "open" "I") (by decide +kernel)) (fun _ h9 => h9) rfl dX7_opens_26 ?_
  refine lv_bipush (v := (9 : Int32)) hx hb dX7_opens_29 (by decide) ?_
  refine lv_icmp_ne (tgt := 43) hx hb dX7_opens_31 (by decide) (fun c1 => ?_) (fun c1 => ?_)
  · have h := gn_f h c1
    exact w_X7_opens_43 Cc hK hF S _ _ hP hD hS h ls (lv_sub hl [0] rfl)
  · have h := gn_t h c1
    refine lv_aload_n hx hb dX7_opens_34 rfl (lv_at hl 0 rfl) ?_
    refine lv_iconst (v := (2 : Int32)) hx hb dX7_opens_35 (by decide) ?_
    refine lv_aload_n hx hb dX7_opens_36 rfl (lv_at hl 0 rfl) ?_
    refine va_get (D := K.1) (ci := 6) (v := .int (mg_at S)) (C := RX7) (T := TX7) (N := 24) hx hb hts in_X7_opens_X7 hown hK hP 12 rfl rfl 11 (by decide) (hts (.fieldLink RX7 185 "SawSumsModel" "at" "I") (by decide +kernel)) (fun _ h9 => h9) rfl dX7_opens_37 ?_
    obtain ⟨S2, qS2, h⟩ := gn_bd h
    refine hc_V (rest := []) ⟨hx, hb, hml, hown, hts⟩ hN hF hK hP hD hS (c_X7_fails l z K _ o g _ _ _  S2 qS2) (cwV 2 hts gX7_opens_X7_fails rfl rfl rfl (by decide +kernel) ⟨(Nat.le_of_ble_eq_true rfl), (Nat.le_of_ble_eq_true rfl)⟩) (va_recv hK hP (ci := 6) (q0 := 12) rfl rfl) rfl hl.1 rfl (Nat.le_of_ble_eq_true rfl) dX7_opens_40 hcl hsl (fun H locs hP hD hS => ?_)
    have hP : va_P K.1 vwCl (wd K C S2 o g) H := hP
    have hD : va_D (inA K) (wd K C S2 o g) := hD
    refine W.eq (g2 := F0 m 43 ls []) rfl ?_
    exact w_X7_opens_43 Cc hK hF S2 _ _ hP hD hS h ls (lv_sub hl [0] rfl)
end
set_option maxRecDepth 100000 in
theorem c_X7_opens (l : Launch) (z : Nat) (K : Ev) (C : CS) (o : Nat → Int64) (g : Gh)  (S : MS)  (S' : MS) (h : F_X7_opens z S = some S') : Met l yX7_opens wsX7_opens rm_X7_opens (qH K [.ref (K.2.2.1 12)] C S o g) (qR K none C S' o g) 0 0 (inA K) := by
  refine Met.ofW (cc := cX7_opens) (maxL := 1) (ret := none) (by decide) rfl ?_
  intro p e s m args below meth c s₁ B hml hv
  obtain ⟨rfl, hN, hP, hK, hD, hF⟩ := hv
  have hx := B.exec
  have hb := B.bytes
  have hr := B.returns
  have hts := atoms_spec (ws := wsX7_opens) B.pre
  have hown : s.vm.findClass RX7 = some m.cls := findClass_of_methodNamed B.named
  have hlk := B.notSynchronized
  have hcl : 0 ≤ (rm_X7_opens).cells := Nat.zero_le _
  have hsl : 0 ≤ (rm_X7_opens).slots := Nat.zero_le _
  have Cc : Cx p s m _ meth c cX7_opens 1 RX7 wsX7_opens none := ⟨hx, hb, hml, hown, hts, hr, hlk, hN⟩
  have hS : va_S (inA K) s.heap s.heap [] := va_S.rf
  have hl := lv_entry ([.ref (K.2.2.1 12)]) (n := 1) (Nat.le_of_ble_eq_true rfl)
  rw [lg_entry_eq]
  generalize (lg_sl ([.ref (K.2.2.1 12)]) ++ List.replicate (1 - (lg_sl ([.ref (K.2.2.1 12)])).length) Slot.unset).toArray = ls at hl ⊢
  have hl : lv_has ls 1 [(0, .ref (K.2.2.1 12))] := hl
  rw [F_X7_opens] at h
  refine lv_aload_n hx hb dX7_opens_0 rfl (lv_at hl 0 rfl) ?_
  refine va_get (D := K.1) (ci := 6) (v := .int (mg_fault S)) (C := RX7) (T := TX7) (N := 24) hx hb hts in_X7_opens_X7 hown hK hP 12 rfl rfl 13 (by decide) (hts (.fieldLink RX7 191 "SawSumsModel" "fault" "I") (by decide +kernel)) (fun _ h9 => h9) rfl dX7_opens_1 ?_
  refine lv_if_ne (tgt := 25) hx hb dX7_opens_4 (by decide) (fun c1 => ?_) (fun c1 => ?_)
  · have h := gn_f h c1
    exact w_X7_opens_25 Cc hK hF S _ _ hP hD hS h ls (lv_sub hl [0] rfl)
  · have h := gn_t h c1
    refine lv_aload_n hx hb dX7_opens_7 rfl (lv_at hl 0 rfl) ?_
    obtain ⟨r2, S3, qS3, h⟩ := gn_bd2 h
    refine hc_V (rest := []) ⟨hx, hb, hml, hown, hts⟩ hN hF hK hP hD hS (c_X7_here l z K _ o g  _ r2 S3 qS3) (cwV 0 hts gX7_opens_X7_here rfl rfl rfl (by decide +kernel) ⟨(Nat.le_of_ble_eq_true rfl), (Nat.le_of_ble_eq_true rfl)⟩) (va_recv hK hP (ci := 6) (q0 := 12) rfl rfl) rfl hl.1 rfl (Nat.le_of_ble_eq_true rfl) dX7_opens_8 hcl hsl (fun H locs hP hD hS => ?_)
    have hP : va_P K.1 vwCl (wd K C S3 o g) H := hP
    have hD : va_D (inA K) (wd K C S3 o g) := hD
    refine W.eq (g2 := F0 m 11 ls [.int r2]) rfl ?_
    refine lv_bipush (v := (40 : Int32)) hx hb dX7_opens_11 (by decide) ?_
    refine lv_icmp_eq (tgt := 25) hx hb dX7_opens_13 (by decide) (fun c4 => ?_) (fun c4 => ?_)
    · have h := gn_t h c4
      exact w_X7_opens_25 Cc hK hF S3 _ _ hP hD hS h ls (lv_sub hl [0] rfl)
    · have h := gn_f h c4
      refine lv_aload_n hx hb dX7_opens_16 rfl (lv_at hl 0 rfl) ?_
      refine lv_iconst (v := (1 : Int32)) hx hb dX7_opens_17 (by decide) ?_
      refine lv_aload_n hx hb dX7_opens_18 rfl (lv_at hl 0 rfl) ?_
      refine va_get (D := K.1) (ci := 6) (v := .int (mg_at S3)) (C := RX7) (T := TX7) (N := 24) hx hb hts in_X7_opens_X7 hown hK hP 12 rfl rfl 11 (by decide) (hts (.fieldLink RX7 185 "SawSumsModel" "at" "I") (by decide +kernel)) (fun _ h9 => h9) rfl dX7_opens_19 ?_
      obtain ⟨S5, qS5, h⟩ := gn_bd h
      refine hc_V (rest := []) ⟨hx, hb, hml, hown, hts⟩ hN hF hK hP hD hS (c_X7_fails l z K _ o g _ _ _  S5 qS5) (cwV 2 hts gX7_opens_X7_fails rfl rfl rfl (by decide +kernel) ⟨(Nat.le_of_ble_eq_true rfl), (Nat.le_of_ble_eq_true rfl)⟩) (va_recv hK hP (ci := 6) (q0 := 12) rfl rfl) rfl hl.1 rfl (Nat.le_of_ble_eq_true rfl) dX7_opens_22 hcl hsl (fun H locs hP hD hS => ?_)
      have hP : va_P K.1 vwCl (wd K C S5 o g) H := hP
      have hD : va_D (inA K) (wd K C S5 o g) := hD
      refine W.eq (g2 := F0 m 25 ls []) rfl ?_
      exact w_X7_opens_25 Cc hK hF S5 _ _ hP hD hS h ls (lv_sub hl [0] rfl)
theorem in_X7_closes_X7 : ∀ w ∈ wsX70, w ∈ wsX7_closes := fun _ h => List.mem_cons_of_mem _ (List.mem_append_right _ h)
def rm_X7_closes : Room := { frames := 2, cells := 0, slots := 0, locals := 43 }
section
variable {p : Program} {l : Launch} {e : Env} {s : State} {m : MethodId} {args : Array Value} {below : List Frame} {meth : Method} {c : Code} {z : Nat} {K : Ev} {C : CS} {o : Nat → Int64} {g : Gh}
end
set_option maxRecDepth 100000 in
theorem c_X7_closes (l : Launch) (z : Nat) (K : Ev) (C : CS) (o : Nat → Int64) (g : Gh)  (S : MS)  (S' : MS) (h : F_X7_closes z S = some S') : Met l yX7_closes wsX7_closes rm_X7_closes (qH K [.ref (K.2.2.1 12)] C S o g) (qR K none C S' o g) 0 0 (inA K) := by
  refine Met.ofW (cc := cX7_closes) (maxL := 1) (ret := none) (by decide) rfl ?_
  intro p e s m args below meth c s₁ B hml hv
  obtain ⟨rfl, hN, hP, hK, hD, hF⟩ := hv
  have hx := B.exec
  have hb := B.bytes
  have hr := B.returns
  have hts := atoms_spec (ws := wsX7_closes) B.pre
  have hown : s.vm.findClass RX7 = some m.cls := findClass_of_methodNamed B.named
  have hlk := B.notSynchronized
  have hcl : 0 ≤ (rm_X7_closes).cells := Nat.zero_le _
  have hsl : 0 ≤ (rm_X7_closes).slots := Nat.zero_le _
  have Cc : Cx p s m _ meth c cX7_closes 1 RX7 wsX7_closes none := ⟨hx, hb, hml, hown, hts, hr, hlk, hN⟩
  have hS : va_S (inA K) s.heap s.heap [] := va_S.rf
  have hl := lv_entry ([.ref (K.2.2.1 12)]) (n := 1) (Nat.le_of_ble_eq_true rfl)
  rw [lg_entry_eq]
  generalize (lg_sl ([.ref (K.2.2.1 12)]) ++ List.replicate (1 - (lg_sl ([.ref (K.2.2.1 12)])).length) Slot.unset).toArray = ls at hl ⊢
  have hl : lv_has ls 1 [(0, .ref (K.2.2.1 12))] := hl
  rw [F_X7_closes] at h
  refine lv_aload_n hx hb dX7_closes_0 rfl (lv_at hl 0 rfl) ?_
  refine lv_bipush (v := (41 : Int32)) hx hb dX7_closes_1 (by decide) ?_
  obtain ⟨S1, qS1, h⟩ := gn_bd h
  refine hc_V (rest := []) ⟨hx, hb, hml, hown, hts⟩ hN hF hK hP hD hS (c_X7_sign l z K _ o g _ _  S1 qS1) (cwV 1 hts gX7_closes_X7_sign rfl rfl rfl (by decide +kernel) ⟨(Nat.le_of_ble_eq_true rfl), (Nat.le_of_ble_eq_true rfl)⟩) (va_recv hK hP (ci := 6) (q0 := 12) rfl rfl) rfl hl.1 rfl (Nat.le_of_ble_eq_true rfl) dX7_closes_3 hcl hsl (fun H locs hP hD hS => ?_)
  have hP : va_P K.1 vwCl (wd K C S1 o g) H := hP
  have hD : va_D (inA K) (wd K C S1 o g) := hD
  refine W.eq (g2 := F0 m 6 ls []) rfl ?_
  refine lv_aload_n hx hb dX7_closes_6 rfl (lv_at hl 0 rfl) ?_
  refine lv_dup hx hb dX7_closes_7 rfl ?_
  refine va_get (D := K.1) (ci := 6) (v := .int (mg_open S1)) (C := RX7) (T := TX7) (N := 24) hx hb hts in_X7_closes_X7 hown hK hP 12 rfl rfl 15 (by decide) (hts (.fieldLink RX7 219 "SawSumsModel" "open" "I") (by decide +kernel)) (fun _ h9 => h9) rfl dX7_closes_8 ?_
  refine lv_iconst (v := (1 : Int32)) hx hb dX7_closes_11 (by decide) ?_
  refine lv_isub hx hb dX7_closes_12 ?_
  obtain ⟨v2, ev2, h⟩ := gn_nm h
  refine ln_i ev2 ?_
  obtain ⟨S3, eS3, h⟩ := gn_nm h
  refine va_put (D := K.1) (ci := 6) (v := .int v2) (ty := .int) (C := RX7) (T := TX7) (N := 24) hx hb hts in_X7_closes_X7 tyX7 tyX7_ok nmX7 hown hK hP hD hS 12 rfl rfl 15 (by decide) (hts (.fieldLink RX7 219 "SawSumsModel" "open" "I") (by decide +kernel)) (fun _ h9 => h9) rfl (by decide +kernel) rfl rfl (Nat.le_of_ble_eq_true rfl) dX7_closes_13 (fun H locs hP hD hS => ?_)
  have hP : va_P K.1 vwCl (wd K C S3 o g) H := by rw [eS3]; exact hP
  have hD : va_D (inA K) (wd K C S3 o g) := by rw [eS3]; exact hD
  obtain rfl := gn_some h
  exact W.vret hx hb hr (fun t ht _ => ⟨rfl, by rw [ht]; exact hP, hD, hS.F ht⟩) hS.2.2 dX7_closes_16 hlk
theorem in_X7_whole_X7 : ∀ w ∈ wsX70, w ∈ wsX7_whole := fun _ h => List.mem_cons_of_mem _ (List.mem_append_right _ h)
def rm_X7_whole : Room := { frames := 2, cells := 0, slots := 0, locals := 47 }
section
variable {p : Program} {l : Launch} {e : Env} {s : State} {m : MethodId} {args : Array Value} {below : List Frame} {meth : Method} {c : Code} {z : Nat} {K : Ev} {C : CS} {o : Nat → Int64} {g : Gh}
set_option maxRecDepth 100000 in
theorem w_X7_whole_29 (Cc : Cx p s m args meth c cX7_whole 4 RX7 wsX7_whole (some .long)) (hK : va_K K.1 vwCl (tysOf K) s) (hF : SF K s) {r : Int64} {S' : MS} : ∀ (x1 : Int32) (t0 : Int32) (t1 : Int32) (S : MS) (H : Heap) (locs : List Loc), va_P K.1 vwCl (wd K C S o g) H → va_D (inA K) (wd K C S o g) → va_S (inA K) s.heap H locs → G_X7_whole_29 z x1 t0 t1 S = some (r, S') → ∀ ls, lv_has ls 4 [(0, .ref (K.2.2.1 12)), (1, .int x1)] → W p l e rm_X7_whole s m args below meth c H locs 0 0 (MQ below (qR K (some (.long r)) C S' o g) args s 0 0 (inA K)) (F0 m 29 ls [.int t0, .int t1, .ref (K.2.2.1 12)]) := by
  obtain ⟨hx, hb, hml, hown, hts, hr, hlk, hN⟩ := id Cc
  have hcl : 0 ≤ (rm_X7_whole).cells := Nat.zero_le _
  have hsl : 0 ≤ (rm_X7_whole).slots := Nat.zero_le _
  intro x1 t0 t1 S H locs hP hD hS h ls hl
  rw [G_X7_whole_29] at h
  refine lv_iadd hx hb dX7_whole_29 ?_
  obtain ⟨v1, ev1, h⟩ := gn_nm h
  refine ln_i ev1 ?_
  obtain ⟨S2, eS2, h⟩ := gn_nm h
  refine va_put (D := K.1) (ci := 6) (v := .int v1) (ty := .int) (C := RX7) (T := TX7) (N := 24) hx hb hts in_X7_whole_X7 tyX7 tyX7_ok nmX7 hown hK hP hD hS 12 rfl rfl 11 (by decide) (hts (.fieldLink RX7 185 "SawSumsModel" "at" "I") (by decide +kernel)) (fun _ h9 => h9) rfl (by decide +kernel) rfl rfl (Nat.le_of_ble_eq_true rfl) dX7_whole_30 (fun H locs hP hD hS => ?_)
  have hP : va_P K.1 vwCl (wd K C S2 o g) H := by rw [eS2]; exact hP
  have hD : va_D (inA K) (wd K C S2 o g) := by rw [eS2]; exact hD
  refine lv_aload_n hx hb dX7_whole_33 rfl (lv_at hl 0 rfl) ?_
  obtain ⟨r3, S4, qS4, h⟩ := gn_bd2 h
  refine hc_V (rest := []) ⟨hx, hb, hml, hown, hts⟩ hN hF hK hP hD hS (c_X7_number l z K _ o g  _ r3 S4 qS4) (cwV 0 hts gX7_whole_X7_number rfl rfl rfl (by decide +kernel) ⟨(Nat.le_of_ble_eq_true rfl), (Nat.le_of_ble_eq_true rfl)⟩) (va_recv hK hP (ci := 6) (q0 := 12) rfl rfl) rfl hl.1 rfl (Nat.le_of_ble_eq_true rfl) dX7_whole_34 hcl hsl (fun H locs hP hD hS => ?_)
  have hP : va_P K.1 vwCl (wd K C S4 o g) H := hP
  have hD : va_D (inA K) (wd K C S4 o g) := hD
  refine W.eq (g2 := F0 m 37 ls [.long r3]) rfl ?_
  refine lv_lstore_n (lv' := [(2, .long r3), (0, .ref (K.2.2.1 12)), (1, .int x1)]) hx hb dX7_whole_37 rfl hl (by decide) rfl (fun ls hl => ?_)
  refine lv_iload_n hx hb dX7_whole_38 rfl (lv_at hl 2 rfl) ?_
  refine lv_if_eq (tgt := 47) hx hb dX7_whole_39 (by decide) (fun c5 => ?_) (fun c5 => ?_)
  · have h := gn_t h c5
    refine lv_lload_n hx hb dX7_whole_47 rfl (lv_at hl 0 rfl) ?_
    obtain ⟨rfl, rfl⟩ := Prod.mk.inj (gn_some h)
    exact W.lret hx hb hr (fun t ht _ => ⟨rfl, by rw [ht]; exact hP, hD, hS.F ht⟩) hS.2.2 dX7_whole_48 hlk
  · have h := gn_f h c5
    refine lv_lload_n hx hb dX7_whole_42 rfl (lv_at hl 0 rfl) ?_
    refine lv_lneg hx hb dX7_whole_43 ?_
    refine lv_goto (tgt := 48) hx hb dX7_whole_44 (by decide) ?_
    obtain ⟨rfl, rfl⟩ := Prod.mk.inj (gn_some h)
    exact W.lret hx hb hr (fun t ht _ => ⟨rfl, by rw [ht]; exact hP, hD, hS.F ht⟩) hS.2.2 dX7_whole_48 hlk
set_option maxRecDepth 100000 in
theorem w_X7_whole_14 (Cc : Cx p s m args meth c cX7_whole 4 RX7 wsX7_whole (some .long)) (hK : va_K K.1 vwCl (tysOf K) s) (hF : SF K s) {r : Int64} {S' : MS} : ∀ (t0 : Int32) (S : MS) (H : Heap) (locs : List Loc), va_P K.1 vwCl (wd K C S o g) H → va_D (inA K) (wd K C S o g) → va_S (inA K) s.heap H locs → G_X7_whole_14 z t0 S = some (r, S') → ∀ ls, lv_has ls 4 [(0, .ref (K.2.2.1 12))] → W p l e rm_X7_whole s m args below meth c H locs 0 0 (MQ below (qR K (some (.long r)) C S' o g) args s 0 0 (inA K)) (F0 m 14 ls [.int t0]) := by
  obtain ⟨hx, hb, hml, hown, hts, hr, hlk, hN⟩ := id Cc
  have hcl : 0 ≤ (rm_X7_whole).cells := Nat.zero_le _
  have hsl : 0 ≤ (rm_X7_whole).slots := Nat.zero_le _
  intro t0 S H locs hP hD hS h ls hl
  rw [G_X7_whole_14] at h
  refine lv_istore_n (lv' := [(1, .int t0), (0, .ref (K.2.2.1 12))]) hx hb dX7_whole_14 rfl hl (by decide) rfl (fun ls hl => ?_)
  refine lv_aload_n hx hb dX7_whole_15 rfl (lv_at hl 1 rfl) ?_
  refine lv_dup hx hb dX7_whole_16 rfl ?_
  refine va_get (D := K.1) (ci := 6) (v := .int (mg_at S)) (C := RX7) (T := TX7) (N := 24) hx hb hts in_X7_whole_X7 hown hK hP 12 rfl rfl 11 (by decide) (hts (.fieldLink RX7 185 "SawSumsModel" "at" "I") (by decide +kernel)) (fun _ h9 => h9) rfl dX7_whole_17 ?_
  refine lv_iload_n hx hb dX7_whole_20 rfl (lv_at hl 0 rfl) ?_
  refine lv_if_eq (tgt := 28) hx hb dX7_whole_21 (by decide) (fun c1 => ?_) (fun c1 => ?_)
  · have h := gn_t h c1
    refine lv_iconst (v := (0 : Int32)) hx hb dX7_whole_28 (by decide) ?_
    exact w_X7_whole_29 Cc hK hF t0 (0 : Int32) (mg_at S) S _ _ hP hD hS h ls (lv_sub hl [1, 0] rfl)
  · have h := gn_f h c1
    refine lv_iconst (v := (1 : Int32)) hx hb dX7_whole_24 (by decide) ?_
    refine lv_goto (tgt := 29) hx hb dX7_whole_25 (by decide) ?_
    exact w_X7_whole_29 Cc hK hF t0 (1 : Int32) (mg_at S) S _ _ hP hD hS h ls (lv_sub hl [1, 0] rfl)
end
set_option maxRecDepth 100000 in
theorem c_X7_whole (l : Launch) (z : Nat) (K : Ev) (C : CS) (o : Nat → Int64) (g : Gh)  (S : MS) (r : Int64) (S' : MS) (h : F_X7_whole z S = some (r, S')) : Met l yX7_whole wsX7_whole rm_X7_whole (qH K [.ref (K.2.2.1 12)] C S o g) (qR K (some (.long r)) C S' o g) 0 0 (inA K) := by
  refine Met.ofW (cc := cX7_whole) (maxL := 4) (ret := (some .long)) (by decide) rfl ?_
  intro p e s m args below meth c s₁ B hml hv
  obtain ⟨rfl, hN, hP, hK, hD, hF⟩ := hv
  have hx := B.exec
  have hb := B.bytes
  have hr := B.returns
  have hts := atoms_spec (ws := wsX7_whole) B.pre
  have hown : s.vm.findClass RX7 = some m.cls := findClass_of_methodNamed B.named
  have hlk := B.notSynchronized
  have hcl : 0 ≤ (rm_X7_whole).cells := Nat.zero_le _
  have hsl : 0 ≤ (rm_X7_whole).slots := Nat.zero_le _
  have Cc : Cx p s m _ meth c cX7_whole 4 RX7 wsX7_whole (some .long) := ⟨hx, hb, hml, hown, hts, hr, hlk, hN⟩
  have hS : va_S (inA K) s.heap s.heap [] := va_S.rf
  have hl := lv_entry ([.ref (K.2.2.1 12)]) (n := 4) (Nat.le_of_ble_eq_true rfl)
  rw [lg_entry_eq]
  generalize (lg_sl ([.ref (K.2.2.1 12)]) ++ List.replicate (4 - (lg_sl ([.ref (K.2.2.1 12)])).length) Slot.unset).toArray = ls at hl ⊢
  have hl : lv_has ls 4 [(0, .ref (K.2.2.1 12))] := hl
  rw [F_X7_whole] at h
  refine lv_aload_n hx hb dX7_whole_0 rfl (lv_at hl 0 rfl) ?_
  obtain ⟨r1, S2, qS2, h⟩ := gn_bd2 h
  refine hc_V (rest := []) ⟨hx, hb, hml, hown, hts⟩ hN hF hK hP hD hS (c_X7_here l z K _ o g  _ r1 S2 qS2) (cwV 0 hts gX7_whole_X7_here rfl rfl rfl (by decide +kernel) ⟨(Nat.le_of_ble_eq_true rfl), (Nat.le_of_ble_eq_true rfl)⟩) (va_recv hK hP (ci := 6) (q0 := 12) rfl rfl) rfl hl.1 rfl (Nat.le_of_ble_eq_true rfl) dX7_whole_1 hcl hsl (fun H locs hP hD hS => ?_)
  have hP : va_P K.1 vwCl (wd K C S2 o g) H := hP
  have hD : va_D (inA K) (wd K C S2 o g) := hD
  refine W.eq (g2 := F0 m 4 ls [.int r1]) rfl ?_
  refine lv_bipush (v := (45 : Int32)) hx hb dX7_whole_4 (by decide) ?_
  refine lv_icmp_ne (tgt := 13) hx hb dX7_whole_6 (by decide) (fun c3 => ?_) (fun c3 => ?_)
  · have h := gn_f h c3
    refine lv_iconst (v := (0 : Int32)) hx hb dX7_whole_13 (by decide) ?_
    exact w_X7_whole_14 Cc hK hF (0 : Int32) S2 _ _ hP hD hS h ls (lv_sub hl [0] rfl)
  · have h := gn_t h c3
    refine lv_iconst (v := (1 : Int32)) hx hb dX7_whole_9 (by decide) ?_
    refine lv_goto (tgt := 14) hx hb dX7_whole_10 (by decide) ?_
    exact w_X7_whole_14 Cc hK hF (1 : Int32) S2 _ _ hP hD hS h ls (lv_sub hl [0] rfl)
theorem in_X7_laysDivided_X7 : ∀ w ∈ wsX70, w ∈ wsX7_laysDivided := fun _ h => List.mem_cons_of_mem _ (List.mem_append_right _ h)
def rm_X7_laysDivided : Room := { frames := 3, cells := 0, slots := 0, locals := 76 }
section
variable {p : Program} {l : Launch} {e : Env} {s : State} {m : MethodId} {args : Array Value} {below : List Frame} {meth : Method} {c : Code} {z : Nat} {K : Ev} {C : CS} {o : Nat → Int64} {g : Gh}
set_option maxRecDepth 100000 in
theorem w_X7_laysDivided_73 (Cc : Cx p s m args meth c cX7_laysDivided 6 RX7 wsX7_laysDivided none) (hK : va_K K.1 vwCl (tysOf K) s) (hF : SF K s)  {S' : MS} : ∀ (x1 : Int64) (x3 : Int32) (x4 : Int64) (S : MS) (H : Heap) (locs : List Loc), va_P K.1 vwCl (wd K C S o g) H → va_D (inA K) (wd K C S o g) → va_S (inA K) s.heap H locs → G_X7_laysDivided_73 z x1 x3 x4 S = some S' → ∀ ls, lv_has ls 6 [(0, .ref (K.2.2.1 12)), (1, .long x1), (3, .int x3), (4, .long x4)] → W p l e rm_X7_laysDivided s m args below meth c H locs 0 0 (MQ below (qR K none C S' o g) args s 0 0 (inA K)) (F0 m 73 ls []) := by
  obtain ⟨hx, hb, hml, hown, hts, hr, hlk, hN⟩ := id Cc
  have hcl : 0 ≤ (rm_X7_laysDivided).cells := Nat.zero_le _
  have hsl : 0 ≤ (rm_X7_laysDivided).slots := Nat.zero_le _
  intro x1 x3 x4 S H locs hP hD hS h ls hl
  rw [G_X7_laysDivided_73] at h
  refine lv_aload_n hx hb dX7_laysDivided_73 rfl (lv_at hl 0 rfl) ?_
  refine lv_lload_n hx hb dX7_laysDivided_74 rfl (lv_at hl 1 rfl) ?_
  refine lv_lload hx hb dX7_laysDivided_75 (lv_at hl 3 rfl) ?_
  refine lv_lconst (v := (0 : Int64)) hx hb dX7_laysDivided_77 (by decide) ?_
  refine ll_ne (tgt := 86) hx hb dX7_laysDivided_78 dX7_laysDivided_79 (by decide) (fun c1 => ?_) (fun c1 => ?_)
  · have h := gn_f h c1
    refine lv_lload hx hb dX7_laysDivided_86 (lv_at hl 3 rfl) ?_
    obtain ⟨S2, qS2, h⟩ := gn_bd h
    refine hc_V (rest := []) ⟨hx, hb, hml, hown, hts⟩ hN hF hK hP hD hS (c_X7_lays l z K _ o g _ _ _  S2 qS2) (cwV 2 hts gX7_laysDivided_X7_lays rfl rfl rfl (by decide +kernel) ⟨(Nat.le_of_ble_eq_true rfl), (Nat.le_of_ble_eq_true rfl)⟩) (va_recv hK hP (ci := 6) (q0 := 12) rfl rfl) rfl hl.1 rfl (Nat.le_of_ble_eq_true rfl) dX7_laysDivided_88 hcl hsl (fun H locs hP hD hS => ?_)
    have hP : va_P K.1 vwCl (wd K C S2 o g) H := hP
    have hD : va_D (inA K) (wd K C S2 o g) := hD
    refine W.eq (g2 := F0 m 91 ls []) rfl ?_
    refine lv_aload_n hx hb dX7_laysDivided_91 rfl (lv_at hl 0 rfl) ?_
    refine lv_iload_n hx hb dX7_laysDivided_92 rfl (lv_at hl 2 rfl) ?_
    obtain ⟨S3, qS3, h⟩ := gn_bd h
    refine hc_V (rest := []) ⟨hx, hb, hml, hown, hts⟩ hN hF hK hP hD hS (c_X7_piles l z K _ o g _ _  S3 qS3) (cwV 1 hts gX7_laysDivided_X7_piles rfl rfl rfl (by decide +kernel) ⟨(Nat.le_of_ble_eq_true rfl), (Nat.le_of_ble_eq_true rfl)⟩) (va_recv hK hP (ci := 6) (q0 := 12) rfl rfl) rfl hl.1 rfl (Nat.le_of_ble_eq_true rfl) dX7_laysDivided_93 hcl hsl (fun H locs hP hD hS => ?_)
    have hP : va_P K.1 vwCl (wd K C S3 o g) H := hP
    have hD : va_D (inA K) (wd K C S3 o g) := hD
    refine W.eq (g2 := F0 m 96 ls []) rfl ?_
    obtain rfl := gn_some h
    exact W.vret hx hb hr (fun t ht _ => ⟨rfl, by rw [ht]; exact hP, hD, hS.F ht⟩) hS.2.2 dX7_laysDivided_96 hlk
  · have h := gn_t h c1
    refine lv_lconst (v := (1 : Int64)) hx hb dX7_laysDivided_82 (by decide) ?_
    refine lv_goto (tgt := 88) hx hb dX7_laysDivided_83 (by decide) ?_
    obtain ⟨S4, qS4, h⟩ := gn_bd h
    refine hc_V (rest := []) ⟨hx, hb, hml, hown, hts⟩ hN hF hK hP hD hS (c_X7_lays l z K _ o g _ _ _  S4 qS4) (cwV 2 hts gX7_laysDivided_X7_lays rfl rfl rfl (by decide +kernel) ⟨(Nat.le_of_ble_eq_true rfl), (Nat.le_of_ble_eq_true rfl)⟩) (va_recv hK hP (ci := 6) (q0 := 12) rfl rfl) rfl hl.1 rfl (Nat.le_of_ble_eq_true rfl) dX7_laysDivided_88 hcl hsl (fun H locs hP hD hS => ?_)
    have hP : va_P K.1 vwCl (wd K C S4 o g) H := hP
    have hD : va_D (inA K) (wd K C S4 o g) := hD
    refine W.eq (g2 := F0 m 91 ls []) rfl ?_
    refine lv_aload_n hx hb dX7_laysDivided_91 rfl (lv_at hl 0 rfl) ?_
    refine lv_iload_n hx hb dX7_laysDivided_92 rfl (lv_at hl 2 rfl) ?_
    obtain ⟨S5, qS5, h⟩ := gn_bd h
    refine hc_V (rest := []) ⟨hx, hb, hml, hown, hts⟩ hN hF hK hP hD hS (c_X7_piles l z K _ o g _ _  S5 qS5) (cwV 1 hts gX7_laysDivided_X7_piles rfl rfl rfl (by decide +kernel) ⟨(Nat.le_of_ble_eq_true rfl), (Nat.le_of_ble_eq_true rfl)⟩) (va_recv hK hP (ci := 6) (q0 := 12) rfl rfl) rfl hl.1 rfl (Nat.le_of_ble_eq_true rfl) dX7_laysDivided_93 hcl hsl (fun H locs hP hD hS => ?_)
    have hP : va_P K.1 vwCl (wd K C S5 o g) H := hP
    have hD : va_D (inA K) (wd K C S5 o g) := hD
    refine W.eq (g2 := F0 m 96 ls []) rfl ?_
    obtain rfl := gn_some h
    exact W.vret hx hb hr (fun t ht _ => ⟨rfl, by rw [ht]; exact hP, hD, hS.F ht⟩) hS.2.2 dX7_laysDivided_96 hlk
end
set_option maxRecDepth 100000 in
theorem c_X7_laysDivided (l : Launch) (z : Nat) (K : Ev) (C : CS) (o : Nat → Int64) (g : Gh)  (S : MS)  (S' : MS) (h : F_X7_laysDivided z S = some S') : Met l yX7_laysDivided wsX7_laysDivided rm_X7_laysDivided (qH K [.ref (K.2.2.1 12)] C S o g) (qR K none C S' o g) 0 0 (inA K) := by
  refine Met.ofW (cc := cX7_laysDivided) (maxL := 6) (ret := none) (by decide) rfl ?_
  intro p e s m args below meth c s₁ B hml hv
  obtain ⟨rfl, hN, hP, hK, hD, hF⟩ := hv
  have hx := B.exec
  have hb := B.bytes
  have hr := B.returns
  have hts := atoms_spec (ws := wsX7_laysDivided) B.pre
  have hown : s.vm.findClass RX7 = some m.cls := findClass_of_methodNamed B.named
  have hlk := B.notSynchronized
  have hcl : 0 ≤ (rm_X7_laysDivided).cells := Nat.zero_le _
  have hsl : 0 ≤ (rm_X7_laysDivided).slots := Nat.zero_le _
  have Cc : Cx p s m _ meth c cX7_laysDivided 6 RX7 wsX7_laysDivided none := ⟨hx, hb, hml, hown, hts, hr, hlk, hN⟩
  have hS : va_S (inA K) s.heap s.heap [] := va_S.rf
  have hl := lv_entry ([.ref (K.2.2.1 12)]) (n := 6) (Nat.le_of_ble_eq_true rfl)
  rw [lg_entry_eq]
  generalize (lg_sl ([.ref (K.2.2.1 12)]) ++ List.replicate (6 - (lg_sl ([.ref (K.2.2.1 12)])).length) Slot.unset).toArray = ls at hl ⊢
  have hl : lv_has ls 6 [(0, .ref (K.2.2.1 12))] := hl
  rw [F_X7_laysDivided] at h
  refine lv_aload_n hx hb dX7_laysDivided_0 rfl (lv_at hl 0 rfl) ?_
  obtain ⟨r1, S2, qS2, h⟩ := gn_bd2 h
  refine hc_V (rest := []) ⟨hx, hb, hml, hown, hts⟩ hN hF hK hP hD hS (c_X7_number l z K _ o g  _ r1 S2 qS2) (cwV 0 hts gX7_laysDivided_X7_number rfl rfl rfl (by decide +kernel) ⟨(Nat.le_of_ble_eq_true rfl), (Nat.le_of_ble_eq_true rfl)⟩) (va_recv hK hP (ci := 6) (q0 := 12) rfl rfl) rfl hl.1 rfl (Nat.le_of_ble_eq_true rfl) dX7_laysDivided_1 hcl hsl (fun H locs hP hD hS => ?_)
  have hP : va_P K.1 vwCl (wd K C S2 o g) H := hP
  have hD : va_D (inA K) (wd K C S2 o g) := hD
  refine W.eq (g2 := F0 m 4 ls [.long r1]) rfl ?_
  refine lv_lstore_n (lv' := [(1, .long r1), (0, .ref (K.2.2.1 12))]) hx hb dX7_laysDivided_4 rfl hl (by decide) rfl (fun ls hl => ?_)
  refine lv_aload_n hx hb dX7_laysDivided_5 rfl (lv_at hl 1 rfl) ?_
  obtain ⟨r3, S4, qS4, h⟩ := gn_bd2 h
  refine hc_V (rest := []) ⟨hx, hb, hml, hown, hts⟩ hN hF hK hP hD hS (c_X7_here l z K _ o g  _ r3 S4 qS4) (cwV 0 hts gX7_laysDivided_X7_here rfl rfl rfl (by decide +kernel) ⟨(Nat.le_of_ble_eq_true rfl), (Nat.le_of_ble_eq_true rfl)⟩) (va_recv hK hP (ci := 6) (q0 := 12) rfl rfl) rfl hl.1 rfl (Nat.le_of_ble_eq_true rfl) dX7_laysDivided_6 hcl hsl (fun H locs hP hD hS => ?_)
  have hP : va_P K.1 vwCl (wd K C S4 o g) H := hP
  have hD : va_D (inA K) (wd K C S4 o g) := hD
  refine W.eq (g2 := F0 m 9 ls [.int r3]) rfl ?_
  refine lv_bipush (v := (47 : Int32)) hx hb dX7_laysDivided_9 (by decide) ?_
  refine lv_icmp_eq (tgt := 29) hx hb dX7_laysDivided_11 (by decide) (fun c5 => ?_) (fun c5 => ?_)
  · have h := gn_t h c5
    refine lv_aload_n hx hb dX7_laysDivided_29 rfl (lv_at hl 1 rfl) ?_
    refine va_get (D := K.1) (ci := 6) (v := .int (mg_at S4)) (C := RX7) (T := TX7) (N := 24) hx hb hts in_X7_laysDivided_X7 hown hK hP 12 rfl rfl 11 (by decide) (hts (.fieldLink RX7 185 "SawSumsModel" "at" "I") (by decide +kernel)) (fun _ h9 => h9) rfl dX7_laysDivided_30 ?_
    obtain ⟨v6, ev6, h⟩ := gn_nm h
    refine ln_i ev6 ?_
    refine lv_istore_n (lv' := [(3, .int v6), (1, .long r1), (0, .ref (K.2.2.1 12))]) hx hb dX7_laysDivided_33 rfl hl (by decide) rfl (fun ls hl => ?_)
    refine lv_aload_n hx hb dX7_laysDivided_34 rfl (lv_at hl 2 rfl) ?_
    refine lv_dup hx hb dX7_laysDivided_35 rfl ?_
    refine va_get (D := K.1) (ci := 6) (v := .int (mg_at S4)) (C := RX7) (T := TX7) (N := 24) hx hb hts in_X7_laysDivided_X7 hown hK hP 12 rfl rfl 11 (by decide) (hts (.fieldLink RX7 185 "SawSumsModel" "at" "I") (by decide +kernel)) (fun _ h9 => h9) rfl dX7_laysDivided_36 ?_
    refine lv_iconst (v := (1 : Int32)) hx hb dX7_laysDivided_39 (by decide) ?_
    refine lv_iadd hx hb dX7_laysDivided_40 ?_
    obtain ⟨v7, ev7, h⟩ := gn_nm h
    refine ln_i ev7 ?_
    obtain ⟨S8, eS8, h⟩ := gn_nm h
    refine va_put (D := K.1) (ci := 6) (v := .int v7) (ty := .int) (C := RX7) (T := TX7) (N := 24) hx hb hts in_X7_laysDivided_X7 tyX7 tyX7_ok nmX7 hown hK hP hD hS 12 rfl rfl 11 (by decide) (hts (.fieldLink RX7 185 "SawSumsModel" "at" "I") (by decide +kernel)) (fun _ h9 => h9) rfl (by decide +kernel) rfl rfl (Nat.le_of_ble_eq_true rfl) dX7_laysDivided_41 (fun H locs hP hD hS => ?_)
    have hP : va_P K.1 vwCl (wd K C S8 o g) H := by rw [eS8]; exact hP
    have hD : va_D (inA K) (wd K C S8 o g) := by rw [eS8]; exact hD
    refine lv_aload_n hx hb dX7_laysDivided_44 rfl (lv_at hl 2 rfl) ?_
    obtain ⟨r9, S10, qS10, h⟩ := gn_bd2 h
    refine hc_V (rest := []) ⟨hx, hb, hml, hown, hts⟩ hN hF hK hP hD hS (c_X7_number l z K _ o g  _ r9 S10 qS10) (cwV 0 hts gX7_laysDivided_X7_number rfl rfl rfl (by decide +kernel) ⟨(Nat.le_of_ble_eq_true rfl), (Nat.le_of_ble_eq_true rfl)⟩) (va_recv hK hP (ci := 6) (q0 := 12) rfl rfl) rfl hl.1 rfl (Nat.le_of_ble_eq_true rfl) dX7_laysDivided_45 hcl hsl (fun H locs hP hD hS => ?_)
    have hP : va_P K.1 vwCl (wd K C S10 o g) H := hP
    have hD : va_D (inA K) (wd K C S10 o g) := hD
    refine W.eq (g2 := F0 m 48 ls [.long r9]) rfl ?_
    refine lv_lstore (lv' := [(4, .long r9), (3, .int v6), (1, .long r1), (0, .ref (K.2.2.1 12))]) hx hb dX7_laysDivided_48 hl (by decide) rfl (fun ls hl => ?_)
    refine lv_aload_n hx hb dX7_laysDivided_50 rfl (lv_at hl 3 rfl) ?_
    refine va_get (D := K.1) (ci := 6) (v := .int (mg_fault S10)) (C := RX7) (T := TX7) (N := 24) hx hb hts in_X7_laysDivided_X7 hown hK hP 12 rfl rfl 13 (by decide) (hts (.fieldLink RX7 191 "SawSumsModel" "fault" "I") (by decide +kernel)) (fun _ h9 => h9) rfl dX7_laysDivided_51 ?_
    refine lv_if_ne (tgt := 73) hx hb dX7_laysDivided_54 (by decide) (fun c11 => ?_) (fun c11 => ?_)
    · have h := gn_f h c11
      exact w_X7_laysDivided_73 Cc hK hF r1 v6 r9 S10 _ _ hP hD hS h ls (lv_sub hl [3, 2, 1, 0] rfl)
    · have h := gn_t h c11
      refine lv_lload hx hb dX7_laysDivided_57 (lv_at hl 0 rfl) ?_
      refine lv_lconst (v := (0 : Int64)) hx hb dX7_laysDivided_59 (by decide) ?_
      refine ll_ne (tgt := 73) hx hb dX7_laysDivided_60 dX7_laysDivided_61 (by decide) (fun c12 => ?_) (fun c12 => ?_)
      · have h := gn_f h c12
        exact w_X7_laysDivided_73 Cc hK hF r1 v6 r9 S10 _ _ hP hD hS h ls (lv_sub hl [3, 2, 1, 0] rfl)
      · have h := gn_t h c12
        refine lv_aload_n hx hb dX7_laysDivided_64 rfl (lv_at hl 3 rfl) ?_
        refine lv_iconst (v := (2 : Int32)) hx hb dX7_laysDivided_65 (by decide) ?_
        refine lv_aload_n hx hb dX7_laysDivided_66 rfl (lv_at hl 3 rfl) ?_
        refine va_get (D := K.1) (ci := 6) (v := .int (mg_from S10)) (C := RX7) (T := TX7) (N := 24) hx hb hts in_X7_laysDivided_X7 hown hK hP 12 rfl rfl 12 (by decide) (hts (.fieldLink RX7 204 "SawSumsModel" "from" "I") (by decide +kernel)) (fun _ h9 => h9) rfl dX7_laysDivided_67 ?_
        obtain ⟨S13, qS13, h⟩ := gn_bd h
        refine hc_V (rest := []) ⟨hx, hb, hml, hown, hts⟩ hN hF hK hP hD hS (c_X7_fails l z K _ o g _ _ _  S13 qS13) (cwV 2 hts gX7_laysDivided_X7_fails rfl rfl rfl (by decide +kernel) ⟨(Nat.le_of_ble_eq_true rfl), (Nat.le_of_ble_eq_true rfl)⟩) (va_recv hK hP (ci := 6) (q0 := 12) rfl rfl) rfl hl.1 rfl (Nat.le_of_ble_eq_true rfl) dX7_laysDivided_70 hcl hsl (fun H locs hP hD hS => ?_)
        have hP : va_P K.1 vwCl (wd K C S13 o g) H := hP
        have hD : va_D (inA K) (wd K C S13 o g) := hD
        refine W.eq (g2 := F0 m 73 ls []) rfl ?_
        exact w_X7_laysDivided_73 Cc hK hF r1 v6 r9 S13 _ _ hP hD hS h ls (lv_sub hl [3, 2, 1, 0] rfl)
  · have h := gn_f h c5
    refine lv_aload_n hx hb dX7_laysDivided_14 rfl (lv_at hl 1 rfl) ?_
    refine lv_lload_n hx hb dX7_laysDivided_15 rfl (lv_at hl 0 rfl) ?_
    refine lv_lconst (v := (1 : Int64)) hx hb dX7_laysDivided_16 (by decide) ?_
    obtain ⟨S14, qS14, h⟩ := gn_bd h
    refine hc_V (rest := []) ⟨hx, hb, hml, hown, hts⟩ hN hF hK hP hD hS (c_X7_lays l z K _ o g _ _ _  S14 qS14) (cwV 2 hts gX7_laysDivided_X7_lays rfl rfl rfl (by decide +kernel) ⟨(Nat.le_of_ble_eq_true rfl), (Nat.le_of_ble_eq_true rfl)⟩) (va_recv hK hP (ci := 6) (q0 := 12) rfl rfl) rfl hl.1 rfl (Nat.le_of_ble_eq_true rfl) dX7_laysDivided_17 hcl hsl (fun H locs hP hD hS => ?_)
    have hP : va_P K.1 vwCl (wd K C S14 o g) H := hP
    have hD : va_D (inA K) (wd K C S14 o g) := hD
    refine W.eq (g2 := F0 m 20 ls []) rfl ?_
    refine lv_aload_n hx hb dX7_laysDivided_20 rfl (lv_at hl 1 rfl) ?_
    refine lv_aload_n hx hb dX7_laysDivided_21 rfl (lv_at hl 1 rfl) ?_
    refine va_get (D := K.1) (ci := 6) (v := .int (mg_from S14)) (C := RX7) (T := TX7) (N := 24) hx hb hts in_X7_laysDivided_X7 hown hK hP 12 rfl rfl 12 (by decide) (hts (.fieldLink RX7 204 "SawSumsModel" "from" "I") (by decide +kernel)) (fun _ h9 => h9) rfl dX7_laysDivided_22 ?_
    obtain ⟨S15, qS15, h⟩ := gn_bd h
    refine hc_V (rest := []) ⟨hx, hb, hml, hown, hts⟩ hN hF hK hP hD hS (c_X7_piles l z K _ o g _ _  S15 qS15) (cwV 1 hts gX7_laysDivided_X7_piles rfl rfl rfl (by decide +kernel) ⟨(Nat.le_of_ble_eq_true rfl), (Nat.le_of_ble_eq_true rfl)⟩) (va_recv hK hP (ci := 6) (q0 := 12) rfl rfl) rfl hl.1 rfl (Nat.le_of_ble_eq_true rfl) dX7_laysDivided_25 hcl hsl (fun H locs hP hD hS => ?_)
    have hP : va_P K.1 vwCl (wd K C S15 o g) H := hP
    have hD : va_D (inA K) (wd K C S15 o g) := hD
    refine W.eq (g2 := F0 m 28 ls []) rfl ?_
    obtain rfl := gn_some h
    exact W.vret hx hb hr (fun t ht _ => ⟨rfl, by rw [ht]; exact hP, hD, hS.F ht⟩) hS.2.2 dX7_laysDivided_28 hlk
theorem in_X7_joins_X7 : ∀ w ∈ wsX70, w ∈ wsX7_joins := fun _ h => List.mem_cons_of_mem _ (List.mem_append_right _ h)
def rm_X7_joins : Room := { frames := 3, cells := 0, slots := 0, locals := 76 }
section
variable {p : Program} {l : Launch} {e : Env} {s : State} {m : MethodId} {args : Array Value} {below : List Frame} {meth : Method} {c : Code} {z : Nat} {K : Ev} {C : CS} {o : Nat → Int64} {g : Gh}
end
set_option maxRecDepth 100000 in
theorem c_X7_joins (l : Launch) (z : Nat) (K : Ev) (C : CS) (o : Nat → Int64) (g : Gh) (a0 : Int32) (a1 : Int32) (S : MS)  (S' : MS) (h : F_X7_joins z a0 a1 S = some S') : Met l yX7_joins wsX7_joins rm_X7_joins (qH K [.ref (K.2.2.1 12), .int a0, .int a1] C S o g) (qR K none C S' o g) 0 0 (inA K) := by
  refine Met.ofW (cc := cX7_joins) (maxL := 11) (ret := none) (by decide) rfl ?_
  intro p e s m args below meth c s₁ B hml hv
  obtain ⟨rfl, hN, hP, hK, hD, hF⟩ := hv
  have hx := B.exec
  have hb := B.bytes
  have hr := B.returns
  have hts := atoms_spec (ws := wsX7_joins) B.pre
  have hown : s.vm.findClass RX7 = some m.cls := findClass_of_methodNamed B.named
  have hlk := B.notSynchronized
  have hcl : 0 ≤ (rm_X7_joins).cells := Nat.zero_le _
  have hsl : 0 ≤ (rm_X7_joins).slots := Nat.zero_le _
  have Cc : Cx p s m _ meth c cX7_joins 11 RX7 wsX7_joins none := ⟨hx, hb, hml, hown, hts, hr, hlk, hN⟩
  have hS : va_S (inA K) s.heap s.heap [] := va_S.rf
  have hl := lv_entry ([.ref (K.2.2.1 12), .int a0, .int a1]) (n := 11) (Nat.le_of_ble_eq_true rfl)
  rw [lg_entry_eq]
  generalize (lg_sl ([.ref (K.2.2.1 12), .int a0, .int a1]) ++ List.replicate (11 - (lg_sl ([.ref (K.2.2.1 12), .int a0, .int a1])).length) Slot.unset).toArray = ls at hl ⊢
  have hl : lv_has ls 11 [(0, .ref (K.2.2.1 12)), (1, .int a0), (2, .int a1)] := hl
  rw [F_X7_joins] at h
  refine lv_aload_n hx hb dX7_joins_0 rfl (lv_at hl 0 rfl) ?_
  refine va_get (D := K.1) (ci := 6) (v := .int (mg_fault S)) (C := RX7) (T := TX7) (N := 24) hx hb hts in_X7_joins_X7 hown hK hP 12 rfl rfl 13 (by decide) (hts (.fieldLink RX7 191 "SawSumsModel" "fault" "I") (by decide +kernel)) (fun _ h9 => h9) rfl dX7_joins_1 ?_
  refine lv_if_eq (tgt := 8) hx hb dX7_joins_4 (by decide) (fun c1 => ?_) (fun c1 => ?_)
  · have h := gn_t h c1
    refine lv_aload_n hx hb dX7_joins_8 rfl (lv_at hl 0 rfl) ?_
    refine lv_dup hx hb dX7_joins_9 rfl ?_
    refine va_get (D := K.1) (ci := 6) (v := .int (mg_piled S)) (C := RX7) (T := TX7) (N := 24) hx hb hts in_X7_joins_X7 hown hK hP 12 rfl rfl 19 (by decide) (hts (.fieldLink RX7 197 "SawSumsModel" "piled" "I") (by decide +kernel)) (fun _ h9 => h9) rfl dX7_joins_10 ?_
    refine lv_iconst (v := (2 : Int32)) hx hb dX7_joins_13 (by decide) ?_
    refine lv_isub hx hb dX7_joins_14 ?_
    obtain ⟨v2, ev2, h⟩ := gn_nm h
    refine ln_i ev2 ?_
    obtain ⟨S3, eS3, h⟩ := gn_nm h
    refine va_put (D := K.1) (ci := 6) (v := .int v2) (ty := .int) (C := RX7) (T := TX7) (N := 24) hx hb hts in_X7_joins_X7 tyX7 tyX7_ok nmX7 hown hK hP hD hS 12 rfl rfl 19 (by decide) (hts (.fieldLink RX7 197 "SawSumsModel" "piled" "I") (by decide +kernel)) (fun _ h9 => h9) rfl (by decide +kernel) rfl rfl (Nat.le_of_ble_eq_true rfl) dX7_joins_15 (fun H locs hP hD hS => ?_)
    have hP : va_P K.1 vwCl (wd K C S3 o g) H := by rw [eS3]; exact hP
    have hD : va_D (inA K) (wd K C S3 o g) := by rw [eS3]; exact hD
    refine lv_aload_n hx hb dX7_joins_18 rfl (lv_at hl 0 rfl) ?_
    refine va_get (D := K.1) (ci := 6) (v := .ref (K.2.2.1 15)) (C := RX7) (T := TX7) (N := 24) hx hb hts in_X7_joins_X7 hown hK hP 12 rfl rfl 20 (by decide) (hts (.fieldLink RX7 17 "SawSumsModel" "tops" "[J") (by decide +kernel)) (fun _ h9 => h9) rfl dX7_joins_19 ?_
    refine lv_aload_n hx hb dX7_joins_22 rfl (lv_at hl 0 rfl) ?_
    refine va_get (D := K.1) (ci := 6) (v := .int (mg_piled S3)) (C := RX7) (T := TX7) (N := 24) hx hb hts in_X7_joins_X7 hown hK hP 12 rfl rfl 19 (by decide) (hts (.fieldLink RX7 197 "SawSumsModel" "piled" "I") (by decide +kernel)) (fun _ h9 => h9) rfl dX7_joins_23 ?_
    obtain ⟨n4, h⟩ := gn_yz h
    refine va_lald hx hb hK hP 15 0 rfl rfl (ib_in n4) dX7_joins_26 ?_
    obtain ⟨v5, ev5, h⟩ := gn_nm h
    refine ln_l ev5 ?_
    refine lv_lstore_n (lv' := [(3, .long v5), (0, .ref (K.2.2.1 12)), (1, .int a0), (2, .int a1)]) hx hb dX7_joins_27 rfl hl (by decide) rfl (fun ls hl => ?_)
    refine lv_aload_n hx hb dX7_joins_28 rfl (lv_at hl 1 rfl) ?_
    refine va_get (D := K.1) (ci := 6) (v := .ref (K.2.2.1 16)) (C := RX7) (T := TX7) (N := 24) hx hb hts in_X7_joins_X7 hown hK hP 12 rfl rfl 21 (by decide) (hts (.fieldLink RX7 20 "SawSumsModel" "bottoms" "[J") (by decide +kernel)) (fun _ h9 => h9) rfl dX7_joins_29 ?_
    refine lv_aload_n hx hb dX7_joins_32 rfl (lv_at hl 1 rfl) ?_
    refine va_get (D := K.1) (ci := 6) (v := .int (mg_piled S3)) (C := RX7) (T := TX7) (N := 24) hx hb hts in_X7_joins_X7 hown hK hP 12 rfl rfl 19 (by decide) (hts (.fieldLink RX7 197 "SawSumsModel" "piled" "I") (by decide +kernel)) (fun _ h9 => h9) rfl dX7_joins_33 ?_
    obtain ⟨n6, h⟩ := gn_yz h
    refine va_lald hx hb hK hP 16 0 rfl rfl (ib_in n6) dX7_joins_36 ?_
    obtain ⟨v7, ev7, h⟩ := gn_nm h
    refine ln_l ev7 ?_
    refine lv_lstore (lv' := [(5, .long v7), (3, .long v5), (0, .ref (K.2.2.1 12)), (1, .int a0), (2, .int a1)]) hx hb dX7_joins_37 hl (by decide) rfl (fun ls hl => ?_)
    refine lv_aload_n hx hb dX7_joins_39 rfl (lv_at hl 2 rfl) ?_
    refine va_get (D := K.1) (ci := 6) (v := .ref (K.2.2.1 15)) (C := RX7) (T := TX7) (N := 24) hx hb hts in_X7_joins_X7 hown hK hP 12 rfl rfl 20 (by decide) (hts (.fieldLink RX7 17 "SawSumsModel" "tops" "[J") (by decide +kernel)) (fun _ h9 => h9) rfl dX7_joins_40 ?_
    refine lv_aload_n hx hb dX7_joins_43 rfl (lv_at hl 2 rfl) ?_
    refine va_get (D := K.1) (ci := 6) (v := .int (mg_piled S3)) (C := RX7) (T := TX7) (N := 24) hx hb hts in_X7_joins_X7 hown hK hP 12 rfl rfl 19 (by decide) (hts (.fieldLink RX7 197 "SawSumsModel" "piled" "I") (by decide +kernel)) (fun _ h9 => h9) rfl dX7_joins_44 ?_
    refine lv_iconst (v := (1 : Int32)) hx hb dX7_joins_47 (by decide) ?_
    refine lv_iadd hx hb dX7_joins_48 ?_
    obtain ⟨n8, h⟩ := gn_yz h
    refine va_lald hx hb hK hP 15 0 rfl rfl (ib_in n8) dX7_joins_49 ?_
    obtain ⟨v9, ev9, h⟩ := gn_nm h
    refine ln_l ev9 ?_
    refine lv_lstore (lv' := [(7, .long v9), (5, .long v7), (3, .long v5), (0, .ref (K.2.2.1 12)), (1, .int a0), (2, .int a1)]) hx hb dX7_joins_50 hl (by decide) rfl (fun ls hl => ?_)
    refine lv_aload_n hx hb dX7_joins_52 rfl (lv_at hl 3 rfl) ?_
    refine va_get (D := K.1) (ci := 6) (v := .ref (K.2.2.1 16)) (C := RX7) (T := TX7) (N := 24) hx hb hts in_X7_joins_X7 hown hK hP 12 rfl rfl 21 (by decide) (hts (.fieldLink RX7 20 "SawSumsModel" "bottoms" "[J") (by decide +kernel)) (fun _ h9 => h9) rfl dX7_joins_53 ?_
    refine lv_aload_n hx hb dX7_joins_56 rfl (lv_at hl 3 rfl) ?_
    refine va_get (D := K.1) (ci := 6) (v := .int (mg_piled S3)) (C := RX7) (T := TX7) (N := 24) hx hb hts in_X7_joins_X7 hown hK hP 12 rfl rfl 19 (by decide) (hts (.fieldLink RX7 197 "SawSumsModel" "piled" "I") (by decide +kernel)) (fun _ h9 => h9) rfl dX7_joins_57 ?_
    refine lv_iconst (v := (1 : Int32)) hx hb dX7_joins_60 (by decide) ?_
    refine lv_iadd hx hb dX7_joins_61 ?_
    obtain ⟨n10, h⟩ := gn_yz h
    refine va_lald hx hb hK hP 16 0 rfl rfl (ib_in n10) dX7_joins_62 ?_
    obtain ⟨v11, ev11, h⟩ := gn_nm h
    refine ln_l ev11 ?_
    refine lv_lstore (lv' := [(9, .long v11), (7, .long v9), (5, .long v7), (3, .long v5), (0, .ref (K.2.2.1 12)), (1, .int a0), (2, .int a1)]) hx hb dX7_joins_63 hl (by decide) rfl (fun ls hl => ?_)
    refine lv_iload_n hx hb dX7_joins_65 rfl (lv_at hl 5 rfl) ?_
    refine lv_bipush (v := (42 : Int32)) hx hb dX7_joins_66 (by decide) ?_
    refine lv_icmp_ne (tgt := 87) hx hb dX7_joins_68 (by decide) (fun c12 => ?_) (fun c12 => ?_)
    · have h := gn_f h c12
      refine lv_aload_n hx hb dX7_joins_87 rfl (lv_at hl 4 rfl) ?_
      refine lv_iload_n hx hb dX7_joins_88 rfl (lv_at hl 5 rfl) ?_
      refine lv_bipush (v := (43 : Int32)) hx hb dX7_joins_89 (by decide) ?_
      refine lv_icmp_ne (tgt := 107) hx hb dX7_joins_91 (by decide) (fun c13 => ?_) (fun c13 => ?_)
      · have h := gn_f h c13
        refine lv_lload_n hx hb dX7_joins_107 rfl (lv_at hl 3 rfl) ?_
        refine lv_lload hx hb dX7_joins_108 (lv_at hl 0 rfl) ?_
        refine lv_lmul hx hb dX7_joins_110 ?_
        refine lv_lload hx hb dX7_joins_111 (lv_at hl 1 rfl) ?_
        refine lv_lload hx hb dX7_joins_113 (lv_at hl 2 rfl) ?_
        refine lv_lmul hx hb dX7_joins_115 ?_
        refine lv_lsub hx hb dX7_joins_116 ?_
        refine lv_lload hx hb dX7_joins_117 (lv_at hl 2 rfl) ?_
        refine lv_lload hx hb dX7_joins_119 (lv_at hl 0 rfl) ?_
        refine lv_lmul hx hb dX7_joins_121 ?_
        obtain ⟨S14, qS14, h⟩ := gn_bd h
        refine hc_V (rest := []) ⟨hx, hb, hml, hown, hts⟩ hN hF hK hP hD hS (c_X7_lays l z K _ o g _ _ _  S14 qS14) (cwV 2 hts gX7_joins_X7_lays rfl rfl rfl (by decide +kernel) ⟨(Nat.le_of_ble_eq_true rfl), (Nat.le_of_ble_eq_true rfl)⟩) (va_recv hK hP (ci := 6) (q0 := 12) rfl rfl) rfl hl.1 rfl (Nat.le_of_ble_eq_true rfl) dX7_joins_122 hcl hsl (fun H locs hP hD hS => ?_)
        have hP : va_P K.1 vwCl (wd K C S14 o g) H := hP
        have hD : va_D (inA K) (wd K C S14 o g) := hD
        refine W.eq (g2 := F0 m 125 ls []) rfl ?_
        refine lv_aload_n hx hb dX7_joins_125 rfl (lv_at hl 4 rfl) ?_
        refine lv_iload_n hx hb dX7_joins_126 rfl (lv_at hl 6 rfl) ?_
        obtain ⟨S15, qS15, h⟩ := gn_bd h
        refine hc_V (rest := []) ⟨hx, hb, hml, hown, hts⟩ hN hF hK hP hD hS (c_X7_piles l z K _ o g _ _  S15 qS15) (cwV 1 hts gX7_joins_X7_piles rfl rfl rfl (by decide +kernel) ⟨(Nat.le_of_ble_eq_true rfl), (Nat.le_of_ble_eq_true rfl)⟩) (va_recv hK hP (ci := 6) (q0 := 12) rfl rfl) rfl hl.1 rfl (Nat.le_of_ble_eq_true rfl) dX7_joins_127 hcl hsl (fun H locs hP hD hS => ?_)
        have hP : va_P K.1 vwCl (wd K C S15 o g) H := hP
        have hD : va_D (inA K) (wd K C S15 o g) := hD
        refine W.eq (g2 := F0 m 130 ls []) rfl ?_
        obtain rfl := gn_some h
        exact W.vret hx hb hr (fun t ht _ => ⟨rfl, by rw [ht]; exact hP, hD, hS.F ht⟩) hS.2.2 dX7_joins_130 hlk
      · have h := gn_t h c13
        refine lv_lload_n hx hb dX7_joins_94 rfl (lv_at hl 3 rfl) ?_
        refine lv_lload hx hb dX7_joins_95 (lv_at hl 0 rfl) ?_
        refine lv_lmul hx hb dX7_joins_97 ?_
        refine lv_lload hx hb dX7_joins_98 (lv_at hl 1 rfl) ?_
        refine lv_lload hx hb dX7_joins_100 (lv_at hl 2 rfl) ?_
        refine lv_lmul hx hb dX7_joins_102 ?_
        refine lv_ladd hx hb dX7_joins_103 ?_
        refine lv_goto (tgt := 117) hx hb dX7_joins_104 (by decide) ?_
        refine lv_lload hx hb dX7_joins_117 (lv_at hl 2 rfl) ?_
        refine lv_lload hx hb dX7_joins_119 (lv_at hl 0 rfl) ?_
        refine lv_lmul hx hb dX7_joins_121 ?_
        obtain ⟨S16, qS16, h⟩ := gn_bd h
        refine hc_V (rest := []) ⟨hx, hb, hml, hown, hts⟩ hN hF hK hP hD hS (c_X7_lays l z K _ o g _ _ _  S16 qS16) (cwV 2 hts gX7_joins_X7_lays rfl rfl rfl (by decide +kernel) ⟨(Nat.le_of_ble_eq_true rfl), (Nat.le_of_ble_eq_true rfl)⟩) (va_recv hK hP (ci := 6) (q0 := 12) rfl rfl) rfl hl.1 rfl (Nat.le_of_ble_eq_true rfl) dX7_joins_122 hcl hsl (fun H locs hP hD hS => ?_)
        have hP : va_P K.1 vwCl (wd K C S16 o g) H := hP
        have hD : va_D (inA K) (wd K C S16 o g) := hD
        refine W.eq (g2 := F0 m 125 ls []) rfl ?_
        refine lv_aload_n hx hb dX7_joins_125 rfl (lv_at hl 4 rfl) ?_
        refine lv_iload_n hx hb dX7_joins_126 rfl (lv_at hl 6 rfl) ?_
        obtain ⟨S17, qS17, h⟩ := gn_bd h
        refine hc_V (rest := []) ⟨hx, hb, hml, hown, hts⟩ hN hF hK hP hD hS (c_X7_piles l z K _ o g _ _  S17 qS17) (cwV 1 hts gX7_joins_X7_piles rfl rfl rfl (by decide +kernel) ⟨(Nat.le_of_ble_eq_true rfl), (Nat.le_of_ble_eq_true rfl)⟩) (va_recv hK hP (ci := 6) (q0 := 12) rfl rfl) rfl hl.1 rfl (Nat.le_of_ble_eq_true rfl) dX7_joins_127 hcl hsl (fun H locs hP hD hS => ?_)
        have hP : va_P K.1 vwCl (wd K C S17 o g) H := hP
        have hD : va_D (inA K) (wd K C S17 o g) := hD
        refine W.eq (g2 := F0 m 130 ls []) rfl ?_
        obtain rfl := gn_some h
        exact W.vret hx hb hr (fun t ht _ => ⟨rfl, by rw [ht]; exact hP, hD, hS.F ht⟩) hS.2.2 dX7_joins_130 hlk
    · have h := gn_t h c12
      refine lv_aload_n hx hb dX7_joins_71 rfl (lv_at hl 4 rfl) ?_
      refine lv_lload_n hx hb dX7_joins_72 rfl (lv_at hl 3 rfl) ?_
      refine lv_lload hx hb dX7_joins_73 (lv_at hl 1 rfl) ?_
      refine lv_lmul hx hb dX7_joins_75 ?_
      refine lv_lload hx hb dX7_joins_76 (lv_at hl 2 rfl) ?_
      refine lv_lload hx hb dX7_joins_78 (lv_at hl 0 rfl) ?_
      refine lv_lmul hx hb dX7_joins_80 ?_
      obtain ⟨S18, qS18, h⟩ := gn_bd h
      refine hc_V (rest := []) ⟨hx, hb, hml, hown, hts⟩ hN hF hK hP hD hS (c_X7_lays l z K _ o g _ _ _  S18 qS18) (cwV 2 hts gX7_joins_X7_lays rfl rfl rfl (by decide +kernel) ⟨(Nat.le_of_ble_eq_true rfl), (Nat.le_of_ble_eq_true rfl)⟩) (va_recv hK hP (ci := 6) (q0 := 12) rfl rfl) rfl hl.1 rfl (Nat.le_of_ble_eq_true rfl) dX7_joins_81 hcl hsl (fun H locs hP hD hS => ?_)
      have hP : va_P K.1 vwCl (wd K C S18 o g) H := hP
      have hD : va_D (inA K) (wd K C S18 o g) := hD
      refine W.eq (g2 := F0 m 84 ls []) rfl ?_
      refine lv_goto (tgt := 125) hx hb dX7_joins_84 (by decide) ?_
      refine lv_aload_n hx hb dX7_joins_125 rfl (lv_at hl 4 rfl) ?_
      refine lv_iload_n hx hb dX7_joins_126 rfl (lv_at hl 6 rfl) ?_
      obtain ⟨S19, qS19, h⟩ := gn_bd h
      refine hc_V (rest := []) ⟨hx, hb, hml, hown, hts⟩ hN hF hK hP hD hS (c_X7_piles l z K _ o g _ _  S19 qS19) (cwV 1 hts gX7_joins_X7_piles rfl rfl rfl (by decide +kernel) ⟨(Nat.le_of_ble_eq_true rfl), (Nat.le_of_ble_eq_true rfl)⟩) (va_recv hK hP (ci := 6) (q0 := 12) rfl rfl) rfl hl.1 rfl (Nat.le_of_ble_eq_true rfl) dX7_joins_127 hcl hsl (fun H locs hP hD hS => ?_)
      have hP : va_P K.1 vwCl (wd K C S19 o g) H := hP
      have hD : va_D (inA K) (wd K C S19 o g) := hD
      refine W.eq (g2 := F0 m 130 ls []) rfl ?_
      obtain rfl := gn_some h
      exact W.vret hx hb hr (fun t ht _ => ⟨rfl, by rw [ht]; exact hP, hD, hS.F ht⟩) hS.2.2 dX7_joins_130 hlk
  · have h := gn_f h c1
    obtain rfl := gn_some h
    exact W.vret hx hb hr (fun t ht _ => ⟨rfl, by rw [ht]; exact hP, hD, hS.F ht⟩) hS.2.2 dX7_joins_7 hlk
theorem in_X7_told_X7 : ∀ w ∈ wsX70, w ∈ wsX7_told := fun _ h => List.mem_cons_of_mem _ (List.mem_append_right _ h)
def rm_X7_told : Room := { frames := 0, cells := 0, slots := 0, locals := 0 }
section
variable {p : Program} {l : Launch} {e : Env} {s : State} {m : MethodId} {args : Array Value} {below : List Frame} {meth : Method} {c : Code} {z : Nat} {K : Ev} {C : CS} {o : Nat → Int64} {g : Gh}
end
set_option maxRecDepth 100000 in
theorem c_X7_told (l : Launch) (z : Nat) (K : Ev) (C : CS) (o : Nat → Int64) (g : Gh) (a0 : Int32) (S : MS) (r : Int64) (S' : MS) (h : F_X7_told z a0 S = some (r, S')) : Met l yX7_told wsX7_told rm_X7_told (qH K [.ref (K.2.2.1 12), .int a0] C S o g) (qR K (some (.long r)) C S' o g) 0 0 (inA K) := by
  refine Met.ofW (cc := cX7_told) (maxL := 2) (ret := (some .long)) (by decide) rfl ?_
  intro p e s m args below meth c s₁ B hml hv
  obtain ⟨rfl, hN, hP, hK, hD, hF⟩ := hv
  have hx := B.exec
  have hb := B.bytes
  have hr := B.returns
  have hts := atoms_spec (ws := wsX7_told) B.pre
  have hown : s.vm.findClass RX7 = some m.cls := findClass_of_methodNamed B.named
  have hlk := B.notSynchronized
  have hcl : 0 ≤ (rm_X7_told).cells := Nat.zero_le _
  have hsl : 0 ≤ (rm_X7_told).slots := Nat.zero_le _
  have Cc : Cx p s m _ meth c cX7_told 2 RX7 wsX7_told (some .long) := ⟨hx, hb, hml, hown, hts, hr, hlk, hN⟩
  have hS : va_S (inA K) s.heap s.heap [] := va_S.rf
  have hl := lv_entry ([.ref (K.2.2.1 12), .int a0]) (n := 2) (Nat.le_of_ble_eq_true rfl)
  rw [lg_entry_eq]
  generalize (lg_sl ([.ref (K.2.2.1 12), .int a0]) ++ List.replicate (2 - (lg_sl ([.ref (K.2.2.1 12), .int a0])).length) Slot.unset).toArray = ls at hl ⊢
  have hl : lv_has ls 2 [(0, .ref (K.2.2.1 12)), (1, .int a0)] := hl
  rw [F_X7_told] at h
  refine lv_aload_n hx hb dX7_told_0 rfl (lv_at hl 0 rfl) ?_
  refine lv_iconst (v := (0 : Int32)) hx hb dX7_told_1 (by decide) ?_
  obtain ⟨S1, eS1, h⟩ := gn_nm h
  refine va_put (D := K.1) (ci := 6) (v := .int (0 : Int32)) (ty := .int) (C := RX7) (T := TX7) (N := 24) hx hb hts in_X7_told_X7 tyX7 tyX7_ok nmX7 hown hK hP hD hS 12 rfl rfl 0 (by decide) (hts (.fieldLink RX7 33 "SawSumsModel" "thrown" "I") (by decide +kernel)) (fun _ h9 => h9) rfl (by decide +kernel) rfl rfl (Nat.le_of_ble_eq_true rfl) dX7_told_2 (fun H locs hP hD hS => ?_)
  have hP : va_P K.1 vwCl (wd K C S1 o g) H := by rw [eS1]; exact hP
  have hD : va_D (inA K) (wd K C S1 o g) := by rw [eS1]; exact hD
  refine lv_iload_n hx hb dX7_told_5 rfl (lv_at hl 1 rfl) ?_
  refine lv_if_eq (tgt := 16) hx hb dX7_told_6 (by decide) (fun c2 => ?_) (fun c2 => ?_)
  · have h := gn_t h c2
    refine lv_aload_n hx hb dX7_told_16 rfl (lv_at hl 0 rfl) ?_
    refine va_get (D := K.1) (ci := 6) (v := .long (mg_toldUp S1)) (C := RX7) (T := TX7) (N := 24) hx hb hts in_X7_told_X7 hown hK hP 12 rfl rfl 22 (by decide) (hts (.fieldLink RX7 268 "SawSumsModel" "toldUp" "J") (by decide +kernel)) (fun _ h9 => h9) rfl dX7_told_17 ?_
    obtain ⟨rfl, rfl⟩ := Prod.mk.inj (gn_some h)
    exact W.lret hx hb hr (fun t ht _ => ⟨rfl, by rw [ht]; exact hP, hD, hS.F ht⟩) hS.2.2 dX7_told_20 hlk
  · have h := gn_f h c2
    refine lv_aload_n hx hb dX7_told_9 rfl (lv_at hl 0 rfl) ?_
    refine va_get (D := K.1) (ci := 6) (v := .long (mg_toldUnder S1)) (C := RX7) (T := TX7) (N := 24) hx hb hts in_X7_told_X7 hown hK hP 12 rfl rfl 23 (by decide) (hts (.fieldLink RX7 30 "SawSumsModel" "toldUnder" "J") (by decide +kernel)) (fun _ h9 => h9) rfl dX7_told_10 ?_
    refine lv_goto (tgt := 20) hx hb dX7_told_13 (by decide) ?_
    obtain ⟨rfl, rfl⟩ := Prod.mk.inj (gn_some h)
    exact W.lret hx hb hr (fun t ht _ => ⟨rfl, by rw [ht]; exact hP, hD, hS.F ht⟩) hS.2.2 dX7_told_20 hlk
theorem in_X7_count_X7 : ∀ w ∈ wsX70, w ∈ wsX7_count := fun _ h => List.mem_cons_of_mem _ (List.mem_append_right _ h)
def rm_X7_count : Room := { frames := 0, cells := 0, slots := 0, locals := 0 }
section
variable {p : Program} {l : Launch} {e : Env} {s : State} {m : MethodId} {args : Array Value} {below : List Frame} {meth : Method} {c : Code} {z : Nat} {K : Ev} {C : CS} {o : Nat → Int64} {g : Gh}
end
set_option maxRecDepth 100000 in
theorem c_X7_count (l : Launch) (z : Nat) (K : Ev) (C : CS) (o : Nat → Int64) (g : Gh) (a0 : Int32) (S : MS) (r : Int32) (S' : MS) (h : F_X7_count z a0 S = some (r, S')) : Met l yX7_count wsX7_count rm_X7_count (qH K [.ref (K.2.2.1 12), .int a0] C S o g) (qR K (some (.int r)) C S' o g) 0 0 (inA K) := by
  refine Met.ofW (cc := cX7_count) (maxL := 2) (ret := (some .int)) (by decide) rfl ?_
  intro p e s m args below meth c s₁ B hml hv
  obtain ⟨rfl, hN, hP, hK, hD, hF⟩ := hv
  have hx := B.exec
  have hb := B.bytes
  have hr := B.returns
  have hts := atoms_spec (ws := wsX7_count) B.pre
  have hown : s.vm.findClass RX7 = some m.cls := findClass_of_methodNamed B.named
  have hlk := B.notSynchronized
  have hcl : 0 ≤ (rm_X7_count).cells := Nat.zero_le _
  have hsl : 0 ≤ (rm_X7_count).slots := Nat.zero_le _
  have Cc : Cx p s m _ meth c cX7_count 2 RX7 wsX7_count (some .int) := ⟨hx, hb, hml, hown, hts, hr, hlk, hN⟩
  have hS : va_S (inA K) s.heap s.heap [] := va_S.rf
  have hl := lv_entry ([.ref (K.2.2.1 12), .int a0]) (n := 2) (Nat.le_of_ble_eq_true rfl)
  rw [lg_entry_eq]
  generalize (lg_sl ([.ref (K.2.2.1 12), .int a0]) ++ List.replicate (2 - (lg_sl ([.ref (K.2.2.1 12), .int a0])).length) Slot.unset).toArray = ls at hl ⊢
  have hl : lv_has ls 2 [(0, .ref (K.2.2.1 12)), (1, .int a0)] := hl
  rw [F_X7_count] at h
  refine lv_aload_n hx hb dX7_count_0 rfl (lv_at hl 0 rfl) ?_
  refine lv_iconst (v := (0 : Int32)) hx hb dX7_count_1 (by decide) ?_
  obtain ⟨S1, eS1, h⟩ := gn_nm h
  refine va_put (D := K.1) (ci := 6) (v := .int (0 : Int32)) (ty := .int) (C := RX7) (T := TX7) (N := 24) hx hb hts in_X7_count_X7 tyX7 tyX7_ok nmX7 hown hK hP hD hS 12 rfl rfl 0 (by decide) (hts (.fieldLink RX7 33 "SawSumsModel" "thrown" "I") (by decide +kernel)) (fun _ h9 => h9) rfl (by decide +kernel) rfl rfl (Nat.le_of_ble_eq_true rfl) dX7_count_2 (fun H locs hP hD hS => ?_)
  have hP : va_P K.1 vwCl (wd K C S1 o g) H := by rw [eS1]; exact hP
  have hD : va_D (inA K) (wd K C S1 o g) := by rw [eS1]; exact hD
  refine lv_iload_n hx hb dX7_count_5 rfl (lv_at hl 1 rfl) ?_
  refine lv_if_ne (tgt := 16) hx hb dX7_count_6 (by decide) (fun c2 => ?_) (fun c2 => ?_)
  · have h := gn_f h c2
    refine lv_iload_n hx hb dX7_count_16 rfl (lv_at hl 1 rfl) ?_
    refine lv_iconst (v := (1 : Int32)) hx hb dX7_count_17 (by decide) ?_
    refine lv_icmp_ne (tgt := 28) hx hb dX7_count_18 (by decide) (fun c3 => ?_) (fun c3 => ?_)
    · have h := gn_f h c3
      refine lv_iload_n hx hb dX7_count_28 rfl (lv_at hl 1 rfl) ?_
      refine lv_iconst (v := (2 : Int32)) hx hb dX7_count_29 (by decide) ?_
      refine lv_icmp_ne (tgt := 40) hx hb dX7_count_30 (by decide) (fun c4 => ?_) (fun c4 => ?_)
      · have h := gn_f h c4
        refine lv_iconst (v := (-1 : Int32)) hx hb dX7_count_40 (by decide) ?_
        obtain ⟨rfl, rfl⟩ := Prod.mk.inj (gn_some h)
        exact W.iret hx hb hr (fun t ht _ => ⟨rfl, by rw [ht]; exact hP, hD, hS.F ht⟩) hS.2.2 dX7_count_41 hlk
      · have h := gn_t h c4
        refine lv_aload_n hx hb dX7_count_33 rfl (lv_at hl 0 rfl) ?_
        refine va_get (D := K.1) (ci := 6) (v := .int (mg_often S1)) (C := RX7) (T := TX7) (N := 24) hx hb hts in_X7_count_X7 hown hK hP 12 rfl rfl 17 (by decide) (hts (.fieldLink RX7 274 "SawSumsModel" "often" "I") (by decide +kernel)) (fun _ h9 => h9) rfl dX7_count_34 ?_
        refine lv_goto (tgt := 41) hx hb dX7_count_37 (by decide) ?_
        obtain ⟨rfl, rfl⟩ := Prod.mk.inj (gn_some h)
        exact W.iret hx hb hr (fun t ht _ => ⟨rfl, by rw [ht]; exact hP, hD, hS.F ht⟩) hS.2.2 dX7_count_41 hlk
    · have h := gn_t h c3
      refine lv_aload_n hx hb dX7_count_21 rfl (lv_at hl 0 rfl) ?_
      refine va_get (D := K.1) (ci := 6) (v := .int (mg_sums S1)) (C := RX7) (T := TX7) (N := 24) hx hb hts in_X7_count_X7 hown hK hP 12 rfl rfl 16 (by decide) (hts (.fieldLink RX7 271 "SawSumsModel" "sums" "I") (by decide +kernel)) (fun _ h9 => h9) rfl dX7_count_22 ?_
      refine lv_goto (tgt := 41) hx hb dX7_count_25 (by decide) ?_
      obtain ⟨rfl, rfl⟩ := Prod.mk.inj (gn_some h)
      exact W.iret hx hb hr (fun t ht _ => ⟨rfl, by rw [ht]; exact hP, hD, hS.F ht⟩) hS.2.2 dX7_count_41 hlk
  · have h := gn_t h c2
    refine lv_aload_n hx hb dX7_count_9 rfl (lv_at hl 0 rfl) ?_
    refine va_get (D := K.1) (ci := 6) (v := .int (mg_taped S1)) (C := RX7) (T := TX7) (N := 24) hx hb hts in_X7_count_X7 hown hK hP 12 rfl rfl 9 (by decide) (hts (.fieldLink RX7 178 "SawSumsModel" "taped" "I") (by decide +kernel)) (fun _ h9 => h9) rfl dX7_count_10 ?_
    refine lv_goto (tgt := 41) hx hb dX7_count_13 (by decide) ?_
    obtain ⟨rfl, rfl⟩ := Prod.mk.inj (gn_some h)
    exact W.iret hx hb hr (fun t ht _ => ⟨rfl, by rw [ht]; exact hP, hD, hS.F ht⟩) hS.2.2 dX7_count_41 hlk
