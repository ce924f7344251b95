
def rm_X4_isWord : Room := { frames := 4, cells := 0, slots := 0, locals := 96 }
section
variable {p : Program} {l : Launch} {e : Env} {s : State} {m : MethodId} {args : Array Value} {below : List Frame} {meth : Method} {c : Code} {z : Nat} {K : Ev} {M : MS} {o : Nat → Int64} {g : Gh}
set_option maxRecDepth 100000 in
theorem w_X4_isWord_20 (Cc : Cx p s m args meth c cX4_isWord 6 RX4 wsX4_isWord (some .boolean)) (hK : va_K K.1 vwCl (tysOf K) s) (hF : SF K s) {w : Nat} (hw : w < 3) {r : Int32} {S' : CS} (n : Nat) : ∀ (x2 : Int32) (x4 : Int32) (x5 : Int32) (S : CS) (H : Heap) (locs : List Loc), va_P K.1 vwCl (wd K S M o g) H → va_D (inA K) (wd K S M o g) → va_S (inA K) s.heap H locs → G_X4_isWord_20 z w n x2 x4 x5 S = some (r, S') → ∀ ls, lv_has ls 6 [(0, .ref (K.2.2.1 8)), (1, .ref (K.2.2.1 (20 + w))), (2, .int x2), (4, .int x4), (5, .int x5)] → W p l e rm_X4_isWord s m args below meth c H locs 0 0 (MQ below (qR K (some (.int r)) S' M o g) args s 0 0 (inA K)) (F0 m 20 ls []) := by
  obtain ⟨hx, hb, hml, hown, hts, hr, hlk, hN⟩ := id Cc
  have hcl : 0 ≤ (rm_X4_isWord).cells := Nat.zero_le _
  have hsl : 0 ≤ (rm_X4_isWord).slots := Nat.zero_le _
  induction n with
  | zero => intro x2 x4 x5 S H locs hP hD hS h; cases h
  | succ n ih =>
    intro x2 x4 x5 S H locs hP hD hS h ls hl
    rw [G_X4_isWord_20] at h
    refine lv_iload hx hb dX4_isWord_20 (lv_at hl 3 rfl) ?_
    refine lv_if_eq (tgt := 64) hx hb dX4_isWord_22 (by decide) (fun c1 => ?_) (fun c1 => ?_)
    · have h := gn_t h c1
      refine lv_iload hx hb dX4_isWord_64 (lv_at hl 3 rfl) ?_
      obtain ⟨n2, h⟩ := gn_yz h
      obtain ⟨rfl, rfl⟩ := Prod.mk.inj (gn_some h)
      exact W.zret (ty := .boolean) hx hb hr (nb_ok n2) (fun t ht _ => ⟨rfl, by rw [ht]; exact hP, hD, hS.F ht⟩) hS.2.2 dX4_isWord_66 hlk
    · have h := gn_f h c1
      refine lv_iload hx hb dX4_isWord_25 (lv_at hl 4 rfl) ?_
      refine lv_aload_n hx hb dX4_isWord_27 rfl (lv_at hl 1 rfl) ?_
      refine sc_V (rest := [.int x5]) ⟨hx, hb, hml, hown, hts⟩ hN hF hS (c_J0_length l K w hw) (cwV 0 hts gX4_isWord_J0_length_8abf5 rfl rfl rfl (by decide +kernel) ⟨(Nat.le_of_ble_eq_true rfl), (Nat.le_of_ble_eq_true rfl)⟩) (vk_recv (i := w) (adK := fun i => K.2.2.1 (20 + i)) hF.1 hw hS) rfl hl.1 rfl (Nat.le_of_ble_eq_true rfl) dX4_isWord_28 hcl hsl ?_
      refine lv_icmp_ge (tgt := 64) hx hb dX4_isWord_31 (by decide) (fun c3 => ?_) (fun c3 => ?_)
      · have h := gn_t h c3
        refine lv_iload hx hb dX4_isWord_64 (lv_at hl 3 rfl) ?_
        obtain ⟨n4, h⟩ := gn_yz h
        obtain ⟨rfl, rfl⟩ := Prod.mk.inj (gn_some h)
        exact W.zret (ty := .boolean) hx hb hr (nb_ok n4) (fun t ht _ => ⟨rfl, by rw [ht]; exact hP, hD, hS.F ht⟩) hS.2.2 dX4_isWord_66 hlk
      · have h := gn_f h c3
        refine lv_aload_n hx hb dX4_isWord_34 rfl (lv_at hl 0 rfl) ?_
        refine lv_iload_n hx hb dX4_isWord_35 rfl (lv_at hl 2 rfl) ?_
        refine lv_iload hx hb dX4_isWord_36 (lv_at hl 4 rfl) ?_
        refine lv_iadd hx hb dX4_isWord_38 ?_
        obtain ⟨r5, S6, qS6, h⟩ := gn_bd2 h
        refine hc_V (rest := []) ⟨hx, hb, hml, hown, hts⟩ hN hF hK hP hD hS (c_X4_byteAt l z K _ o g _ _ r5 S6 qS6) (cwV 1 hts gX4_isWord_X4_byteAt rfl rfl rfl (by decide +kernel) ⟨(Nat.le_of_ble_eq_true rfl), (Nat.le_of_ble_eq_true rfl)⟩) (va_recv hK hP (ci := 4) (q0 := 8) rfl rfl) rfl hl.1 rfl (Nat.le_of_ble_eq_true rfl) dX4_isWord_39 hcl hsl (fun H locs hP hD hS => ?_)
        have hP : va_P K.1 vwCl (wd K S6 M o g) H := hP
        have hD : va_D (inA K) (wd K S6 M o g) := hD
        refine W.eq (g2 := F0 m 42 ls [.int r5]) rfl ?_
        refine lv_aload_n hx hb dX4_isWord_42 rfl (lv_at hl 1 rfl) ?_
        refine lv_iload hx hb dX4_isWord_43 (lv_at hl 4 rfl) ?_
        obtain ⟨n7, h⟩ := gn_yz h
        refine sc_V (rest := [.int r5]) ⟨hx, hb, hml, hown, hts⟩ hN hF hS (c_J0_charAt l K w hw x5 n7) (cwV 1 hts gX4_isWord_J0_charAt_5068e rfl rfl rfl (by decide +kernel) ⟨(Nat.le_of_ble_eq_true rfl), (Nat.le_of_ble_eq_true rfl)⟩) (vk_recv (i := w) (adK := fun i => K.2.2.1 (20 + i)) hF.1 hw hS) rfl hl.1 rfl (Nat.le_of_ble_eq_true rfl) dX4_isWord_45 hcl hsl ?_
        refine lv_icmp_ne (tgt := 55) hx hb dX4_isWord_48 (by decide) (fun c8 => ?_) (fun c8 => ?_)
        · have h := gn_f h c8
          refine lv_iconst (v := (0 : Int32)) hx hb dX4_isWord_55 (by decide) ?_
          refine lv_istore (lv' := [(4, .int (0 : Int32)), (0, .ref (K.2.2.1 8)), (1, .ref (K.2.2.1 (20 + w))), (2, .int x2), (5, .int x5)]) hx hb dX4_isWord_56 hl (by decide) rfl (fun ls hl => ?_)
          obtain ⟨v9, ev9, h⟩ := gn_nm h
          refine lv_iinc (v := v9) (lv' := [(5, .int v9), (4, .int (0 : Int32)), (0, .ref (K.2.2.1 8)), (1, .ref (K.2.2.1 (20 + w))), (2, .int x2)]) hx hb dX4_isWord_58 hl (k := 4) rfl (by rw [ev9]; rfl) (by decide) rfl (fun ls hl => ?_)
          refine lv_goto (tgt := 20) hx hb dX4_isWord_61 (by decide) ?_
          exact ih x2 (0 : Int32) v9 S6 _ _ hP hD hS h ls (lv_sub hl [2, 3, 4, 1, 0] rfl)
        · have h := gn_t h c8
          refine lv_iconst (v := (1 : Int32)) hx hb dX4_isWord_51 (by decide) ?_
          refine lv_goto (tgt := 56) hx hb dX4_isWord_52 (by decide) ?_
          refine lv_istore (lv' := [(4, .int (1 : Int32)), (0, .ref (K.2.2.1 8)), (1, .ref (K.2.2.1 (20 + w))), (2, .int x2), (5, .int x5)]) hx hb dX4_isWord_56 hl (by decide) rfl (fun ls hl => ?_)
          obtain ⟨v10, ev10, h⟩ := gn_nm h
          refine lv_iinc (v := v10) (lv' := [(5, .int v10), (4, .int (1 : Int32)), (0, .ref (K.2.2.1 8)), (1, .ref (K.2.2.1 (20 + w))), (2, .int x2)]) hx hb dX4_isWord_58 hl (k := 4) rfl (by rw [ev10]; rfl) (by decide) rfl (fun ls hl => ?_)
          refine lv_goto (tgt := 20) hx hb dX4_isWord_61 (by decide) ?_
          exact ih x2 (1 : Int32) v10 S6 _ _ hP hD hS h ls (lv_sub hl [2, 3, 4, 1, 0] rfl)
end
set_option maxRecDepth 100000 in
theorem c_X4_isWord (l : Launch) (z : Nat) (K : Ev) (M : MS) (o : Nat → Int64) (g : Gh) (w : Nat) (hw : w < 3) (a1 : Int32) (a2 : Int32) (S : CS) (r : Int32) (S' : CS) (h : F_X4_isWord z w a1 a2 S = some (r, S')) : Met l yX4_isWord wsX4_isWord rm_X4_isWord (qH K [.ref (K.2.2.1 8), .ref (K.2.2.1 (20 + w)), .int a1, .int a2] S M o g) (qR K (some (.int r)) S' M o g) 0 0 (inA K) := by
  refine Met.ofW (cc := cX4_isWord) (maxL := 6) (ret := (some .boolean)) (by decide) rfl ?_
  intro p e s m args below meth c s₁ B hml hv
  obtain ⟨rfl, hN, hP, hK, hD, hF⟩ := hv
  have hx := B.exec
  have hb := B.bytes
  have hr := B.returns
  have hts := atoms_spec (ws := wsX4_isWord) B.pre
  have hown : s.vm.findClass RX4 = some m.cls := findClass_of_methodNamed B.named
  have hlk := B.notSynchronized
  have hcl : 0 ≤ (rm_X4_isWord).cells := Nat.zero_le _
  have hsl : 0 ≤ (rm_X4_isWord).slots := Nat.zero_le _
  have Cc : Cx p s m _ meth c cX4_isWord 6 RX4 wsX4_isWord (some .boolean) := ⟨hx, hb, hml, hown, hts, hr, hlk, hN⟩
  have hS : va_S (inA K) s.heap s.heap [] := va_S.rf
  have hl := lv_entry ([.ref (K.2.2.1 8), .ref (K.2.2.1 (20 + w)), .int a1, .int a2]) (n := 6) (Nat.le_of_ble_eq_true rfl)
  rw [lg_entry_eq]
  generalize (lg_sl ([.ref (K.2.2.1 8), .ref (K.2.2.1 (20 + w)), .int a1, .int a2]) ++ List.replicate (6 - (lg_sl ([.ref (K.2.2.1 8), .ref (K.2.2.1 (20 + w)), .int a1, .int a2])).length) Slot.unset).toArray = ls at hl ⊢
  have hl : lv_has ls 6 [(0, .ref (K.2.2.1 8)), (1, .ref (K.2.2.1 (20 + w))), (2, .int a1), (3, .int a2)] := hl
  rw [F_X4_isWord] at h
  refine lv_iload_n hx hb dX4_isWord_0 rfl (lv_at hl 3 rfl) ?_
  refine lv_iload_n hx hb dX4_isWord_1 rfl (lv_at hl 2 rfl) ?_
  refine lv_isub hx hb dX4_isWord_2 ?_
  refine lv_aload_n hx hb dX4_isWord_3 rfl (lv_at hl 1 rfl) ?_
  refine sc_V (rest := [.int (a2 - a1)]) ⟨hx, hb, hml, hown, hts⟩ hN hF hS (c_J0_length l K w hw) (cwV 0 hts gX4_isWord_J0_length_8abf5 rfl rfl rfl (by decide +kernel) ⟨(Nat.le_of_ble_eq_true rfl), (Nat.le_of_ble_eq_true rfl)⟩) (vk_recv (i := w) (adK := fun i => K.2.2.1 (20 + i)) hF.1 hw hS) rfl hl.1 rfl (Nat.le_of_ble_eq_true rfl) dX4_isWord_4 hcl hsl ?_
  refine lv_icmp_ne (tgt := 14) hx hb dX4_isWord_7 (by decide) (fun c1 => ?_) (fun c1 => ?_)
  · have h := gn_f h c1
    refine lv_iconst (v := (0 : Int32)) hx hb dX4_isWord_14 (by decide) ?_
    refine lv_istore (lv' := [(4, .int (0 : Int32)), (0, .ref (K.2.2.1 8)), (1, .ref (K.2.2.1 (20 + w))), (2, .int a1), (3, .int a2)]) hx hb dX4_isWord_15 hl (by decide) rfl (fun ls hl => ?_)
    refine lv_iconst (v := (0 : Int32)) hx hb dX4_isWord_17 (by decide) ?_
    refine lv_istore (lv' := [(5, .int (0 : Int32)), (4, .int (0 : Int32)), (0, .ref (K.2.2.1 8)), (1, .ref (K.2.2.1 (20 + w))), (2, .int a1), (3, .int a2)]) hx hb dX4_isWord_18 hl (by decide) rfl (fun ls hl => ?_)
    exact w_X4_isWord_20 Cc hK hF hw z a1 (0 : Int32) (0 : Int32) S _ _ hP hD hS h ls (lv_sub hl [2, 3, 4, 1, 0] rfl)
  · have h := gn_t h c1
    refine lv_iconst (v := (1 : Int32)) hx hb dX4_isWord_10 (by decide) ?_
    refine lv_goto (tgt := 15) hx hb dX4_isWord_11 (by decide) ?_
    refine lv_istore (lv' := [(4, .int (1 : Int32)), (0, .ref (K.2.2.1 8)), (1, .ref (K.2.2.1 (20 + w))), (2, .int a1), (3, .int a2)]) hx hb dX4_isWord_15 hl (by decide) rfl (fun ls hl => ?_)
    refine lv_iconst (v := (0 : Int32)) hx hb dX4_isWord_17 (by decide) ?_
    refine lv_istore (lv' := [(5, .int (0 : Int32)), (4, .int (1 : Int32)), (0, .ref (K.2.2.1 8)), (1, .ref (K.2.2.1 (20 + w))), (2, .int a1), (3, .int a2)]) hx hb dX4_isWord_18 hl (by decide) rfl (fun ls hl => ?_)
    exact w_X4_isWord_20 Cc hK hF hw z a1 (1 : Int32) (0 : Int32) S _ _ hP hD hS h ls (lv_sub hl [2, 3, 4, 1, 0] rfl)

def rm_X4_wordOf : Room := { frames := 5, cells := 0, slots := 0, locals := 121 }
section
variable {p : Program} {l : Launch} {e : Env} {s : State} {m : MethodId} {args : Array Value} {below : List Frame} {meth : Method} {c : Code} {z : Nat} {K : Ev} {M : MS} {o : Nat → Int64} {g : Gh}
end
set_option maxRecDepth 100000 in
theorem c_X4_wordOf (l : Launch) (z : Nat) (K : Ev) (M : MS) (o : Nat → Int64) (g : Gh) (a0 : Int32) (a1 : Int32) (S : CS) (r : Int32) (S' : CS) (h : F_X4_wordOf z a0 a1 S = some (r, S')) : Met l yX4_wordOf wsX4_wordOf rm_X4_wordOf (qH K [.ref (K.2.2.1 8), .int a0, .int a1] S M o g) (qR K (some (.int r)) S' M o g) 0 0 (inA K) := by
  refine Met.ofW (cc := cX4_wordOf) (maxL := 3) (ret := (some .int)) (by decide) rfl ?_
  intro p e s m args below meth c s₁ B hml hv
  obtain ⟨rfl, hN, hP, hK, hD, hF⟩ := hv
  have hx := B.exec
  have hb := B.bytes
  have hr := B.returns
  have hts := atoms_spec (ws := wsX4_wordOf) B.pre
  have hown : s.vm.findClass RX4 = some m.cls := findClass_of_methodNamed B.named
  have hlk := B.notSynchronized
  have hcl : 0 ≤ (rm_X4_wordOf).cells := Nat.zero_le _
  have hsl : 0 ≤ (rm_X4_wordOf).slots := Nat.zero_le _
  have Cc : Cx p s m _ meth c cX4_wordOf 3 RX4 wsX4_wordOf (some .int) := ⟨hx, hb, hml, hown, hts, hr, hlk, hN⟩
  have hS : va_S (inA K) s.heap s.heap [] := va_S.rf
  have hl := lv_entry ([.ref (K.2.2.1 8), .int a0, .int a1]) (n := 3) (Nat.le_of_ble_eq_true rfl)
  rw [lg_entry_eq]
  generalize (lg_sl ([.ref (K.2.2.1 8), .int a0, .int a1]) ++ List.replicate (3 - (lg_sl ([.ref (K.2.2.1 8), .int a0, .int a1])).length) Slot.unset).toArray = ls at hl ⊢
  have hl : lv_has ls 3 [(0, .ref (K.2.2.1 8)), (1, .int a0), (2, .int a1)] := hl
  rw [F_X4_wordOf] at h
  refine lv_aload_n hx hb dX4_wordOf_0 rfl (lv_at hl 0 rfl) ?_
  refine va_ldcS hx hb hown hF.2.2.2.1 dX4_wordOf_1 ?_
  refine lv_iload_n hx hb dX4_wordOf_3 rfl (lv_at hl 1 rfl) ?_
  refine lv_iload_n hx hb dX4_wordOf_4 rfl (lv_at hl 2 rfl) ?_
  obtain ⟨r1, S2, qS2, h⟩ := gn_bd2 h
  refine hc_V (rest := []) ⟨hx, hb, hml, hown, hts⟩ hN hF hK hP hD hS (c_X4_isWord l z K _ o g 0 (by decide) _ _ _ r1 S2 qS2) (cwV 3 hts gX4_wordOf_X4_isWord rfl rfl rfl (by decide +kernel) ⟨(Nat.le_of_ble_eq_true rfl), (Nat.le_of_ble_eq_true rfl)⟩) (va_recv hK hP (ci := 4) (q0 := 8) rfl rfl) rfl hl.1 rfl (Nat.le_of_ble_eq_true rfl) dX4_wordOf_5 hcl hsl (fun H locs hP hD hS => ?_)
  have hP : va_P K.1 vwCl (wd K S2 M o g) H := hP
  have hD : va_D (inA K) (wd K S2 M o g) := hD
  refine W.eq (g2 := F0 m 8 ls [.int r1]) rfl ?_
  refine lv_if_eq (tgt := 14) hx hb dX4_wordOf_8 (by decide) (fun c3 => ?_) (fun c3 => ?_)
  · have h := gn_t h c3
    refine lv_aload_n hx hb dX4_wordOf_14 rfl (lv_at hl 0 rfl) ?_
    refine va_ldcS hx hb hown hF.2.2.2.2.1 dX4_wordOf_15 ?_
    refine lv_iload_n hx hb dX4_wordOf_17 rfl (lv_at hl 1 rfl) ?_
    refine lv_iload_n hx hb dX4_wordOf_18 rfl (lv_at hl 2 rfl) ?_
    obtain ⟨r4, S5, qS5, h⟩ := gn_bd2 h
    refine hc_V (rest := []) ⟨hx, hb, hml, hown, hts⟩ hN hF hK hP hD hS (c_X4_isWord l z K _ o g 1 (by decide) _ _ _ r4 S5 qS5) (cwV 3 hts gX4_wordOf_X4_isWord rfl rfl rfl (by decide +kernel) ⟨(Nat.le_of_ble_eq_true rfl), (Nat.le_of_ble_eq_true rfl)⟩) (va_recv hK hP (ci := 4) (q0 := 8) rfl rfl) rfl hl.1 rfl (Nat.le_of_ble_eq_true rfl) dX4_wordOf_19 hcl hsl (fun H locs hP hD hS => ?_)
    have hP : va_P K.1 vwCl (wd K S5 M o g) H := hP
    have hD : va_D (inA K) (wd K S5 M o g) := hD
    refine W.eq (g2 := F0 m 22 ls [.int r4]) rfl ?_
    refine lv_if_eq (tgt := 28) hx hb dX4_wordOf_22 (by decide) (fun c6 => ?_) (fun c6 => ?_)
    · have h := gn_t h c6
      refine lv_aload_n hx hb dX4_wordOf_28 rfl (lv_at hl 0 rfl) ?_
      refine va_ldcS hx hb hown hF.2.2.2.2.2 dX4_wordOf_29 ?_
      refine lv_iload_n hx hb dX4_wordOf_31 rfl (lv_at hl 1 rfl) ?_
      refine lv_iload_n hx hb dX4_wordOf_32 rfl (lv_at hl 2 rfl) ?_
      obtain ⟨r7, S8, qS8, h⟩ := gn_bd2 h
      refine hc_V (rest := []) ⟨hx, hb, hml, hown, hts⟩ hN hF hK hP hD hS (c_X4_isWord l z K _ o g 2 (by decide) _ _ _ r7 S8 qS8) (cwV 3 hts gX4_wordOf_X4_isWord rfl rfl rfl (by decide +kernel) ⟨(Nat.le_of_ble_eq_true rfl), (Nat.le_of_ble_eq_true rfl)⟩) (va_recv hK hP (ci := 4) (q0 := 8) rfl rfl) rfl hl.1 rfl (Nat.le_of_ble_eq_true rfl) dX4_wordOf_33 hcl hsl (fun H locs hP hD hS => ?_)
      have hP : va_P K.1 vwCl (wd K S8 M o g) H := hP
      have hD : va_D (inA K) (wd K S8 M o g) := hD
      refine W.eq (g2 := F0 m 36 ls [.int r7]) rfl ?_
      refine lv_if_eq (tgt := 44) hx hb dX4_wordOf_36 (by decide) (fun c9 => ?_) (fun c9 => ?_)
      · have h := gn_t h c9
        refine lv_bipush (v := (-6 : Int32)) hx hb dX4_wordOf_44 (by decide) ?_
        obtain ⟨rfl, rfl⟩ := Prod.mk.inj (gn_some h)
        exact W.iret hx hb hr (fun t ht _ => ⟨rfl, by rw [ht]; exact hP, hD, hS.F ht⟩) hS.2.2 dX4_wordOf_46 hlk
      · have h := gn_f h c9
        refine lv_bipush (v := (-5 : Int32)) hx hb dX4_wordOf_39 (by decide) ?_
        refine lv_goto (tgt := 46) hx hb dX4_wordOf_41 (by decide) ?_
        obtain ⟨rfl, rfl⟩ := Prod.mk.inj (gn_some h)
        exact W.iret hx hb hr (fun t ht _ => ⟨rfl, by rw [ht]; exact hP, hD, hS.F ht⟩) hS.2.2 dX4_wordOf_46 hlk
    · have h := gn_f h c6
      refine lv_bipush (v := (-3 : Int32)) hx hb dX4_wordOf_25 (by decide) ?_
      obtain ⟨rfl, rfl⟩ := Prod.mk.inj (gn_some h)
      exact W.iret hx hb hr (fun t ht _ => ⟨rfl, by rw [ht]; exact hP, hD, hS.F ht⟩) hS.2.2 dX4_wordOf_27 hlk
  · have h := gn_f h c3
    refine lv_bipush (v := (-4 : Int32)) hx hb dX4_wordOf_11 (by decide) ?_
    obtain ⟨rfl, rfl⟩ := Prod.mk.inj (gn_some h)
    exact W.iret hx hb hr (fun t ht _ => ⟨rfl, by rw [ht]; exact hP, hD, hS.F ht⟩) hS.2.2 dX4_wordOf_13 hlk

def rm_X4_kindOf : Room := { frames := 6, cells := 0, slots := 0, locals := 143 }
section
variable {p : Program} {l : Launch} {e : Env} {s : State} {m : MethodId} {args : Array Value} {below : List Frame} {meth : Method} {c : Code} {z : Nat} {K : Ev} {M : MS} {o : Nat → Int64} {g : Gh}
end
set_option maxRecDepth 100000 in
theorem c_X4_kindOf (l : Launch) (z : Nat) (K : Ev) (M : MS) (o : Nat → Int64) (g : Gh) (a0 : Int32) (a1 : Int32) (a2 : Int32) (S : CS) (r : Int32) (S' : CS) (h : F_X4_kindOf z a0 a1 a2 S = some (r, S')) : Met l yX4_kindOf wsX4_kindOf rm_X4_kindOf (qH K [.ref (K.2.2.1 8), .int a0, .int a1, .int a2] S M o g) (qR K (some (.int r)) S' M o g) 0 0 (inA K) := by
  refine Met.ofW (cc := cX4_kindOf) (maxL := 4) (ret := (some .int)) (by decide) rfl ?_
  intro p e s m args below meth c s₁ B hml hv
  obtain ⟨rfl, hN, hP, hK, hD, hF⟩ := hv
  have hx := B.exec
  have hb := B.bytes
  have hr := B.returns
  have hts := atoms_spec (ws := wsX4_kindOf) B.pre
  have hown : s.vm.findClass RX4 = some m.cls := findClass_of_methodNamed B.named
  have hlk := B.notSynchronized
  have hcl : 0 ≤ (rm_X4_kindOf).cells := Nat.zero_le _
  have hsl : 0 ≤ (rm_X4_kindOf).slots := Nat.zero_le _
  have Cc : Cx p s m _ meth c cX4_kindOf 4 RX4 wsX4_kindOf (some .int) := ⟨hx, hb, hml, hown, hts, hr, hlk, hN⟩
  have hS : va_S (inA K) s.heap s.heap [] := va_S.rf
  have hl := lv_entry ([.ref (K.2.2.1 8), .int a0, .int a1, .int a2]) (n := 4) (Nat.le_of_ble_eq_true rfl)
  rw [lg_entry_eq]
  generalize (lg_sl ([.ref (K.2.2.1 8), .int a0, .int a1, .int a2]) ++ List.replicate (4 - (lg_sl ([.ref (K.2.2.1 8), .int a0, .int a1, .int a2])).length) Slot.unset).toArray = ls at hl ⊢
  have hl : lv_has ls 4 [(0, .ref (K.2.2.1 8)), (1, .int a0), (2, .int a1), (3, .int a2)] := hl
  rw [F_X4_kindOf] at h
  refine lv_iload_n hx hb dX4_kindOf_0 rfl (lv_at hl 1 rfl) ?_
  by_cases c1 : a0 = (2 : Int32)
  · have h := gn_t h c1
    refine lv_lookup (off := 27) (tgt := 28) hx hb dX4_kindOf_1 (by decide) (by rw [c1]; rfl) (by decide) ?_
    refine lv_aload_n hx hb dX4_kindOf_28 rfl (lv_at hl 0 rfl) ?_
    refine lv_iload_n hx hb dX4_kindOf_29 rfl (lv_at hl 2 rfl) ?_
    refine lv_iload_n hx hb dX4_kindOf_30 rfl (lv_at hl 3 rfl) ?_
    obtain ⟨r2, S3, qS3, h⟩ := gn_bd2 h
    refine hc_V (rest := []) ⟨hx, hb, hml, hown, hts⟩ hN hF hK hP hD hS (c_X4_wordOf l z K _ o g _ _ _ r2 S3 qS3) (cwV 2 hts gX4_kindOf_X4_wordOf rfl rfl rfl (by decide +kernel) ⟨(Nat.le_of_ble_eq_true rfl), (Nat.le_of_ble_eq_true rfl)⟩) (va_recv hK hP (ci := 4) (q0 := 8) rfl rfl) rfl hl.1 rfl (Nat.le_of_ble_eq_true rfl) dX4_kindOf_31 hcl hsl (fun H locs hP hD hS => ?_)
    have hP : va_P K.1 vwCl (wd K S3 M o g) H := hP
    have hD : va_D (inA K) (wd K S3 M o g) := hD
    refine W.eq (g2 := F0 m 34 ls [.int r2]) rfl ?_
    obtain ⟨rfl, rfl⟩ := Prod.mk.inj (gn_some h)
    exact W.iret hx hb hr (fun t ht _ => ⟨rfl, by rw [ht]; exact hP, hD, hS.F ht⟩) hS.2.2 dX4_kindOf_34 hlk
  have h := gn_f h c1
  by_cases c4 : a0 = (3 : Int32)
  · have h := gn_t h c4
    refine lv_lookup (off := 34) (tgt := 35) hx hb dX4_kindOf_1 (by decide) (by rw [c4]; rfl) (by decide) ?_
    refine lv_iload_n hx hb dX4_kindOf_35 rfl (lv_at hl 3 rfl) ?_
    refine lv_iload_n hx hb dX4_kindOf_36 rfl (lv_at hl 2 rfl) ?_
    refine lv_isub hx hb dX4_kindOf_37 ?_
    refine lv_bipush (v := (9 : Int32)) hx hb dX4_kindOf_38 (by decide) ?_
    refine lv_icmp_le (tgt := 48) hx hb dX4_kindOf_40 (by decide) (fun c5 => ?_) (fun c5 => ?_)
    · have h := gn_t h c5
      refine lv_bipush (v := (-2 : Int32)) hx hb dX4_kindOf_48 (by decide) ?_
      obtain ⟨rfl, rfl⟩ := Prod.mk.inj (gn_some h)
      exact W.iret hx hb hr (fun t ht _ => ⟨rfl, by rw [ht]; exact hP, hD, hS.F ht⟩) hS.2.2 dX4_kindOf_50 hlk
    · have h := gn_f h c5
      refine lv_bipush (v := (-6 : Int32)) hx hb dX4_kindOf_43 (by decide) ?_
      refine lv_goto (tgt := 50) hx hb dX4_kindOf_45 (by decide) ?_
      obtain ⟨rfl, rfl⟩ := Prod.mk.inj (gn_some h)
      exact W.iret hx hb hr (fun t ht _ => ⟨rfl, by rw [ht]; exact hP, hD, hS.F ht⟩) hS.2.2 dX4_kindOf_50 hlk
  have h := gn_f h c4
  refine lv_lookup (off := 50) (tgt := 51) hx hb dX4_kindOf_1 (by decide) ((lv_osw c1 (by decide)).trans ((lv_osw c4 (by decide)).trans rfl)) (by decide) ?_
  refine lv_aload_n hx hb dX4_kindOf_51 rfl (lv_at hl 0 rfl) ?_
  refine lv_iload_n hx hb dX4_kindOf_52 rfl (lv_at hl 2 rfl) ?_
  obtain ⟨r6, S7, qS7, h⟩ := gn_bd2 h
  refine hc_V (rest := []) ⟨hx, hb, hml, hown, hts⟩ hN hF hK hP hD hS (c_X4_byteAt l z K _ o g _ _ r6 S7 qS7) (cwV 1 hts gX4_kindOf_X4_byteAt rfl rfl rfl (by decide +kernel) ⟨(Nat.le_of_ble_eq_true rfl), (Nat.le_of_ble_eq_true rfl)⟩) (va_recv hK hP (ci := 4) (q0 := 8) rfl rfl) rfl hl.1 rfl (Nat.le_of_ble_eq_true rfl) dX4_kindOf_53 hcl hsl (fun H locs hP hD hS => ?_)
  have hP : va_P K.1 vwCl (wd K S7 M o g) H := hP
  have hD : va_D (inA K) (wd K S7 M o g) := hD
  refine W.eq (g2 := F0 m 56 ls [.int r6]) rfl ?_
  obtain ⟨rfl, rfl⟩ := Prod.mk.inj (gn_some h)
  exact W.iret hx hb hr (fun t ht _ => ⟨rfl, by rw [ht]; exact hP, hD, hS.F ht⟩) hS.2.2 dX4_kindOf_56 hlk
theorem in_X4_cut_X4 : ∀ w ∈ wsX40, w ∈ wsX4_cut := fun _ h => List.mem_cons_of_mem _ (List.mem_append_right _ h)
def rm_X4_cut : Room := { frames := 7, cells := 0, slots := 0, locals := 166 }
section
variable {p : Program} {l : Launch} {e : Env} {s : State} {m : MethodId} {args : Array Value} {below : List Frame} {meth : Method} {c : Code} {z : Nat} {K : Ev} {M : MS} {o : Nat → Int64} {g : Gh}
set_option maxRecDepth 100000 in
theorem w_X4_cut_67 (Cc : Cx p s m args meth c cX4_cut 6 RX4 wsX4_cut none) (hK : va_K K.1 vwCl (tysOf K) s) (hF : SF K s)  {S' : CS} {k27 : Int32 → Int32 → CS → Option (CS)} (hk27 : ∀ (x2 : Int32) (x3 : Int32) (S : CS) (H : Heap) (locs : List Loc), va_P K.1 vwCl (wd K S M o g) H → va_D (inA K) (wd K S M o g) → va_S (inA K) s.heap H locs → k27 x2 x3 S = some S' → ∀ ls, lv_has ls 6 [(0, .ref (K.2.2.1 8)), (2, .int x2), (3, .int x3)] → W p l e rm_X4_cut s m args below meth c H locs 0 0 (MQ below (qR K none S' M o g) args s 0 0 (inA K)) (F0 m 27 ls [])) : ∀ (x2 : Int32) (x3 : Int32) (x4 : Int32) (t0 : Int32) (S : CS) (H : Heap) (locs : List Loc), va_P K.1 vwCl (wd K S M o g) H → va_D (inA K) (wd K S M o g) → va_S (inA K) s.heap H locs → G_X4_cut_67 z k27 x2 x3 x4 t0 S = some S' → ∀ ls, lv_has ls 6 [(0, .ref (K.2.2.1 8)), (2, .int x2), (3, .int x3), (4, .int x4)] → W p l e rm_X4_cut s m args below meth c H locs 0 0 (MQ below (qR K none S' M o g) args s 0 0 (inA K)) (F0 m 67 ls [.int t0]) := by
  obtain ⟨hx, hb, hml, hown, hts, hr, hlk, hN⟩ := id Cc
  have hcl : 0 ≤ (rm_X4_cut).cells := Nat.zero_le _
  have hsl : 0 ≤ (rm_X4_cut).slots := Nat.zero_le _
  intro x2 x3 x4 t0 S H locs hP hD hS h ls hl
  rw [G_X4_cut_67] at h
  refine lv_istore (lv' := [(5, .int t0), (0, .ref (K.2.2.1 8)), (2, .int x2), (3, .int x3), (4, .int x4)]) hx hb dX4_cut_67 hl (by decide) rfl (fun ls hl => ?_)
  refine lv_aload_n hx hb dX4_cut_69 rfl (lv_at hl 1 rfl) ?_
  refine lv_aload_n hx hb dX4_cut_70 rfl (lv_at hl 1 rfl) ?_
  refine lv_iload hx hb dX4_cut_71 (lv_at hl 4 rfl) ?_
  refine lv_iload_n hx hb dX4_cut_73 rfl (lv_at hl 2 rfl) ?_
  refine lv_iload hx hb dX4_cut_74 (lv_at hl 0 rfl) ?_
  obtain ⟨r1, S2, qS2, h⟩ := gn_bd2 h
  refine hc_V (rest := [.ref (K.2.2.1 8)]) ⟨hx, hb, hml, hown, hts⟩ hN hF hK hP hD hS (c_X4_kindOf l z K _ o g _ _ _ _ r1 S2 qS2) (cwV 3 hts gX4_cut_X4_kindOf rfl rfl rfl (by decide +kernel) ⟨(Nat.le_of_ble_eq_true rfl), (Nat.le_of_ble_eq_true rfl)⟩) (va_recv hK hP (ci := 4) (q0 := 8) rfl rfl) rfl hl.1 rfl (Nat.le_of_ble_eq_true rfl) dX4_cut_76 hcl hsl (fun H locs hP hD hS => ?_)
  have hP : va_P K.1 vwCl (wd K S2 M o g) H := hP
  have hD : va_D (inA K) (wd K S2 M o g) := hD
  refine W.eq (g2 := F0 m 79 ls [.int r1, .ref (K.2.2.1 8)]) rfl ?_
  refine lv_iload_n hx hb dX4_cut_79 rfl (lv_at hl 2 rfl) ?_
  obtain ⟨S3, qS3, h⟩ := gn_bd h
  refine hc_V (rest := []) ⟨hx, hb, hml, hown, hts⟩ hN hF hK hP hD hS (c_X4_put l z K _ o g _ _ _  S3 qS3) (cwV 2 hts gX4_cut_X4_put rfl rfl rfl (by decide +kernel) ⟨(Nat.le_of_ble_eq_true rfl), (Nat.le_of_ble_eq_true rfl)⟩) (va_recv hK hP (ci := 4) (q0 := 8) rfl rfl) rfl hl.1 rfl (Nat.le_of_ble_eq_true rfl) dX4_cut_80 hcl hsl (fun H locs hP hD hS => ?_)
  have hP : va_P K.1 vwCl (wd K S3 M o g) H := hP
  have hD : va_D (inA K) (wd K S3 M o g) := hD
  refine W.eq (g2 := F0 m 83 ls []) rfl ?_
  refine lv_aload_n hx hb dX4_cut_83 rfl (lv_at hl 1 rfl) ?_
  refine lv_iload hx hb dX4_cut_84 (lv_at hl 0 rfl) ?_
  refine lv_iconst (v := (1 : Int32)) hx hb dX4_cut_86 (by decide) ?_
  obtain ⟨r4, S5, qS5, h⟩ := gn_bd2 h
  refine hc_V (rest := []) ⟨hx, hb, hml, hown, hts⟩ hN hF hK hP hD hS (c_X4_pastRun l z K _ o g _ _ _ r4 S5 qS5) (cwV 2 hts gX4_cut_X4_pastRun rfl rfl rfl (by decide +kernel) ⟨(Nat.le_of_ble_eq_true rfl), (Nat.le_of_ble_eq_true rfl)⟩) (va_recv hK hP (ci := 4) (q0 := 8) rfl rfl) rfl hl.1 rfl (Nat.le_of_ble_eq_true rfl) dX4_cut_87 hcl hsl (fun H locs hP hD hS => ?_)
  have hP : va_P K.1 vwCl (wd K S5 M o g) H := hP
  have hD : va_D (inA K) (wd K S5 M o g) := hD
  refine W.eq (g2 := F0 m 90 ls [.int r4]) rfl ?_
  refine lv_istore_n (lv' := [(2, .int r4), (5, .int t0), (0, .ref (K.2.2.1 8)), (3, .int x3), (4, .int x4)]) hx hb dX4_cut_90 rfl hl (by decide) rfl (fun ls hl => ?_)
  obtain ⟨v6, ev6, h⟩ := gn_nm h
  refine lv_iinc (v := v6) (lv' := [(3, .int v6), (2, .int r4), (5, .int t0), (0, .ref (K.2.2.1 8)), (4, .int x4)]) hx hb dX4_cut_91 hl (k := 3) rfl (by rw [ev6]; rfl) (by decide) rfl (fun ls hl => ?_)
  refine lv_goto (tgt := 27) hx hb dX4_cut_94 (by decide) ?_
  exact hk27 r4 v6 S5 _ _ hP hD hS h ls (lv_sub hl [3, 1, 0] rfl)
set_option maxRecDepth 100000 in
theorem w_X4_cut_27 (Cc : Cx p s m args meth c cX4_cut 6 RX4 wsX4_cut none) (hK : va_K K.1 vwCl (tysOf K) s) (hF : SF K s)  {S' : CS} (n : Nat) : ∀ (x2 : Int32) (x3 : Int32) (S : CS) (H : Heap) (locs : List Loc), va_P K.1 vwCl (wd K S M o g) H → va_D (inA K) (wd K S M o g) → va_S (inA K) s.heap H locs → G_X4_cut_27 z n x2 x3 S = some S' → ∀ ls, lv_has ls 6 [(0, .ref (K.2.2.1 8)), (2, .int x2), (3, .int x3)] → W p l e rm_X4_cut s m args below meth c H locs 0 0 (MQ below (qR K none S' M o g) args s 0 0 (inA K)) (F0 m 27 ls []) := by
  obtain ⟨hx, hb, hml, hown, hts, hr, hlk, hN⟩ := id Cc
  have hcl : 0 ≤ (rm_X4_cut).cells := Nat.zero_le _
  have hsl : 0 ≤ (rm_X4_cut).slots := Nat.zero_le _
  induction n with
  | zero => intro x2 x3 S H locs hP hD hS h; cases h
  | succ n ih =>
    intro x2 x3 S H locs hP hD hS h ls hl
    rw [G_X4_cut_27] at h
    refine lv_iload_n hx hb dX4_cut_27 rfl (lv_at hl 2 rfl) ?_
    refine lv_sipush (v := (300 : Int32)) hx hb dX4_cut_28 (by decide) ?_
    refine lv_icmp_ge (tgt := 97) hx hb dX4_cut_31 (by decide) (fun c1 => ?_) (fun c1 => ?_)
    · have h := gn_t h c1
      refine lv_aload_n hx hb dX4_cut_97 rfl (lv_at hl 0 rfl) ?_
      refine lv_iconst (v := (-1 : Int32)) hx hb dX4_cut_98 (by decide) ?_
      refine lv_aload_n hx hb dX4_cut_99 rfl (lv_at hl 0 rfl) ?_
      refine va_get (D := K.1) (ci := 4) (v := .int (cg_tlength S)) (C := RX4) (T := TX4) (N := 6) hx hb hts in_X4_cut_X4 hown hK hP 8 rfl rfl 4 (by decide) (hts (.fieldLink RX4 25 "SawSums$Tokens" "length" "I") (by decide +kernel)) (fun _ h9 => h9) rfl dX4_cut_100 ?_
      obtain ⟨S2, qS2, h⟩ := gn_bd h
      refine hc_V (rest := []) ⟨hx, hb, hml, hown, hts⟩ hN hF hK hP hD hS (c_X4_put l z K _ o g _ _ _  S2 qS2) (cwV 2 hts gX4_cut_X4_put rfl rfl rfl (by decide +kernel) ⟨(Nat.le_of_ble_eq_true rfl), (Nat.le_of_ble_eq_true rfl)⟩) (va_recv hK hP (ci := 4) (q0 := 8) rfl rfl) rfl hl.1 rfl (Nat.le_of_ble_eq_true rfl) dX4_cut_103 hcl hsl (fun H locs hP hD hS => ?_)
      have hP : va_P K.1 vwCl (wd K S2 M o g) H := hP
      have hD : va_D (inA K) (wd K S2 M o g) := hD
      refine W.eq (g2 := F0 m 106 ls []) rfl ?_
      obtain rfl := gn_some h
      exact W.vret hx hb hr (fun t ht _ => ⟨rfl, by rw [ht]; exact hP, hD, hS.F ht⟩) hS.2.2 dX4_cut_106 hlk
    · have h := gn_f h c1
      refine lv_iload_n hx hb dX4_cut_34 rfl (lv_at hl 1 rfl) ?_
      refine lv_aload_n hx hb dX4_cut_35 rfl (lv_at hl 0 rfl) ?_
      refine va_get (D := K.1) (ci := 4) (v := .int (cg_tlength S)) (C := RX4) (T := TX4) (N := 6) hx hb hts in_X4_cut_X4 hown hK hP 8 rfl rfl 4 (by decide) (hts (.fieldLink RX4 25 "SawSums$Tokens" "length" "I") (by decide +kernel)) (fun _ h9 => h9) rfl dX4_cut_36 ?_
      refine lv_icmp_ge (tgt := 97) hx hb dX4_cut_39 (by decide) (fun c3 => ?_) (fun c3 => ?_)
      · have h := gn_t h c3
        refine lv_aload_n hx hb dX4_cut_97 rfl (lv_at hl 0 rfl) ?_
        refine lv_iconst (v := (-1 : Int32)) hx hb dX4_cut_98 (by decide) ?_
        refine lv_aload_n hx hb dX4_cut_99 rfl (lv_at hl 0 rfl) ?_
        refine va_get (D := K.1) (ci := 4) (v := .int (cg_tlength S)) (C := RX4) (T := TX4) (N := 6) hx hb hts in_X4_cut_X4 hown hK hP 8 rfl rfl 4 (by decide) (hts (.fieldLink RX4 25 "SawSums$Tokens" "length" "I") (by decide +kernel)) (fun _ h9 => h9) rfl dX4_cut_100 ?_
        obtain ⟨S4, qS4, h⟩ := gn_bd h
        refine hc_V (rest := []) ⟨hx, hb, hml, hown, hts⟩ hN hF hK hP hD hS (c_X4_put l z K _ o g _ _ _  S4 qS4) (cwV 2 hts gX4_cut_X4_put rfl rfl rfl (by decide +kernel) ⟨(Nat.le_of_ble_eq_true rfl), (Nat.le_of_ble_eq_true rfl)⟩) (va_recv hK hP (ci := 4) (q0 := 8) rfl rfl) rfl hl.1 rfl (Nat.le_of_ble_eq_true rfl) dX4_cut_103 hcl hsl (fun H locs hP hD hS => ?_)
        have hP : va_P K.1 vwCl (wd K S4 M o g) H := hP
        have hD : va_D (inA K) (wd K S4 M o g) := hD
        refine W.eq (g2 := F0 m 106 ls []) rfl ?_
        obtain rfl := gn_some h
        exact W.vret hx hb hr (fun t ht _ => ⟨rfl, by rw [ht]; exact hP, hD, hS.F ht⟩) hS.2.2 dX4_cut_106 hlk
      · have h := gn_f h c3
        refine lv_aload_n hx hb dX4_cut_42 rfl (lv_at hl 0 rfl) ?_
        refine lv_iload_n hx hb dX4_cut_43 rfl (lv_at hl 1 rfl) ?_
        obtain ⟨r5, S6, qS6, h⟩ := gn_bd2 h
        refine hc_V (rest := []) ⟨hx, hb, hml, hown, hts⟩ hN hF hK hP hD hS (c_X4_sortAt l z K _ o g _ _ r5 S6 qS6) (cwV 1 hts gX4_cut_X4_sortAt rfl rfl rfl (by decide +kernel) ⟨(Nat.le_of_ble_eq_true rfl), (Nat.le_of_ble_eq_true rfl)⟩) (va_recv hK hP (ci := 4) (q0 := 8) rfl rfl) rfl hl.1 rfl (Nat.le_of_ble_eq_true rfl) dX4_cut_44 hcl hsl (fun H locs hP hD hS => ?_)
        have hP : va_P K.1 vwCl (wd K S6 M o g) H := hP
        have hD : va_D (inA K) (wd K S6 M o g) := hD
        refine W.eq (g2 := F0 m 47 ls [.int r5]) rfl ?_
        refine lv_istore (lv' := [(4, .int r5), (0, .ref (K.2.2.1 8)), (2, .int x2), (3, .int x3)]) hx hb dX4_cut_47 hl (by decide) rfl (fun ls hl => ?_)
        refine lv_iload hx hb dX4_cut_49 (lv_at hl 0 rfl) ?_
        refine lv_if_ne (tgt := 60) hx hb dX4_cut_51 (by decide) (fun c7 => ?_) (fun c7 => ?_)
        · have h := gn_f h c7
          refine lv_aload_n hx hb dX4_cut_60 rfl (lv_at hl 1 rfl) ?_
          refine lv_iload_n hx hb dX4_cut_61 rfl (lv_at hl 2 rfl) ?_
          refine lv_iload hx hb dX4_cut_62 (lv_at hl 0 rfl) ?_
          obtain ⟨r8, S9, qS9, h⟩ := gn_bd2 h
          refine hc_V (rest := []) ⟨hx, hb, hml, hown, hts⟩ hN hF hK hP hD hS (c_X4_pastRun l z K _ o g _ _ _ r8 S9 qS9) (cwV 2 hts gX4_cut_X4_pastRun rfl rfl rfl (by decide +kernel) ⟨(Nat.le_of_ble_eq_true rfl), (Nat.le_of_ble_eq_true rfl)⟩) (va_recv hK hP (ci := 4) (q0 := 8) rfl rfl) rfl hl.1 rfl (Nat.le_of_ble_eq_true rfl) dX4_cut_64 hcl hsl (fun H locs hP hD hS => ?_)
          have hP : va_P K.1 vwCl (wd K S9 M o g) H := hP
          have hD : va_D (inA K) (wd K S9 M o g) := hD
          refine W.eq (g2 := F0 m 67 ls [.int r8]) rfl ?_
          exact w_X4_cut_67 Cc hK hF ih x2 x3 r5 r8 S9 _ _ hP hD hS h ls (lv_sub hl [1, 2, 3, 0] rfl)
        · have h := gn_t h c7
          refine lv_iload_n hx hb dX4_cut_54 rfl (lv_at hl 2 rfl) ?_
          refine lv_iconst (v := (1 : Int32)) hx hb dX4_cut_55 (by decide) ?_
          refine lv_iadd hx hb dX4_cut_56 ?_
          refine lv_goto (tgt := 67) hx hb dX4_cut_57 (by decide) ?_
          exact w_X4_cut_67 Cc hK hF ih x2 x3 r5 (x2 + (1 : Int32)) S6 _ _ hP hD hS h ls (lv_sub hl [1, 2, 3, 0] rfl)
end
set_option maxRecDepth 100000 in
theorem c_X4_cut (l : Launch) (z : Nat) (K : Ev) (M : MS) (o : Nat → Int64) (g : Gh) (a0 : Int32) (S : CS)  (S' : CS) (h : F_X4_cut z a0 S = some S') : Met l yX4_cut wsX4_cut rm_X4_cut (qH K [.ref (K.2.2.1 8), .int a0] S M o g) (qR K none S' M o g) 0 0 (inA K) := by
  refine Met.ofW (cc := cX4_cut) (maxL := 6) (ret := none) (by decide) rfl ?_
  intro p e s m args below meth c s₁ B hml hv
  obtain ⟨rfl, hN, hP, hK, hD, hF⟩ := hv
  have hx := B.exec
  have hb := B.bytes
  have hr := B.returns
  have hts := atoms_spec (ws := wsX4_cut) B.pre
  have hown : s.vm.findClass RX4 = some m.cls := findClass_of_methodNamed B.named
  have hlk := B.notSynchronized
  have hcl : 0 ≤ (rm_X4_cut).cells := Nat.zero_le _
  have hsl : 0 ≤ (rm_X4_cut).slots := Nat.zero_le _
  have Cc : Cx p s m _ meth c cX4_cut 6 RX4 wsX4_cut none := ⟨hx, hb, hml, hown, hts, hr, hlk, hN⟩
  have hS : va_S (inA K) s.heap s.heap [] := va_S.rf
  have hl := lv_entry ([.ref (K.2.2.1 8), .int a0]) (n := 6) (Nat.le_of_ble_eq_true rfl)
  rw [lg_entry_eq]
  generalize (lg_sl ([.ref (K.2.2.1 8), .int a0]) ++ List.replicate (6 - (lg_sl ([.ref (K.2.2.1 8), .int a0])).length) Slot.unset).toArray = ls at hl ⊢
  have hl : lv_has ls 6 [(0, .ref (K.2.2.1 8)), (1, .int a0)] := hl
  rw [F_X4_cut] at h
  refine lv_aload_n hx hb dX4_cut_0 rfl (lv_at hl 0 rfl) ?_
  refine lv_iload_n hx hb dX4_cut_1 rfl (lv_at hl 1 rfl) ?_
  refine lv_aload_n hx hb dX4_cut_2 rfl (lv_at hl 0 rfl) ?_
  refine va_get (D := K.1) (ci := 4) (v := .ref (K.2.2.1 6)) (C := RX4) (T := TX4) (N := 6) hx hb hts in_X4_cut_X4 hown hK hP 8 rfl rfl 0 (by decide) (hts (.fieldLink RX4 9 "SawSums$Tokens" "bytes" "[B") (by decide +kernel)) (fun _ h9 => h9) rfl dX4_cut_3 ?_
  refine va_alen (v := (300 : Int32)) hx hb hK hP 6 1 rfl rfl rfl dX4_cut_6 ?_
  refine va_mmin hx hb (hml.trans hl.1.symm) hown (hts (.methodLink RX4 32 Lib.Math.min.name) (by decide +kernel)) (hts (.static Lib.Math.min.name) (by decide +kernel)) (hts (.initialized "java/lang/Math") (by decide +kernel)) (hts (.code Lib.Math.min.name Lib.Math.min.code 2 (some .int)) (by decide +kernel)) (Nat.le_of_ble_eq_true rfl) (Nat.le_of_ble_eq_true rfl) hcl hsl dX4_cut_7 ?_
  obtain ⟨v1, ev1, h⟩ := gn_nm h
  refine ln_i ev1 ?_
  obtain ⟨S2, eS2, h⟩ := gn_nm h
  refine va_put (D := K.1) (ci := 4) (v := .int v1) (ty := .int) (C := RX4) (T := TX4) (N := 6) hx hb hts in_X4_cut_X4 tyX4 tyX4_ok nmX4 hown hK hP hD hS 8 rfl rfl 4 (by decide) (hts (.fieldLink RX4 25 "SawSums$Tokens" "length" "I") (by decide +kernel)) (fun _ h9 => h9) rfl (by decide +kernel) rfl rfl (Nat.le_of_ble_eq_true rfl) dX4_cut_10 (fun H locs hP hD hS => ?_)
  have hP : va_P K.1 vwCl (wd K S2 M o g) H := by rw [eS2]; exact hP
  have hD : va_D (inA K) (wd K S2 M o g) := by rw [eS2]; exact hD
  refine lv_aload_n hx hb dX4_cut_13 rfl (lv_at hl 0 rfl) ?_
  refine lv_iconst (v := (0 : Int32)) hx hb dX4_cut_14 (by decide) ?_
  obtain ⟨S3, eS3, h⟩ := gn_nm h
  refine va_put (D := K.1) (ci := 4) (v := .int (0 : Int32)) (ty := .int) (C := RX4) (T := TX4) (N := 6) hx hb hts in_X4_cut_X4 tyX4 tyX4_ok nmX4 hown hK hP hD hS 8 rfl rfl 5 (by decide) (hts (.fieldLink RX4 29 "SawSums$Tokens" "many" "I") (by decide +kernel)) (fun _ h9 => h9) rfl (by decide +kernel) rfl rfl (Nat.le_of_ble_eq_true rfl) dX4_cut_15 (fun H locs hP hD hS => ?_)
  have hP : va_P K.1 vwCl (wd K S3 M o g) H := by rw [eS3]; exact hP
  have hD : va_D (inA K) (wd K S3 M o g) := by rw [eS3]; exact hD
  refine lv_aload_n hx hb dX4_cut_18 rfl (lv_at hl 0 rfl) ?_
  refine lv_iconst (v := (0 : Int32)) hx hb dX4_cut_19 (by decide) ?_
  refine lv_iconst (v := (1 : Int32)) hx hb dX4_cut_20 (by decide) ?_
  obtain ⟨r4, S5, qS5, h⟩ := gn_bd2 h
  refine hc_V (rest := []) ⟨hx, hb, hml, hown, hts⟩ hN hF hK hP hD hS (c_X4_pastRun l z K _ o g _ _ _ r4 S5 qS5) (cwV 2 hts gX4_cut_X4_pastRun rfl rfl rfl (by decide +kernel) ⟨(Nat.le_of_ble_eq_true rfl), (Nat.le_of_ble_eq_true rfl)⟩) (va_recv hK hP (ci := 4) (q0 := 8) rfl rfl) rfl hl.1 rfl (Nat.le_of_ble_eq_true rfl) dX4_cut_21 hcl hsl (fun H locs hP hD hS => ?_)
  have hP : va_P K.1 vwCl (wd K S5 M o g) H := hP
  have hD : va_D (inA K) (wd K S5 M o g) := hD
  refine W.eq (g2 := F0 m 24 ls [.int r4]) rfl ?_
  refine lv_istore_n (lv' := [(2, .int r4), (0, .ref (K.2.2.1 8)), (1, .int a0)]) hx hb dX4_cut_24 rfl hl (by decide) rfl (fun ls hl => ?_)
  refine lv_iconst (v := (0 : Int32)) hx hb dX4_cut_25 (by decide) ?_
  refine lv_istore_n (lv' := [(3, .int (0 : Int32)), (2, .int r4), (0, .ref (K.2.2.1 8)), (1, .int a0)]) hx hb dX4_cut_26 rfl hl (by decide) rfl (fun ls hl => ?_)
  exact w_X4_cut_27 Cc hK hF z r4 (0 : Int32) S5 _ _ hP hD hS h ls (lv_sub hl [2, 1, 0] rfl)
