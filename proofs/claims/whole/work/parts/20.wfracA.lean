def rm_X1_init : Room := { frames := 2, cells := 0, slots := 0, locals := 60 }
theorem in_X1_init_X1 : ∀ w ∈ wsX10, w ∈ wsX1_init := fun _ h => List.mem_cons_of_mem _ (List.mem_append_right _ h)
theorem gset_gset (g : Gh) (q : Nat) (a b : Int64 × Int64) : gset (gset g q a) q b = gset g q b := by
  unfold gset
  show (g.1, g.2.1, va_up (va_up g.2.2 q a) q b) = _
  rw [bx_uu]
set_option maxRecDepth 100000 in
theorem c_X1_init (l : Launch) (z : Nat) (K : Ev) (C : CS) (M : MS) (o : Nat → Int64) (g : Gh) (b : Nat) (w0 : Int64 × Int64) (hq : b ∈ g.2.1 ∧ g.2.2 b = w0) (a0 a1 : Int64) (v : Int64 × Int64) (h : F_X1_init z a0 a1 = some v) : Met l yX1_init wsX1_init rm_X1_init (qH K [.ref b, .long a0, .long a1] C M o g) (qR K none C M o (gset g b v)) 0 0 (inA K) := by
  refine Met.ofW (cc := cX1_init) (maxL := 7) (ret := none) (by decide) rfl ?_
  intro p e s m args below meth c s₁ B hml hv
  obtain ⟨rfl, hN, hP, hK, hD, hF⟩ := hv
  have hx := B.exec
  have hb := B.bytes
  have hr := B.returns
  have hts := atoms_spec (ws := wsX1_init) B.pre
  have hown : s.vm.findClass RX1 = some m.cls := findClass_of_methodNamed B.named
  have hlk := B.notSynchronized
  have hin : meth.name = "<init>" := (name_of_methodNamed B.named B.method).1
  have hcl : 0 ≤ (rm_X1_init).cells := Nat.zero_le _
  have hsl : 0 ≤ (rm_X1_init).slots := Nat.zero_le _
  have hS : va_S (inA K) s.heap s.heap [] := va_S.rf
  have hl := lv_entry ([.ref b, .long a0, .long a1]) (n := 7) (Nat.le_of_ble_eq_true rfl)
  rw [lg_entry_eq]
  generalize (lg_sl ([.ref b, .long a0, .long a1]) ++ List.replicate (7 - (lg_sl ([.ref b, .long a0, .long a1])).length) Slot.unset).toArray = ls at hl ⊢
  have hl : lv_has ls 7 [(0, .ref b), (1, .long a0), (3, .long a1)] := hl
  rw [F_X1_init] at h
  refine lv_aload_n hx hb dX1_init_0 rfl (lv_at hl 0 rfl) ?_
  refine W.objInit hx hb hown (hts (.methodLink RX1 1 objectInit) (by decide +kernel)) (hts (.instanceMethod objectInit) (by decide +kernel)) (hts _ (List.mem_cons_of_mem _ (List.mem_append_left _ (List.mem_of_getElem? (i := 2) rfl)))) rfl (by rw [hml]; exact hl.1) rfl dX1_init_1 (Nat.le_of_ble_eq_true rfl) (Nat.le_of_ble_eq_true rfl) ?_
  refine W.eq (g2 := F0 m 4 ls []) rfl ?_
  refine lv_lload_n hx hb dX1_init_4 rfl (lv_at hl 1 rfl) ?_
  refine lv_lload_n hx hb dX1_init_5 rfl (lv_at hl 2 rfl) ?_
  obtain ⟨r1, qr1, h⟩ := gn_bd h
  refine pc_S (rest := []) ⟨hx, hb, hml, hown, hts⟩ hN (c_X5_divisor l z _ _ r1 qr1) (va_cwS 2 hts gX1_init_X5_divisor rfl rfl rfl (by decide +kernel) ⟨(Nat.le_of_ble_eq_true rfl), (Nat.le_of_ble_eq_true rfl)⟩) rfl hl.1 rfl (Nat.le_of_ble_eq_true rfl) dX1_init_6 hcl hsl ?_
  refine lv_lstore (lv' := [(5, .long r1), (0, .ref b), (1, .long a0), (3, .long a1)]) hx hb dX1_init_9 hl (by decide) rfl (fun ls hl => ?_)
  obtain ⟨n1, h⟩ := gn_nz h
  obtain rfl := gn_some h
  refine lv_aload_n hx hb dX1_init_11 rfl (lv_at hl 1 rfl) ?_
  refine lv_lload_n hx hb dX1_init_12 rfl (lv_at hl 2 rfl) ?_
  refine lv_lload hx hb dX1_init_13 (lv_at hl 0 rfl) ?_
  refine lv_ldiv hx hb dX1_init_15 n1 ?_
  obtain ⟨k, hk⟩ := va_pl_get (X := wx K C M o g.1) (f := frE g.2.2) hq.1
  have hk1 : (wd K C M o g)[k]? = some (b, .inr (1, [.long w0.1, .long w0.2])) := by rw [← hq.2]; exact hk
  have hD0 := hD
  refine va_putF (D := K.1) (ci := 1) (v := .long (a0 / r1)) (ty := .long) (C := RX1) (T := TX1) (N := 2) hx hb hts in_X1_init_X1 tyX1 tyX1_ok nmX1 hown hK hP hD hS k hk1 rfl 0 (by decide) (hts (.fieldLink RX1 13 "SawSums$Fraction" "upper" "J") (by decide +kernel)) (fun _ h9 => h9) rfl hin rfl (by decide +kernel) rfl rfl (Nat.le_of_ble_eq_true rfl) dX1_init_16 (fun H locs hP hD hS => ?_)
  have hP : va_P K.1 vwCl (wd K C M o (gset g b (a0 / r1, w0.2))) H := by rw [← wd_set hD0 hq.1 hk (a0 / r1, w0.2)]; exact hP
  have hD : va_D (inA K) (wd K C M o (gset g b (a0 / r1, w0.2))) := by rw [← wd_set hD0 hq.1 hk (a0 / r1, w0.2)]; exact hD
  have hq1 := gset_in (v := (a0 / r1, w0.2)) hq.1
  refine lv_aload_n hx hb dX1_init_19 rfl (lv_at hl 1 rfl) ?_
  refine lv_lload_n hx hb dX1_init_20 rfl (lv_at hl 3 rfl) ?_
  refine lv_lload hx hb dX1_init_21 (lv_at hl 0 rfl) ?_
  refine lv_ldiv hx hb dX1_init_23 n1 ?_
  obtain ⟨k2, hk2⟩ := va_pl_get (X := wx K C M o (gset g b (a0 / r1, w0.2)).1) (f := frE (gset g b (a0 / r1, w0.2)).2.2) hq1.1
  have hk3 : (wd K C M o (gset g b (a0 / r1, w0.2)))[k2]? = some (b, .inr (1, [.long (a0 / r1), .long w0.2])) := by
    have e := hk2
    rw [frE, hq1.2] at e
    exact e
  have hD0 := hD
  refine va_putF (D := K.1) (ci := 1) (v := .long (a1 / r1)) (ty := .long) (C := RX1) (T := TX1) (N := 2) hx hb hts in_X1_init_X1 tyX1 tyX1_ok nmX1 hown hK hP hD hS k2 hk3 rfl 1 (by decide) (hts (.fieldLink RX1 19 "SawSums$Fraction" "lower" "J") (by decide +kernel)) (fun _ h9 => h9) rfl hin rfl (by decide +kernel) rfl rfl (Nat.le_of_ble_eq_true rfl) dX1_init_24 (fun H locs hP hD hS => ?_)
  have hP : va_P K.1 vwCl (wd K C M o (gset g b (a0 / r1, a1 / r1))) H := by rw [← gset_gset g b (a0 / r1, w0.2), ← wd_set hD0 hq1.1 hk2 (a0 / r1, a1 / r1)]; exact hP
  have hD : va_D (inA K) (wd K C M o (gset g b (a0 / r1, a1 / r1))) := by rw [← gset_gset g b (a0 / r1, w0.2), ← wd_set hD0 hq1.1 hk2 (a0 / r1, a1 / r1)]; exact hD
  exact W.vret hx hb hr (fun t ht _ => ⟨rfl, by rw [ht]; exact hP, hD, hS.F ht⟩) hS.2.2 dX1_init_27 hlk
theorem in_X1_part_X1 : ∀ w ∈ wsX10, w ∈ wsX1_part := fun _ h => List.mem_cons_of_mem _ (List.mem_append_right _ h)
def rm_X1_part : Room := { frames := 0, cells := 0, slots := 0, locals := 0 }
section
variable {p : Program} {l : Launch} {e : Env} {s : State} {m : MethodId} {args : Array Value} {below : List Frame} {meth : Method} {c : Code} {z : Nat} {K : Ev} {C : CS} {M : MS} {o : Nat → Int64} {g : Gh}
end
set_option maxRecDepth 100000 in
theorem c_X1_part (l : Launch) (z : Nat) (K : Ev) (C : CS) (M : MS) (o : Nat → Int64) (g : Gh) (hz : K.2.2.1 18 ∈ g.2.1 ∧ g.2.2 (K.2.2.1 18) = (0, 1)) (b0 : Nat) (u0 : Int64 × Int64) (mu0 : b0 ∈ g.2.1 ∧ g.2.2 b0 = u0) (a0 : Int32) (r : Int64) (h : F_X1_part z u0 a0 = some (r)) : Met l yX1_part wsX1_part rm_X1_part (qH K [.ref b0, .int a0] C M o g) (qR K (some (.long r)) C M o g) 0 0 (inA K) := by
  refine Met.ofW (cc := cX1_part) (maxL := 2) (ret := (some .long)) (by decide) rfl ?_
  intro p e s m args below meth c s₁ B hml hv
  obtain ⟨rfl, hN, hP, hK, hD, hF⟩ := hv
  have hx := B.exec
  have hb := B.bytes
  have hr := B.returns
  have hts := atoms_spec (ws := wsX1_part) B.pre
  have hown : s.vm.findClass RX1 = some m.cls := findClass_of_methodNamed B.named
  have hlk := B.notSynchronized
  have hbs := wd_bs hP hD
  have hE : Ext g g := Ext.rf
  have Cc : Cx p s m _ meth c cX1_part 2 RX1 wsX1_part (some .long) := ⟨hx, hb, hml, hown, hts, hr, hlk, hN⟩
  have hS : va_S (inA K) s.heap s.heap [] := va_S.rf
  have hl := lv_entry ([.ref b0, .int a0]) (n := 2) (Nat.le_of_ble_eq_true rfl)
  rw [lg_entry_eq]
  generalize (lg_sl ([.ref b0, .int a0]) ++ List.replicate (2 - (lg_sl ([.ref b0, .int a0])).length) Slot.unset).toArray = ls at hl ⊢
  have hl : lv_has ls 2 [(0, .ref b0), (1, .int a0)] := hl
  rw [F_X1_part] at h
  have hcl : 0 ≤ rm_X1_part.cells := (Nat.le_of_ble_eq_true rfl)
  have hsl : 0 ≤ rm_X1_part.slots := (Nat.le_of_ble_eq_true rfl)
  refine lv_iload_n hx hb dX1_part_0 rfl (lv_at hl 1 rfl) ?_
  refine lv_if_eq (tgt := 11) hx hb dX1_part_1 (by decide) (fun c1 => ?_) (fun c1 => ?_)
  · have h := gn_t h c1
    refine lv_aload_n hx hb dX1_part_11 rfl (lv_at hl 0 rfl) ?_
    refine fr_get0 hx hb hts in_X1_part_X1 hown hK hP mu0 (hts (.fieldLink RX1 13 "SawSums$Fraction" "upper" "J") (by decide +kernel)) dX1_part_12 ?_
    obtain rfl := gn_some h
    refine W.widen (k := 0) (n := 0) (Nat.le_of_ble_eq_true rfl) (Nat.le_of_ble_eq_true rfl) ?_
    exact W.lret hx hb hr (fun t ht _ => ⟨rfl, by rw [ht]; exact hP, hD, hS.F ht⟩) hS.2.2 dX1_part_15 hlk
  · have h := gn_f h c1
    refine lv_aload_n hx hb dX1_part_4 rfl (lv_at hl 0 rfl) ?_
    refine fr_get1 hx hb hts in_X1_part_X1 hown hK hP mu0 (hts (.fieldLink RX1 19 "SawSums$Fraction" "lower" "J") (by decide +kernel)) dX1_part_5 ?_
    refine lv_goto (tgt := 15) hx hb dX1_part_8 (by decide) ?_
    obtain rfl := gn_some h
    refine W.widen (k := 0) (n := 0) (Nat.le_of_ble_eq_true rfl) (Nat.le_of_ble_eq_true rfl) ?_
    exact W.lret hx hb hr (fun t ht _ => ⟨rfl, by rw [ht]; exact hP, hD, hS.F ht⟩) hS.2.2 dX1_part_15 hlk
theorem in_X1_isWithin_X1 : ∀ w ∈ wsX10, w ∈ wsX1_isWithin := fun _ h => List.mem_cons_of_mem _ (List.mem_append_right _ h)
def rm_X1_isWithin : Room := { frames := 1, cells := 0, slots := 0, locals := 24 }
section
variable {p : Program} {l : Launch} {e : Env} {s : State} {m : MethodId} {args : Array Value} {below : List Frame} {meth : Method} {c : Code} {z : Nat} {K : Ev} {C : CS} {M : MS} {o : Nat → Int64} {g : Gh}
end
set_option maxRecDepth 100000 in
theorem c_X1_isWithin (l : Launch) (z : Nat) (K : Ev) (C : CS) (M : MS) (o : Nat → Int64) (g : Gh) (hz : K.2.2.1 18 ∈ g.2.1 ∧ g.2.2 (K.2.2.1 18) = (0, 1)) (b0 : Nat) (u0 : Int64 × Int64) (mu0 : b0 ∈ g.2.1 ∧ g.2.2 b0 = u0) (a0 : Int64) (r : Int32) (h : F_X1_isWithin z u0 a0 = some (r)) : Met l yX1_isWithin wsX1_isWithin rm_X1_isWithin (qH K [.ref b0, .long a0] C M o g) (qR K (some (.int r)) C M o g) 0 0 (inA K) := by
  refine Met.ofW (cc := cX1_isWithin) (maxL := 3) (ret := (some .boolean)) (by decide) rfl ?_
  intro p e s m args below meth c s₁ B hml hv
  obtain ⟨rfl, hN, hP, hK, hD, hF⟩ := hv
  have hx := B.exec
  have hb := B.bytes
  have hr := B.returns
  have hts := atoms_spec (ws := wsX1_isWithin) B.pre
  have hown : s.vm.findClass RX1 = some m.cls := findClass_of_methodNamed B.named
  have hlk := B.notSynchronized
  have hbs := wd_bs hP hD
  have hE : Ext g g := Ext.rf
  have Cc : Cx p s m _ meth c cX1_isWithin 3 RX1 wsX1_isWithin (some .boolean) := ⟨hx, hb, hml, hown, hts, hr, hlk, hN⟩
  have hS : va_S (inA K) s.heap s.heap [] := va_S.rf
  have hl := lv_entry ([.ref b0, .long a0]) (n := 3) (Nat.le_of_ble_eq_true rfl)
  rw [lg_entry_eq]
  generalize (lg_sl ([.ref b0, .long a0]) ++ List.replicate (3 - (lg_sl ([.ref b0, .long a0])).length) Slot.unset).toArray = ls at hl ⊢
  have hl : lv_has ls 3 [(0, .ref b0), (1, .long a0)] := hl
  rw [F_X1_isWithin] at h
  have hcl : 0 ≤ rm_X1_isWithin.cells := (Nat.le_of_ble_eq_true rfl)
  have hsl : 0 ≤ rm_X1_isWithin.slots := (Nat.le_of_ble_eq_true rfl)
  refine lv_aload_n hx hb dX1_isWithin_0 rfl (lv_at hl 0 rfl) ?_
  refine fr_get0 hx hb hts in_X1_isWithin_X1 hown hK hP mu0 (hts (.fieldLink RX1 13 "SawSums$Fraction" "upper" "J") (by decide +kernel)) dX1_isWithin_1 ?_
  refine va_mabs_long hx hb (hml.trans hl.1.symm) hown (hts (.methodLink RX1 30 Lib.MathLoose.abs_long.x) (by decide +kernel)) (hts (.static Lib.MathLoose.abs_long.x) (by decide +kernel)) (hts (.initialized "java/lang/Math") (by decide +kernel)) (hts (.code Lib.MathLoose.abs_long.x Lib.MathLoose.abs_long.code 2 (some .long)) (by decide +kernel)) (Nat.le_of_ble_eq_true rfl) (Nat.le_of_ble_eq_true rfl) hcl hsl dX1_isWithin_4 ?_
  refine lv_lload_n hx hb dX1_isWithin_7 rfl (lv_at hl 1 rfl) ?_
  refine ll_gt (tgt := 25) hx hb dX1_isWithin_8 dX1_isWithin_9 (by decide) (fun c1 => ?_) (fun c1 => ?_)
  · have h := gn_t h c1
    refine lv_iconst (v := (0 : Int32)) hx hb dX1_isWithin_25 (by decide) ?_
    obtain rfl := gn_some h
    refine W.widen (k := 0) (n := 0) (Nat.le_of_ble_eq_true rfl) (Nat.le_of_ble_eq_true rfl) ?_
    exact W.zret (ty := .boolean) hx hb hr rfl (fun t ht _ => ⟨rfl, by rw [ht]; exact hP, hD, hS.F ht⟩) hS.2.2 dX1_isWithin_26 hlk
  · have h := gn_f h c1
    refine lv_aload_n hx hb dX1_isWithin_12 rfl (lv_at hl 0 rfl) ?_
    refine fr_get1 hx hb hts in_X1_isWithin_X1 hown hK hP mu0 (hts (.fieldLink RX1 19 "SawSums$Fraction" "lower" "J") (by decide +kernel)) dX1_isWithin_13 ?_
    refine lv_lload_n hx hb dX1_isWithin_16 rfl (lv_at hl 1 rfl) ?_
    refine ll_gt (tgt := 25) hx hb dX1_isWithin_17 dX1_isWithin_18 (by decide) (fun c2 => ?_) (fun c2 => ?_)
    · have h := gn_t h c2
      refine lv_iconst (v := (0 : Int32)) hx hb dX1_isWithin_25 (by decide) ?_
      obtain rfl := gn_some h
      refine W.widen (k := 0) (n := 0) (Nat.le_of_ble_eq_true rfl) (Nat.le_of_ble_eq_true rfl) ?_
      exact W.zret (ty := .boolean) hx hb hr rfl (fun t ht _ => ⟨rfl, by rw [ht]; exact hP, hD, hS.F ht⟩) hS.2.2 dX1_isWithin_26 hlk
    · have h := gn_f h c2
      refine lv_iconst (v := (1 : Int32)) hx hb dX1_isWithin_21 (by decide) ?_
      refine lv_goto (tgt := 26) hx hb dX1_isWithin_22 (by decide) ?_
      obtain rfl := gn_some h
      refine W.widen (k := 0) (n := 0) (Nat.le_of_ble_eq_true rfl) (Nat.le_of_ble_eq_true rfl) ?_
      exact W.zret (ty := .boolean) hx hb hr rfl (fun t ht _ => ⟨rfl, by rw [ht]; exact hP, hD, hS.F ht⟩) hS.2.2 dX1_isWithin_26 hlk
theorem in_X1_ofSawSum_X1 : ∀ w ∈ wsX10, w ∈ wsX1_ofSawSum := fun _ h => List.mem_cons_of_mem _ (List.mem_append_right _ h)
def rm_X1_ofSawSum : Room := { frames := 3, cells := 1, slots := 2, locals := 86 }
section
variable {p : Program} {l : Launch} {e : Env} {s : State} {m : MethodId} {args : Array Value} {below : List Frame} {meth : Method} {c : Code} {z : Nat} {K : Ev} {C : CS} {M : MS} {o : Nat → Int64} {g : Gh}
end
set_option maxRecDepth 100000 in
theorem c_X1_ofSawSum (l : Launch) (z : Nat) (K : Ev) (C : CS) (M : MS) (o : Nat → Int64) (g : Gh) (hz : K.2.2.1 18 ∈ g.2.1 ∧ g.2.2 (K.2.2.1 18) = (0, 1)) (a0 : Int64) (a1 : Int64) (r : (Int64 × Int64)) (h : F_X1_ofSawSum z a0 a1 = some (r)) : Met l yX1_ofSawSum wsX1_ofSawSum rm_X1_ofSawSum (qH K [.long a0, .long a1] C M o g) (qF K r C M o g True) 1 2 (inA K) := by
  refine Met.ofW (cc := cX1_ofSawSum) (maxL := 4) (ret := (some (.object "SawSums$Fraction"))) (by decide) rfl ?_
  intro p e s m args below meth c s₁ B hml hv
  obtain ⟨rfl, hN, hP, hK, hD, hF⟩ := hv
  have hx := B.exec
  have hb := B.bytes
  have hr := B.returns
  have hts := atoms_spec (ws := wsX1_ofSawSum) B.pre
  have hown : s.vm.findClass RX1 = some m.cls := findClass_of_methodNamed B.named
  have hlk := B.notSynchronized
  have hbs := wd_bs hP hD
  have hE : Ext g g := Ext.rf
  have Cc : Cx p s m _ meth c cX1_ofSawSum 4 RX1 wsX1_ofSawSum (some (.object "SawSums$Fraction")) := ⟨hx, hb, hml, hown, hts, hr, hlk, hN⟩
  have hS : va_S (inA K) s.heap s.heap [] := va_S.rf
  have hl := lv_entry ([.long a0, .long a1]) (n := 4) (Nat.le_of_ble_eq_true rfl)
  rw [lg_entry_eq]
  generalize (lg_sl ([.long a0, .long a1]) ++ List.replicate (4 - (lg_sl ([.long a0, .long a1])).length) Slot.unset).toArray = ls at hl ⊢
  have hl : lv_has ls 4 [(0, .long a0), (2, .long a1)] := hl
  rw [F_X1_ofSawSum] at h
  have hcl : 0 ≤ rm_X1_ofSawSum.cells := (Nat.le_of_ble_eq_true rfl)
  have hsl : 0 ≤ rm_X1_ofSawSum.slots := (Nat.le_of_ble_eq_true rfl)
  refine fr_new hx hb hts in_X1_ofSawSum_X1 hown (hts (.classLink RX1 14 RX1) (by decide +kernel)) (hts (.instantiable RX1 2) (by decide +kernel)) (hts (.initialized RX1) (by decide +kernel)) hK hP hD hS hbs (Nat.le_of_ble_eq_true rfl) (Nat.le_of_ble_eq_true rfl) dX1_ofSawSum_0 (fun q1 H fq1 hP hD hS => ?_)
  have x2 := gpush_ext (v := ((0, 0) : Int64 × Int64)) fq1
  have hzn := Ext.mv x2 hz
  refine W.widen (k := 1) (n := 2) (Nat.le_of_ble_eq_true rfl) (Nat.le_of_ble_eq_true rfl) ?_
  have hcl : 1 ≤ rm_X1_ofSawSum.cells := (Nat.le_of_ble_eq_true rfl)
  have hsl : 2 ≤ rm_X1_ofSawSum.slots := (Nat.le_of_ble_eq_true rfl)
  refine lv_dup hx hb dX1_ofSawSum_3 rfl ?_
  refine lv_lload_n hx hb dX1_ofSawSum_4 rfl (lv_at hl 0 rfl) ?_
  refine lv_lload_n hx hb dX1_ofSawSum_5 rfl (lv_at hl 1 rfl) ?_
  obtain ⟨r3, qr3, h⟩ := gn_bd h
  refine pc_S (rest := [.ref q1, .ref q1]) ⟨hx, hb, hml, hown, hts⟩ hN (c_X5_twelfths l z _ _ r3 qr3) (va_cwS 2 hts gX1_ofSawSum_X5_twelfths rfl rfl rfl (by decide +kernel) ⟨(Nat.le_of_ble_eq_true rfl), (Nat.le_of_ble_eq_true rfl)⟩) rfl hl.1 rfl (Nat.le_of_ble_eq_true rfl) dX1_ofSawSum_6 hcl hsl ?_
  refine lv_ldc2 hx hb hown (hts (.constantLong RX1 25 (12)) (by decide +kernel)) dX1_ofSawSum_9 ?_
  refine lv_lload_n hx hb dX1_ofSawSum_12 rfl (lv_at hl 1 rfl) ?_
  refine lv_lmul hx hb dX1_ofSawSum_13 ?_
  obtain ⟨u4, qu4, h⟩ := gn_bd h
  refine fc_I (rest := [.ref q1]) ⟨hx, hb, hml, hown, hts⟩ hN hF hK hP hD hS (c_X1_init l z K _ M o (gpush g q1 (0, 0)) q1 (0, 0) gpush_in _ _ u4 qu4) (cwI 2 hts gX1_ofSawSum_X1_init rfl rfl rfl (hts (.initialized RX1) (by decide +kernel)) (hts (.methodLink RX1 27 yX1_init) (by decide +kernel)) (hts (.instanceMethod yX1_init) (by decide +kernel)) rfl (by decide +kernel) ⟨(Nat.le_of_ble_eq_true rfl), (Nat.le_of_ble_eq_true rfl)⟩) rfl hl.1 rfl (Nat.le_of_ble_eq_true rfl) dX1_ofSawSum_14 hcl hsl (fun H locs hP hD hS => ?_)
  obtain ⟨g5, eg5⟩ : ∃ y : Gh, y = gset (gpush g q1 (0, 0)) q1 u4 := ⟨_, rfl⟩
  have x6 : Ext g g5 := by rw [eg5]; exact gset_ext fq1
  have mu4 : q1 ∈ g5.2.1 ∧ g5.2.2 q1 = u4 := by rw [eg5]; exact gset_in gpush_in.1
  rw [← eg5] at hP hD
  have hz := Ext.mv x6 hz
  have hE := Ext.tr hE x6
  obtain rfl := gn_some h
  refine W.widen (k := 1) (n := 2) (Nat.le_of_ble_eq_true rfl) (Nat.le_of_ble_eq_true rfl) ?_
  exact W.aret hx hb hr (Or.inl ⟨_, rfl⟩) (Or.inr ⟨_, rfl⟩) (fun t ht _ => ⟨_, _, rfl, hE, mu4, trivial, by rw [ht]; exact hP, hD, hS.F ht⟩) hS.2.2 dX1_ofSawSum_17 hlk
theorem in_X1_sawOf_X1 : ∀ w ∈ wsX10, w ∈ wsX1_sawOf := fun _ h => List.mem_cons_of_mem _ (List.mem_append_right _ h)
def rm_X1_sawOf : Room := { frames := 3, cells := 1, slots := 2, locals := 86 }
section
variable {p : Program} {l : Launch} {e : Env} {s : State} {m : MethodId} {args : Array Value} {below : List Frame} {meth : Method} {c : Code} {z : Nat} {K : Ev} {C : CS} {M : MS} {o : Nat → Int64} {g : Gh}
end
set_option maxRecDepth 100000 in
theorem c_X1_sawOf (l : Launch) (z : Nat) (K : Ev) (C : CS) (M : MS) (o : Nat → Int64) (g : Gh) (hz : K.2.2.1 18 ∈ g.2.1 ∧ g.2.2 (K.2.2.1 18) = (0, 1)) (b0 : Nat) (u0 : Int64 × Int64) (mu0 : b0 ∈ g.2.1 ∧ g.2.2 b0 = u0) (r : (Int64 × Int64)) (h : F_X1_sawOf z u0 = some (r)) : Met l yX1_sawOf wsX1_sawOf rm_X1_sawOf (qH K [.ref b0] C M o g) (qF K r C M o g True) 1 2 (inA K) := by
  refine Met.ofW (cc := cX1_sawOf) (maxL := 1) (ret := (some (.object "SawSums$Fraction"))) (by decide) rfl ?_
  intro p e s m args below meth c s₁ B hml hv
  obtain ⟨rfl, hN, hP, hK, hD, hF⟩ := hv
  have hx := B.exec
  have hb := B.bytes
  have hr := B.returns
  have hts := atoms_spec (ws := wsX1_sawOf) B.pre
  have hown : s.vm.findClass RX1 = some m.cls := findClass_of_methodNamed B.named
  have hlk := B.notSynchronized
  have hbs := wd_bs hP hD
  have hE : Ext g g := Ext.rf
  have Cc : Cx p s m _ meth c cX1_sawOf 1 RX1 wsX1_sawOf (some (.object "SawSums$Fraction")) := ⟨hx, hb, hml, hown, hts, hr, hlk, hN⟩
  have hS : va_S (inA K) s.heap s.heap [] := va_S.rf
  have hl := lv_entry ([.ref b0]) (n := 1) (Nat.le_of_ble_eq_true rfl)
  rw [lg_entry_eq]
  generalize (lg_sl ([.ref b0]) ++ List.replicate (1 - (lg_sl ([.ref b0])).length) Slot.unset).toArray = ls at hl ⊢
  have hl : lv_has ls 1 [(0, .ref b0)] := hl
  rw [F_X1_sawOf] at h
  have hcl : 0 ≤ rm_X1_sawOf.cells := (Nat.le_of_ble_eq_true rfl)
  have hsl : 0 ≤ rm_X1_sawOf.slots := (Nat.le_of_ble_eq_true rfl)
  refine lv_aload_n hx hb dX1_sawOf_0 rfl (lv_at hl 0 rfl) ?_
  refine fr_get1 hx hb hts in_X1_sawOf_X1 hown hK hP mu0 (hts (.fieldLink RX1 19 "SawSums$Fraction" "lower" "J") (by decide +kernel)) dX1_sawOf_1 ?_
  refine lv_lconst (v := (1 : Int64)) hx hb dX1_sawOf_4 (by decide) ?_
  refine ll_gt (tgt := 19) hx hb dX1_sawOf_5 dX1_sawOf_6 (by decide) (fun c1 => ?_) (fun c1 => ?_)
  · have h := gn_t h c1
    refine fr_new hx hb hts in_X1_sawOf_X1 hown (hts (.classLink RX1 14 RX1) (by decide +kernel)) (hts (.instantiable RX1 2) (by decide +kernel)) (hts (.initialized RX1) (by decide +kernel)) hK hP hD hS hbs (Nat.le_of_ble_eq_true rfl) (Nat.le_of_ble_eq_true rfl) dX1_sawOf_19 (fun q2 H fq2 hP hD hS => ?_)
    have x3 := gpush_ext (v := ((0, 0) : Int64 × Int64)) fq2
    have mu0n := Ext.mv x3 mu0
    have hzn := Ext.mv x3 hz
    refine W.widen (k := 1) (n := 2) (Nat.le_of_ble_eq_true rfl) (Nat.le_of_ble_eq_true rfl) ?_
    have hcl : 1 ≤ rm_X1_sawOf.cells := (Nat.le_of_ble_eq_true rfl)
    have hsl : 2 ≤ rm_X1_sawOf.slots := (Nat.le_of_ble_eq_true rfl)
    refine lv_dup hx hb dX1_sawOf_22 rfl ?_
    refine lv_ldc2 hx hb hown (hts (.constantLong RX1 36 (2)) (by decide +kernel)) dX1_sawOf_23 ?_
    refine lv_aload_n hx hb dX1_sawOf_26 rfl (lv_at hl 0 rfl) ?_
    refine fr_get0 hx hb hts in_X1_sawOf_X1 hown hK hP mu0n (hts (.fieldLink RX1 13 "SawSums$Fraction" "upper" "J") (by decide +kernel)) dX1_sawOf_27 ?_
    refine lv_aload_n hx hb dX1_sawOf_30 rfl (lv_at hl 0 rfl) ?_
    refine fr_get1 hx hb hts in_X1_sawOf_X1 hown hK hP mu0n (hts (.fieldLink RX1 19 "SawSums$Fraction" "lower" "J") (by decide +kernel)) dX1_sawOf_31 ?_
    obtain ⟨r4, qr4, h⟩ := gn_bd h
    refine pc_S (rest := [.long (2 : Int64), .ref q2, .ref q2]) ⟨hx, hb, hml, hown, hts⟩ hN (c_J9_floorMod_f86c9 l z _ _ r4 qr4) (va_cwS 2 hts gX1_sawOf_J9_floorMod_f86c9 rfl rfl rfl (by decide +kernel) ⟨(Nat.le_of_ble_eq_true rfl), (Nat.le_of_ble_eq_true rfl)⟩) rfl hl.1 rfl (Nat.le_of_ble_eq_true rfl) dX1_sawOf_34 hcl hsl ?_
    refine lv_lmul hx hb dX1_sawOf_37 ?_
    refine lv_aload_n hx hb dX1_sawOf_38 rfl (lv_at hl 0 rfl) ?_
    refine fr_get1 hx hb hts in_X1_sawOf_X1 hown hK hP mu0n (hts (.fieldLink RX1 19 "SawSums$Fraction" "lower" "J") (by decide +kernel)) dX1_sawOf_39 ?_
    refine lv_lsub hx hb dX1_sawOf_42 ?_
    refine lv_ldc2 hx hb hown (hts (.constantLong RX1 36 (2)) (by decide +kernel)) dX1_sawOf_43 ?_
    refine lv_aload_n hx hb dX1_sawOf_46 rfl (lv_at hl 0 rfl) ?_
    refine fr_get1 hx hb hts in_X1_sawOf_X1 hown hK hP mu0n (hts (.fieldLink RX1 19 "SawSums$Fraction" "lower" "J") (by decide +kernel)) dX1_sawOf_47 ?_
    refine lv_lmul hx hb dX1_sawOf_50 ?_
    obtain ⟨u5, qu5, h⟩ := gn_bd h
    refine fc_I (rest := [.ref q2]) ⟨hx, hb, hml, hown, hts⟩ hN hF hK hP hD hS (c_X1_init l z K _ M o (gpush g q2 (0, 0)) q2 (0, 0) gpush_in _ _ u5 qu5) (cwI 2 hts gX1_sawOf_X1_init rfl rfl rfl (hts (.initialized RX1) (by decide +kernel)) (hts (.methodLink RX1 27 yX1_init) (by decide +kernel)) (hts (.instanceMethod yX1_init) (by decide +kernel)) rfl (by decide +kernel) ⟨(Nat.le_of_ble_eq_true rfl), (Nat.le_of_ble_eq_true rfl)⟩) rfl hl.1 rfl (Nat.le_of_ble_eq_true rfl) dX1_sawOf_51 hcl hsl (fun H locs hP hD hS => ?_)
    obtain ⟨g6, eg6⟩ : ∃ y : Gh, y = gset (gpush g q2 (0, 0)) q2 u5 := ⟨_, rfl⟩
    have x7 : Ext g g6 := by rw [eg6]; exact gset_ext fq2
    have mu5 : q2 ∈ g6.2.1 ∧ g6.2.2 q2 = u5 := by rw [eg6]; exact gset_in gpush_in.1
    rw [← eg6] at hP hD
    have mu0 := Ext.mv x7 mu0
    have hz := Ext.mv x7 hz
    have hE := Ext.tr hE x7
    obtain rfl := gn_some h
    refine W.widen (k := 1) (n := 2) (Nat.le_of_ble_eq_true rfl) (Nat.le_of_ble_eq_true rfl) ?_
    exact W.aret hx hb hr (Or.inl ⟨_, rfl⟩) (Or.inr ⟨_, rfl⟩) (fun t ht _ => ⟨_, _, rfl, hE, mu5, trivial, by rw [ht]; exact hP, hD, hS.F ht⟩) hS.2.2 dX1_sawOf_54 hlk
  · have h := gn_f h c1
    refine fr_new hx hb hts in_X1_sawOf_X1 hown (hts (.classLink RX1 14 RX1) (by decide +kernel)) (hts (.instantiable RX1 2) (by decide +kernel)) (hts (.initialized RX1) (by decide +kernel)) hK hP hD hS hbs (Nat.le_of_ble_eq_true rfl) (Nat.le_of_ble_eq_true rfl) dX1_sawOf_9 (fun q8 H fq8 hP hD hS => ?_)
    have x9 := gpush_ext (v := ((0, 0) : Int64 × Int64)) fq8
    have mu0n := Ext.mv x9 mu0
    have hzn := Ext.mv x9 hz
    refine W.widen (k := 1) (n := 2) (Nat.le_of_ble_eq_true rfl) (Nat.le_of_ble_eq_true rfl) ?_
    have hcl : 1 ≤ rm_X1_sawOf.cells := (Nat.le_of_ble_eq_true rfl)
    have hsl : 2 ≤ rm_X1_sawOf.slots := (Nat.le_of_ble_eq_true rfl)
    refine lv_dup hx hb dX1_sawOf_12 rfl ?_
    refine lv_lconst (v := (0 : Int64)) hx hb dX1_sawOf_13 (by decide) ?_
    refine lv_lconst (v := (1 : Int64)) hx hb dX1_sawOf_14 (by decide) ?_
    obtain ⟨u10, qu10, h⟩ := gn_bd h
    refine fc_I (rest := [.ref q8]) ⟨hx, hb, hml, hown, hts⟩ hN hF hK hP hD hS (c_X1_init l z K _ M o (gpush g q8 (0, 0)) q8 (0, 0) gpush_in _ _ u10 qu10) (cwI 2 hts gX1_sawOf_X1_init rfl rfl rfl (hts (.initialized RX1) (by decide +kernel)) (hts (.methodLink RX1 27 yX1_init) (by decide +kernel)) (hts (.instanceMethod yX1_init) (by decide +kernel)) rfl (by decide +kernel) ⟨(Nat.le_of_ble_eq_true rfl), (Nat.le_of_ble_eq_true rfl)⟩) rfl hl.1 rfl (Nat.le_of_ble_eq_true rfl) dX1_sawOf_15 hcl hsl (fun H locs hP hD hS => ?_)
    obtain ⟨g11, eg11⟩ : ∃ y : Gh, y = gset (gpush g q8 (0, 0)) q8 u10 := ⟨_, rfl⟩
    have x12 : Ext g g11 := by rw [eg11]; exact gset_ext fq8
    have mu10 : q8 ∈ g11.2.1 ∧ g11.2.2 q8 = u10 := by rw [eg11]; exact gset_in gpush_in.1
    rw [← eg11] at hP hD
    have mu0 := Ext.mv x12 mu0
    have hz := Ext.mv x12 hz
    have hE := Ext.tr hE x12
    obtain rfl := gn_some h
    refine W.widen (k := 1) (n := 2) (Nat.le_of_ble_eq_true rfl) (Nat.le_of_ble_eq_true rfl) ?_
    exact W.aret hx hb hr (Or.inl ⟨_, rfl⟩) (Or.inr ⟨_, rfl⟩) (fun t ht _ => ⟨_, _, rfl, hE, mu10, trivial, by rw [ht]; exact hP, hD, hS.F ht⟩) hS.2.2 dX1_sawOf_18 hlk
theorem in_X1_opposite_X1 : ∀ w ∈ wsX10, w ∈ wsX1_opposite := fun _ h => List.mem_cons_of_mem _ (List.mem_append_right _ h)
def rm_X1_opposite : Room := { frames := 3, cells := 1, slots := 2, locals := 86 }
section
variable {p : Program} {l : Launch} {e : Env} {s : State} {m : MethodId} {args : Array Value} {below : List Frame} {meth : Method} {c : Code} {z : Nat} {K : Ev} {C : CS} {M : MS} {o : Nat → Int64} {g : Gh}
end
set_option maxRecDepth 100000 in
theorem c_X1_opposite (l : Launch) (z : Nat) (K : Ev) (C : CS) (M : MS) (o : Nat → Int64) (g : Gh) (hz : K.2.2.1 18 ∈ g.2.1 ∧ g.2.2 (K.2.2.1 18) = (0, 1)) (b0 : Nat) (u0 : Int64 × Int64) (mu0 : b0 ∈ g.2.1 ∧ g.2.2 b0 = u0) (r : (Int64 × Int64)) (h : F_X1_opposite z u0 = some (r)) : Met l yX1_opposite wsX1_opposite rm_X1_opposite (qH K [.ref b0] C M o g) (qF K r C M o g True) 1 2 (inA K) := by
  refine Met.ofW (cc := cX1_opposite) (maxL := 1) (ret := (some (.object "SawSums$Fraction"))) (by decide) rfl ?_
  intro p e s m args below meth c s₁ B hml hv
  obtain ⟨rfl, hN, hP, hK, hD, hF⟩ := hv
  have hx := B.exec
  have hb := B.bytes
  have hr := B.returns
  have hts := atoms_spec (ws := wsX1_opposite) B.pre
  have hown : s.vm.findClass RX1 = some m.cls := findClass_of_methodNamed B.named
  have hlk := B.notSynchronized
  have hbs := wd_bs hP hD
  have hE : Ext g g := Ext.rf
  have Cc : Cx p s m _ meth c cX1_opposite 1 RX1 wsX1_opposite (some (.object "SawSums$Fraction")) := ⟨hx, hb, hml, hown, hts, hr, hlk, hN⟩
  have hS : va_S (inA K) s.heap s.heap [] := va_S.rf
  have hl := lv_entry ([.ref b0]) (n := 1) (Nat.le_of_ble_eq_true rfl)
  rw [lg_entry_eq]
  generalize (lg_sl ([.ref b0]) ++ List.replicate (1 - (lg_sl ([.ref b0])).length) Slot.unset).toArray = ls at hl ⊢
  have hl : lv_has ls 1 [(0, .ref b0)] := hl
  rw [F_X1_opposite] at h
  have hcl : 0 ≤ rm_X1_opposite.cells := (Nat.le_of_ble_eq_true rfl)
  have hsl : 0 ≤ rm_X1_opposite.slots := (Nat.le_of_ble_eq_true rfl)
  refine fr_new hx hb hts in_X1_opposite_X1 hown (hts (.classLink RX1 14 RX1) (by decide +kernel)) (hts (.instantiable RX1 2) (by decide +kernel)) (hts (.initialized RX1) (by decide +kernel)) hK hP hD hS hbs (Nat.le_of_ble_eq_true rfl) (Nat.le_of_ble_eq_true rfl) dX1_opposite_0 (fun q1 H fq1 hP hD hS => ?_)
  have x2 := gpush_ext (v := ((0, 0) : Int64 × Int64)) fq1
  have mu0n := Ext.mv x2 mu0
  have hzn := Ext.mv x2 hz
  refine W.widen (k := 1) (n := 2) (Nat.le_of_ble_eq_true rfl) (Nat.le_of_ble_eq_true rfl) ?_
  have hcl : 1 ≤ rm_X1_opposite.cells := (Nat.le_of_ble_eq_true rfl)
  have hsl : 2 ≤ rm_X1_opposite.slots := (Nat.le_of_ble_eq_true rfl)
  refine lv_dup hx hb dX1_opposite_3 rfl ?_
  refine lv_aload_n hx hb dX1_opposite_4 rfl (lv_at hl 0 rfl) ?_
  refine fr_get0 hx hb hts in_X1_opposite_X1 hown hK hP mu0n (hts (.fieldLink RX1 13 "SawSums$Fraction" "upper" "J") (by decide +kernel)) dX1_opposite_5 ?_
  refine lv_lneg hx hb dX1_opposite_8 ?_
  refine lv_aload_n hx hb dX1_opposite_9 rfl (lv_at hl 0 rfl) ?_
  refine fr_get1 hx hb hts in_X1_opposite_X1 hown hK hP mu0n (hts (.fieldLink RX1 19 "SawSums$Fraction" "lower" "J") (by decide +kernel)) dX1_opposite_10 ?_
  obtain ⟨u3, qu3, h⟩ := gn_bd h
  refine fc_I (rest := [.ref q1]) ⟨hx, hb, hml, hown, hts⟩ hN hF hK hP hD hS (c_X1_init l z K _ M o (gpush g q1 (0, 0)) q1 (0, 0) gpush_in _ _ u3 qu3) (cwI 2 hts gX1_opposite_X1_init rfl rfl rfl (hts (.initialized RX1) (by decide +kernel)) (hts (.methodLink RX1 27 yX1_init) (by decide +kernel)) (hts (.instanceMethod yX1_init) (by decide +kernel)) rfl (by decide +kernel) ⟨(Nat.le_of_ble_eq_true rfl), (Nat.le_of_ble_eq_true rfl)⟩) rfl hl.1 rfl (Nat.le_of_ble_eq_true rfl) dX1_opposite_13 hcl hsl (fun H locs hP hD hS => ?_)
  obtain ⟨g4, eg4⟩ : ∃ y : Gh, y = gset (gpush g q1 (0, 0)) q1 u3 := ⟨_, rfl⟩
  have x5 : Ext g g4 := by rw [eg4]; exact gset_ext fq1
  have mu3 : q1 ∈ g4.2.1 ∧ g4.2.2 q1 = u3 := by rw [eg4]; exact gset_in gpush_in.1
  rw [← eg4] at hP hD
  have mu0 := Ext.mv x5 mu0
  have hz := Ext.mv x5 hz
  have hE := Ext.tr hE x5
  obtain rfl := gn_some h
  refine W.widen (k := 1) (n := 2) (Nat.le_of_ble_eq_true rfl) (Nat.le_of_ble_eq_true rfl) ?_
  exact W.aret hx hb hr (Or.inl ⟨_, rfl⟩) (Or.inr ⟨_, rfl⟩) (fun t ht _ => ⟨_, _, rfl, hE, mu3, trivial, by rw [ht]; exact hP, hD, hS.F ht⟩) hS.2.2 dX1_opposite_16 hlk
theorem in_X1_plus_X1 : ∀ w ∈ wsX10, w ∈ wsX1_plus := fun _ h => List.mem_cons_of_mem _ (List.mem_append_right _ h)
def rm_X1_plus : Room := { frames := 3, cells := 1, slots := 2, locals := 86 }
section
variable {p : Program} {l : Launch} {e : Env} {s : State} {m : MethodId} {args : Array Value} {below : List Frame} {meth : Method} {c : Code} {z : Nat} {K : Ev} {C : CS} {M : MS} {o : Nat → Int64} {g : Gh}
end
set_option maxRecDepth 100000 in
theorem c_X1_plus (l : Launch) (z : Nat) (K : Ev) (C : CS) (M : MS) (o : Nat → Int64) (g : Gh) (hz : K.2.2.1 18 ∈ g.2.1 ∧ g.2.2 (K.2.2.1 18) = (0, 1)) (b0 : Nat) (u0 : Int64 × Int64) (mu0 : b0 ∈ g.2.1 ∧ g.2.2 b0 = u0) (d0 : Nat) (w0 : Int64 × Int64) (mw0 : d0 ∈ g.2.1 ∧ g.2.2 d0 = w0) (r : (Int64 × Int64)) (h : F_X1_plus z u0 w0 = some (r)) : Met l yX1_plus wsX1_plus rm_X1_plus (qH K [.ref b0, .ref d0] C M o g) (qF K r C M o g True) 1 2 (inA K) := by
  refine Met.ofW (cc := cX1_plus) (maxL := 2) (ret := (some (.object "SawSums$Fraction"))) (by decide) rfl ?_
  intro p e s m args below meth c s₁ B hml hv
  obtain ⟨rfl, hN, hP, hK, hD, hF⟩ := hv
  have hx := B.exec
  have hb := B.bytes
  have hr := B.returns
  have hts := atoms_spec (ws := wsX1_plus) B.pre
  have hown : s.vm.findClass RX1 = some m.cls := findClass_of_methodNamed B.named
  have hlk := B.notSynchronized
  have hbs := wd_bs hP hD
  have hE : Ext g g := Ext.rf
  have Cc : Cx p s m _ meth c cX1_plus 2 RX1 wsX1_plus (some (.object "SawSums$Fraction")) := ⟨hx, hb, hml, hown, hts, hr, hlk, hN⟩
  have hS : va_S (inA K) s.heap s.heap [] := va_S.rf
  have hl := lv_entry ([.ref b0, .ref d0]) (n := 2) (Nat.le_of_ble_eq_true rfl)
  rw [lg_entry_eq]
  generalize (lg_sl ([.ref b0, .ref d0]) ++ List.replicate (2 - (lg_sl ([.ref b0, .ref d0])).length) Slot.unset).toArray = ls at hl ⊢
  have hl : lv_has ls 2 [(0, .ref b0), (1, .ref d0)] := hl
  rw [F_X1_plus] at h
  have hcl : 0 ≤ rm_X1_plus.cells := (Nat.le_of_ble_eq_true rfl)
  have hsl : 0 ≤ rm_X1_plus.slots := (Nat.le_of_ble_eq_true rfl)
  refine fr_new hx hb hts in_X1_plus_X1 hown (hts (.classLink RX1 14 RX1) (by decide +kernel)) (hts (.instantiable RX1 2) (by decide +kernel)) (hts (.initialized RX1) (by decide +kernel)) hK hP hD hS hbs (Nat.le_of_ble_eq_true rfl) (Nat.le_of_ble_eq_true rfl) dX1_plus_0 (fun q1 H fq1 hP hD hS => ?_)
  have x2 := gpush_ext (v := ((0, 0) : Int64 × Int64)) fq1
  have mu0n := Ext.mv x2 mu0
  have mw0n := Ext.mv x2 mw0
  have hzn := Ext.mv x2 hz
  refine W.widen (k := 1) (n := 2) (Nat.le_of_ble_eq_true rfl) (Nat.le_of_ble_eq_true rfl) ?_
  have hcl : 1 ≤ rm_X1_plus.cells := (Nat.le_of_ble_eq_true rfl)
  have hsl : 2 ≤ rm_X1_plus.slots := (Nat.le_of_ble_eq_true rfl)
  refine lv_dup hx hb dX1_plus_3 rfl ?_
  refine lv_aload_n hx hb dX1_plus_4 rfl (lv_at hl 0 rfl) ?_
  refine fr_get0 hx hb hts in_X1_plus_X1 hown hK hP mu0n (hts (.fieldLink RX1 13 "SawSums$Fraction" "upper" "J") (by decide +kernel)) dX1_plus_5 ?_
  refine lv_aload_n hx hb dX1_plus_8 rfl (lv_at hl 1 rfl) ?_
  refine fr_get1 hx hb hts in_X1_plus_X1 hown hK hP mw0n (hts (.fieldLink RX1 19 "SawSums$Fraction" "lower" "J") (by decide +kernel)) dX1_plus_9 ?_
  refine lv_lmul hx hb dX1_plus_12 ?_
  refine lv_aload_n hx hb dX1_plus_13 rfl (lv_at hl 1 rfl) ?_
  refine fr_get0 hx hb hts in_X1_plus_X1 hown hK hP mw0n (hts (.fieldLink RX1 13 "SawSums$Fraction" "upper" "J") (by decide +kernel)) dX1_plus_14 ?_
  refine lv_aload_n hx hb dX1_plus_17 rfl (lv_at hl 0 rfl) ?_
  refine fr_get1 hx hb hts in_X1_plus_X1 hown hK hP mu0n (hts (.fieldLink RX1 19 "SawSums$Fraction" "lower" "J") (by decide +kernel)) dX1_plus_18 ?_
  refine lv_lmul hx hb dX1_plus_21 ?_
  refine lv_ladd hx hb dX1_plus_22 ?_
  refine lv_aload_n hx hb dX1_plus_23 rfl (lv_at hl 0 rfl) ?_
  refine fr_get1 hx hb hts in_X1_plus_X1 hown hK hP mu0n (hts (.fieldLink RX1 19 "SawSums$Fraction" "lower" "J") (by decide +kernel)) dX1_plus_24 ?_
  refine lv_aload_n hx hb dX1_plus_27 rfl (lv_at hl 1 rfl) ?_
  refine fr_get1 hx hb hts in_X1_plus_X1 hown hK hP mw0n (hts (.fieldLink RX1 19 "SawSums$Fraction" "lower" "J") (by decide +kernel)) dX1_plus_28 ?_
  refine lv_lmul hx hb dX1_plus_31 ?_
  obtain ⟨u3, qu3, h⟩ := gn_bd h
  refine fc_I (rest := [.ref q1]) ⟨hx, hb, hml, hown, hts⟩ hN hF hK hP hD hS (c_X1_init l z K _ M o (gpush g q1 (0, 0)) q1 (0, 0) gpush_in _ _ u3 qu3) (cwI 2 hts gX1_plus_X1_init rfl rfl rfl (hts (.initialized RX1) (by decide +kernel)) (hts (.methodLink RX1 27 yX1_init) (by decide +kernel)) (hts (.instanceMethod yX1_init) (by decide +kernel)) rfl (by decide +kernel) ⟨(Nat.le_of_ble_eq_true rfl), (Nat.le_of_ble_eq_true rfl)⟩) rfl hl.1 rfl (Nat.le_of_ble_eq_true rfl) dX1_plus_32 hcl hsl (fun H locs hP hD hS => ?_)
  obtain ⟨g4, eg4⟩ : ∃ y : Gh, y = gset (gpush g q1 (0, 0)) q1 u3 := ⟨_, rfl⟩
  have x5 : Ext g g4 := by rw [eg4]; exact gset_ext fq1
  have mu3 : q1 ∈ g4.2.1 ∧ g4.2.2 q1 = u3 := by rw [eg4]; exact gset_in gpush_in.1
  rw [← eg4] at hP hD
  have mu0 := Ext.mv x5 mu0
  have mw0 := Ext.mv x5 mw0
  have hz := Ext.mv x5 hz
  have hE := Ext.tr hE x5
  obtain rfl := gn_some h
  refine W.widen (k := 1) (n := 2) (Nat.le_of_ble_eq_true rfl) (Nat.le_of_ble_eq_true rfl) ?_
  exact W.aret hx hb hr (Or.inl ⟨_, rfl⟩) (Or.inr ⟨_, rfl⟩) (fun t ht _ => ⟨_, _, rfl, hE, mu3, trivial, by rw [ht]; exact hP, hD, hS.F ht⟩) hS.2.2 dX1_plus_35 hlk
theorem in_X1_product_X1 : ∀ w ∈ wsX10, w ∈ wsX1_product := fun _ h => List.mem_cons_of_mem _ (List.mem_append_right _ h)
def rm_X1_product : Room := { frames := 3, cells := 1, slots := 2, locals := 86 }
section
variable {p : Program} {l : Launch} {e : Env} {s : State} {m : MethodId} {args : Array Value} {below : List Frame} {meth : Method} {c : Code} {z : Nat} {K : Ev} {C : CS} {M : MS} {o : Nat → Int64} {g : Gh}
end
set_option maxRecDepth 100000 in
theorem c_X1_product (l : Launch) (z : Nat) (K : Ev) (C : CS) (M : MS) (o : Nat → Int64) (g : Gh) (hz : K.2.2.1 18 ∈ g.2.1 ∧ g.2.2 (K.2.2.1 18) = (0, 1)) (b0 : Nat) (u0 : Int64 × Int64) (mu0 : b0 ∈ g.2.1 ∧ g.2.2 b0 = u0) (d0 : Nat) (w0 : Int64 × Int64) (mw0 : d0 ∈ g.2.1 ∧ g.2.2 d0 = w0) (r : (Int64 × Int64)) (h : F_X1_product z u0 w0 = some (r)) : Met l yX1_product wsX1_product rm_X1_product (qH K [.ref b0, .ref d0] C M o g) (qF K r C M o g True) 1 2 (inA K) := by
  refine Met.ofW (cc := cX1_product) (maxL := 2) (ret := (some (.object "SawSums$Fraction"))) (by decide) rfl ?_
  intro p e s m args below meth c s₁ B hml hv
  obtain ⟨rfl, hN, hP, hK, hD, hF⟩ := hv
  have hx := B.exec
  have hb := B.bytes
  have hr := B.returns
  have hts := atoms_spec (ws := wsX1_product) B.pre
  have hown : s.vm.findClass RX1 = some m.cls := findClass_of_methodNamed B.named
  have hlk := B.notSynchronized
  have hbs := wd_bs hP hD
  have hE : Ext g g := Ext.rf
  have Cc : Cx p s m _ meth c cX1_product 2 RX1 wsX1_product (some (.object "SawSums$Fraction")) := ⟨hx, hb, hml, hown, hts, hr, hlk, hN⟩
  have hS : va_S (inA K) s.heap s.heap [] := va_S.rf
  have hl := lv_entry ([.ref b0, .ref d0]) (n := 2) (Nat.le_of_ble_eq_true rfl)
  rw [lg_entry_eq]
  generalize (lg_sl ([.ref b0, .ref d0]) ++ List.replicate (2 - (lg_sl ([.ref b0, .ref d0])).length) Slot.unset).toArray = ls at hl ⊢
  have hl : lv_has ls 2 [(0, .ref b0), (1, .ref d0)] := hl
  rw [F_X1_product] at h
  have hcl : 0 ≤ rm_X1_product.cells := (Nat.le_of_ble_eq_true rfl)
  have hsl : 0 ≤ rm_X1_product.slots := (Nat.le_of_ble_eq_true rfl)
  refine fr_new hx hb hts in_X1_product_X1 hown (hts (.classLink RX1 14 RX1) (by decide +kernel)) (hts (.instantiable RX1 2) (by decide +kernel)) (hts (.initialized RX1) (by decide +kernel)) hK hP hD hS hbs (Nat.le_of_ble_eq_true rfl) (Nat.le_of_ble_eq_true rfl) dX1_product_0 (fun q1 H fq1 hP hD hS => ?_)
  have x2 := gpush_ext (v := ((0, 0) : Int64 × Int64)) fq1
  have mu0n := Ext.mv x2 mu0
  have mw0n := Ext.mv x2 mw0
  have hzn := Ext.mv x2 hz
  refine W.widen (k := 1) (n := 2) (Nat.le_of_ble_eq_true rfl) (Nat.le_of_ble_eq_true rfl) ?_
  have hcl : 1 ≤ rm_X1_product.cells := (Nat.le_of_ble_eq_true rfl)
  have hsl : 2 ≤ rm_X1_product.slots := (Nat.le_of_ble_eq_true rfl)
  refine lv_dup hx hb dX1_product_3 rfl ?_
  refine lv_aload_n hx hb dX1_product_4 rfl (lv_at hl 0 rfl) ?_
  refine fr_get0 hx hb hts in_X1_product_X1 hown hK hP mu0n (hts (.fieldLink RX1 13 "SawSums$Fraction" "upper" "J") (by decide +kernel)) dX1_product_5 ?_
  refine lv_aload_n hx hb dX1_product_8 rfl (lv_at hl 1 rfl) ?_
  refine fr_get0 hx hb hts in_X1_product_X1 hown hK hP mw0n (hts (.fieldLink RX1 13 "SawSums$Fraction" "upper" "J") (by decide +kernel)) dX1_product_9 ?_
  refine lv_lmul hx hb dX1_product_12 ?_
  refine lv_aload_n hx hb dX1_product_13 rfl (lv_at hl 0 rfl) ?_
  refine fr_get1 hx hb hts in_X1_product_X1 hown hK hP mu0n (hts (.fieldLink RX1 19 "SawSums$Fraction" "lower" "J") (by decide +kernel)) dX1_product_14 ?_
  refine lv_aload_n hx hb dX1_product_17 rfl (lv_at hl 1 rfl) ?_
  refine fr_get1 hx hb hts in_X1_product_X1 hown hK hP mw0n (hts (.fieldLink RX1 19 "SawSums$Fraction" "lower" "J") (by decide +kernel)) dX1_product_18 ?_
  refine lv_lmul hx hb dX1_product_21 ?_
  obtain ⟨u3, qu3, h⟩ := gn_bd h
  refine fc_I (rest := [.ref q1]) ⟨hx, hb, hml, hown, hts⟩ hN hF hK hP hD hS (c_X1_init l z K _ M o (gpush g q1 (0, 0)) q1 (0, 0) gpush_in _ _ u3 qu3) (cwI 2 hts gX1_product_X1_init rfl rfl rfl (hts (.initialized RX1) (by decide +kernel)) (hts (.methodLink RX1 27 yX1_init) (by decide +kernel)) (hts (.instanceMethod yX1_init) (by decide +kernel)) rfl (by decide +kernel) ⟨(Nat.le_of_ble_eq_true rfl), (Nat.le_of_ble_eq_true rfl)⟩) rfl hl.1 rfl (Nat.le_of_ble_eq_true rfl) dX1_product_22 hcl hsl (fun H locs hP hD hS => ?_)
  obtain ⟨g4, eg4⟩ : ∃ y : Gh, y = gset (gpush g q1 (0, 0)) q1 u3 := ⟨_, rfl⟩
  have x5 : Ext g g4 := by rw [eg4]; exact gset_ext fq1
  have mu3 : q1 ∈ g4.2.1 ∧ g4.2.2 q1 = u3 := by rw [eg4]; exact gset_in gpush_in.1
  rw [← eg4] at hP hD
  have mu0 := Ext.mv x5 mu0
  have mw0 := Ext.mv x5 mw0
  have hz := Ext.mv x5 hz
  have hE := Ext.tr hE x5
  obtain rfl := gn_some h
  refine W.widen (k := 1) (n := 2) (Nat.le_of_ble_eq_true rfl) (Nat.le_of_ble_eq_true rfl) ?_
  exact W.aret hx hb hr (Or.inl ⟨_, rfl⟩) (Or.inr ⟨_, rfl⟩) (fun t ht _ => ⟨_, _, rfl, hE, mu3, trivial, by rw [ht]; exact hP, hD, hS.F ht⟩) hS.2.2 dX1_product_25 hlk
theorem in_X6_saw_X1 : ∀ w ∈ wsX10, w ∈ wsX6_saw := fun _ h => List.mem_cons_of_mem _ (List.mem_append_right _ h)
def rm_X6_saw : Room := { frames := 4, cells := 2, slots := 4, locals := 106 }
section
variable {p : Program} {l : Launch} {e : Env} {s : State} {m : MethodId} {args : Array Value} {below : List Frame} {meth : Method} {c : Code} {z : Nat} {K : Ev} {C : CS} {M : MS} {o : Nat → Int64} {g : Gh}
end
set_option maxRecDepth 100000 in
theorem c_X6_saw (l : Launch) (z : Nat) (K : Ev) (C : CS) (M : MS) (o : Nat → Int64) (g : Gh) (hz : K.2.2.1 18 ∈ g.2.1 ∧ g.2.2 (K.2.2.1 18) = (0, 1)) (a0 : Int32) (a1 : Int32) (a2 : Int32) (r : Int64) (h : F_X6_saw z a0 a1 a2 = some (r)) : Met l yX6_saw wsX6_saw rm_X6_saw (qH K [.ref (K.2.2.1 0), .int a0, .int a1, .int a2] C M o g) (qN K (some (.long r)) C M o g True) 2 4 (inA K) := by
  refine Met.ofW (cc := cX6_saw) (maxL := 4) (ret := (some .long)) (by decide) rfl ?_
  intro p e s m args below meth c s₁ B hml hv
  obtain ⟨rfl, hN, hP, hK, hD, hF⟩ := hv
  have hx := B.exec
  have hb := B.bytes
  have hr := B.returns
  have hts := atoms_spec (ws := wsX6_saw) B.pre
  have hown : s.vm.findClass RX6 = some m.cls := findClass_of_methodNamed B.named
  have hlk := B.notSynchronized
  have hbs := wd_bs hP hD
  have hE : Ext g g := Ext.rf
  have Cc : Cx p s m _ meth c cX6_saw 4 RX6 wsX6_saw (some .long) := ⟨hx, hb, hml, hown, hts, hr, hlk, hN⟩
  have hS : va_S (inA K) s.heap s.heap [] := va_S.rf
  have hl := lv_entry ([.ref (K.2.2.1 0), .int a0, .int a1, .int a2]) (n := 4) (Nat.le_of_ble_eq_true rfl)
  rw [lg_entry_eq]
  generalize (lg_sl ([.ref (K.2.2.1 0), .int a0, .int a1, .int a2]) ++ List.replicate (4 - (lg_sl ([.ref (K.2.2.1 0), .int a0, .int a1, .int a2])).length) Slot.unset).toArray = ls at hl ⊢
  have hl : lv_has ls 4 [(0, .ref (K.2.2.1 0)), (1, .int a0), (2, .int a1), (3, .int a2)] := hl
  rw [F_X6_saw] at h
  have hcl : 0 ≤ rm_X6_saw.cells := (Nat.le_of_ble_eq_true rfl)
  have hsl : 0 ≤ rm_X6_saw.slots := (Nat.le_of_ble_eq_true rfl)
  refine lv_iload_n hx hb dX6_saw_0 rfl (lv_at hl 1 rfl) ?_
  refine lv_i2l hx hb dX6_saw_1 rfl ?_
  refine lv_ldc2 hx hb hown (hts (.constantLong RX6 59 (-1000000000)) (by decide +kernel)) dX6_saw_2 ?_
  refine lv_ldc2 hx hb hown (hts (.constantLong RX6 61 (1000000000)) (by decide +kernel)) dX6_saw_5 ?_
  obtain ⟨r1, qr1, h⟩ := gn_bd h
  refine pc_S (rest := []) ⟨hx, hb, hml, hown, hts⟩ hN (c_X6_lies l z _ _ _ r1 qr1) (va_cwS 3 hts gX6_saw_X6_lies rfl rfl rfl (by decide +kernel) ⟨(Nat.le_of_ble_eq_true rfl), (Nat.le_of_ble_eq_true rfl)⟩) rfl hl.1 rfl (Nat.le_of_ble_eq_true rfl) dX6_saw_8 hcl hsl ?_
  refine lv_if_eq (tgt := 32) hx hb dX6_saw_11 (by decide) (fun c2 => ?_) (fun c2 => ?_)
  · have h := gn_t h c2
    refine lv_ldc2 hx hb hown (hts (.constantLong RX6 67 (-4000000000000000000)) (by decide +kernel)) dX6_saw_32 ?_
    obtain rfl := gn_some h
    refine W.widen (k := 2) (n := 4) (Nat.le_of_ble_eq_true rfl) (Nat.le_of_ble_eq_true rfl) ?_
    exact W.lret hx hb hr (fun t ht _ => ⟨_, rfl, hE, trivial, by rw [ht]; exact hP, hD, hS.F ht⟩) hS.2.2 dX6_saw_35 hlk
  · have h := gn_f h c2
    refine lv_iload_n hx hb dX6_saw_14 rfl (lv_at hl 2 rfl) ?_
    refine lv_i2l hx hb dX6_saw_15 rfl ?_
    refine lv_ldc2 hx hb hown (hts (.constantLong RX6 59 (-1000000000)) (by decide +kernel)) dX6_saw_16 ?_
    refine lv_ldc2 hx hb hown (hts (.constantLong RX6 61 (1000000000)) (by decide +kernel)) dX6_saw_19 ?_
    obtain ⟨r3, qr3, h⟩ := gn_bd h
    refine pc_S (rest := []) ⟨hx, hb, hml, hown, hts⟩ hN (c_X6_lies l z _ _ _ r3 qr3) (va_cwS 3 hts gX6_saw_X6_lies rfl rfl rfl (by decide +kernel) ⟨(Nat.le_of_ble_eq_true rfl), (Nat.le_of_ble_eq_true rfl)⟩) rfl hl.1 rfl (Nat.le_of_ble_eq_true rfl) dX6_saw_22 hcl hsl ?_
    refine lv_if_eq (tgt := 32) hx hb dX6_saw_25 (by decide) (fun c4 => ?_) (fun c4 => ?_)
    · have h := gn_t h c4
      refine lv_ldc2 hx hb hown (hts (.constantLong RX6 67 (-4000000000000000000)) (by decide +kernel)) dX6_saw_32 ?_
      obtain rfl := gn_some h
      refine W.widen (k := 2) (n := 4) (Nat.le_of_ble_eq_true rfl) (Nat.le_of_ble_eq_true rfl) ?_
      exact W.lret hx hb hr (fun t ht _ => ⟨_, rfl, hE, trivial, by rw [ht]; exact hP, hD, hS.F ht⟩) hS.2.2 dX6_saw_35 hlk
    · have h := gn_f h c4
      refine lv_iload_n hx hb dX6_saw_28 rfl (lv_at hl 2 rfl) ?_
      refine lv_if_ne (tgt := 36) hx hb dX6_saw_29 (by decide) (fun c5 => ?_) (fun c5 => ?_)
      · have h := gn_f h c5
        refine fr_new hx hb hts in_X6_saw_X1 hown (hts (.classLink RX6 44 RX1) (by decide +kernel)) (hts (.instantiable RX1 2) (by decide +kernel)) (hts (.initialized RX1) (by decide +kernel)) hK hP hD hS hbs (Nat.le_of_ble_eq_true rfl) (Nat.le_of_ble_eq_true rfl) dX6_saw_36 (fun q6 H fq6 hP hD hS => ?_)
        have x7 := gpush_ext (v := ((0, 0) : Int64 × Int64)) fq6
        have hzn := Ext.mv x7 hz
        refine W.widen (k := 1) (n := 2) (Nat.le_of_ble_eq_true rfl) (Nat.le_of_ble_eq_true rfl) ?_
        have hcl : 1 ≤ rm_X6_saw.cells := (Nat.le_of_ble_eq_true rfl)
        have hsl : 2 ≤ rm_X6_saw.slots := (Nat.le_of_ble_eq_true rfl)
        refine lv_dup hx hb dX6_saw_39 rfl ?_
        refine lv_iload_n hx hb dX6_saw_40 rfl (lv_at hl 2 rfl) ?_
        refine lv_if_ge (tgt := 50) hx hb dX6_saw_41 (by decide) (fun c8 => ?_) (fun c8 => ?_)
        · have h := gn_t h c8
          refine lv_iload_n hx hb dX6_saw_50 rfl (lv_at hl 1 rfl) ?_
          refine lv_i2l hx hb dX6_saw_51 rfl ?_
          refine lv_iload_n hx hb dX6_saw_52 rfl (lv_at hl 2 rfl) ?_
          refine va_mabs hx hb (hml.trans hl.1.symm) hown (hts (.methodLink RX6 69 Lib.Math.abs.name) (by decide +kernel)) (hts (.static Lib.Math.abs.name) (by decide +kernel)) (hts (.initialized "java/lang/Math") (by decide +kernel)) (hts (.code Lib.Math.abs.name Lib.Math.abs.code 1 (some .int)) (by decide +kernel)) (Nat.le_of_ble_eq_true rfl) (Nat.le_of_ble_eq_true rfl) hcl hsl dX6_saw_53 ?_
          refine lv_i2l hx hb dX6_saw_56 rfl ?_
          obtain ⟨u9, qu9, h⟩ := gn_bd h
          refine fc_I (rest := [.ref q6]) ⟨hx, hb, hml, hown, hts⟩ hN hF hK hP hD hS (c_X1_init l z K _ M o (gpush g q6 (0, 0)) q6 (0, 0) gpush_in _ _ u9 qu9) (cwI 2 hts gX6_saw_X1_init rfl rfl rfl (hts (.initialized RX1) (by decide +kernel)) (hts (.methodLink RX6 46 yX1_init) (by decide +kernel)) (hts (.instanceMethod yX1_init) (by decide +kernel)) rfl (by decide +kernel) ⟨(Nat.le_of_ble_eq_true rfl), (Nat.le_of_ble_eq_true rfl)⟩) rfl hl.1 rfl (Nat.le_of_ble_eq_true rfl) dX6_saw_57 hcl hsl (fun H locs hP hD hS => ?_)
          obtain ⟨g10, eg10⟩ : ∃ y : Gh, y = gset (gpush g q6 (0, 0)) q6 u9 := ⟨_, rfl⟩
          have x11 : Ext g g10 := by rw [eg10]; exact gset_ext fq6
          have mu9 : q6 ∈ g10.2.1 ∧ g10.2.2 q6 = u9 := by rw [eg10]; exact gset_in gpush_in.1
          rw [← eg10] at hP hD
          have hz := Ext.mv x11 hz
          have hE := Ext.tr hE x11
          obtain ⟨u12, qu12, h⟩ := gn_bd h
          refine fc_V (rest := []) ⟨hx, hb, hml, hown, hts⟩ hN hF hK hP hD hS (c_X1_sawOf l z K _ M o g10 hz q6 u9 mu9 u12 qu12) (cwV 0 hts gX6_saw_X1_sawOf rfl rfl rfl (by decide +kernel) ⟨(Nat.le_of_ble_eq_true rfl), (Nat.le_of_ble_eq_true rfl)⟩) (fr_recv hK hP mu9) rfl hl.1 rfl (Nat.le_of_ble_eq_true rfl) dX6_saw_60 ⟨(Nat.le_of_ble_eq_true rfl), (Nat.le_of_ble_eq_true rfl)⟩ (fun bu12 g13 H locs x14 mu12 hp hP hD hS => ?_)
          have hz := Ext.mv x14 hz
          have hE := Ext.tr hE x14
          refine W.widen (k := 2) (n := 4) (Nat.le_of_ble_eq_true rfl) (Nat.le_of_ble_eq_true rfl) ?_
          have hcl : 2 ≤ rm_X6_saw.cells := (Nat.le_of_ble_eq_true rfl)
          have hsl : 4 ≤ rm_X6_saw.slots := (Nat.le_of_ble_eq_true rfl)
          have hP : va_P K.1 vwCl (wd K C M o g13) H := hP
          have hD : va_D (inA K) (wd K C M o g13) := hD
          refine lv_iload_n hx hb dX6_saw_63 rfl (lv_at hl 3 rfl) ?_
          obtain ⟨r15, qr15, h⟩ := gn_bd h
          refine hc_V (rest := []) ⟨hx, hb, hml, hown, hts⟩ hN hF hK hP hD hS (c_X1_part l z K _ M o g13 hz bu12 u12 mu12 _ r15 qr15) (cwV 1 hts gX6_saw_X1_part rfl rfl rfl (by decide +kernel) ⟨(Nat.le_of_ble_eq_true rfl), (Nat.le_of_ble_eq_true rfl)⟩) (fr_recv hK hP mu12) rfl hl.1 rfl (Nat.le_of_ble_eq_true rfl) dX6_saw_64 hcl hsl (fun H locs hP hD hS => ?_)
          have hP : va_P K.1 vwCl (wd K C M o g13) H := hP
          have hD : va_D (inA K) (wd K C M o g13) := hD
          refine W.eq (g2 := F0 m 67 ls [.long r15]) rfl ?_
          obtain rfl := gn_some h
          refine W.widen (k := 2) (n := 4) (Nat.le_of_ble_eq_true rfl) (Nat.le_of_ble_eq_true rfl) ?_
          exact W.lret hx hb hr (fun t ht _ => ⟨_, rfl, hE, trivial, by rw [ht]; exact hP, hD, hS.F ht⟩) hS.2.2 dX6_saw_67 hlk
        · have h := gn_f h c8
          refine lv_iload_n hx hb dX6_saw_44 rfl (lv_at hl 1 rfl) ?_
          refine lv_ineg hx hb dX6_saw_45 ?_
          refine lv_i2l hx hb dX6_saw_46 rfl ?_
          refine lv_goto (tgt := 52) hx hb dX6_saw_47 (by decide) ?_
          refine lv_iload_n hx hb dX6_saw_52 rfl (lv_at hl 2 rfl) ?_
          refine va_mabs hx hb (hml.trans hl.1.symm) hown (hts (.methodLink RX6 69 Lib.Math.abs.name) (by decide +kernel)) (hts (.static Lib.Math.abs.name) (by decide +kernel)) (hts (.initialized "java/lang/Math") (by decide +kernel)) (hts (.code Lib.Math.abs.name Lib.Math.abs.code 1 (some .int)) (by decide +kernel)) (Nat.le_of_ble_eq_true rfl) (Nat.le_of_ble_eq_true rfl) hcl hsl dX6_saw_53 ?_
          refine lv_i2l hx hb dX6_saw_56 rfl ?_
          obtain ⟨u16, qu16, h⟩ := gn_bd h
          refine fc_I (rest := [.ref q6]) ⟨hx, hb, hml, hown, hts⟩ hN hF hK hP hD hS (c_X1_init l z K _ M o (gpush g q6 (0, 0)) q6 (0, 0) gpush_in _ _ u16 qu16) (cwI 2 hts gX6_saw_X1_init rfl rfl rfl (hts (.initialized RX1) (by decide +kernel)) (hts (.methodLink RX6 46 yX1_init) (by decide +kernel)) (hts (.instanceMethod yX1_init) (by decide +kernel)) rfl (by decide +kernel) ⟨(Nat.le_of_ble_eq_true rfl), (Nat.le_of_ble_eq_true rfl)⟩) rfl hl.1 rfl (Nat.le_of_ble_eq_true rfl) dX6_saw_57 hcl hsl (fun H locs hP hD hS => ?_)
          obtain ⟨g17, eg17⟩ : ∃ y : Gh, y = gset (gpush g q6 (0, 0)) q6 u16 := ⟨_, rfl⟩
          have x18 : Ext g g17 := by rw [eg17]; exact gset_ext fq6
          have mu16 : q6 ∈ g17.2.1 ∧ g17.2.2 q6 = u16 := by rw [eg17]; exact gset_in gpush_in.1
          rw [← eg17] at hP hD
          have hz := Ext.mv x18 hz
          have hE := Ext.tr hE x18
          obtain ⟨u19, qu19, h⟩ := gn_bd h
          refine fc_V (rest := []) ⟨hx, hb, hml, hown, hts⟩ hN hF hK hP hD hS (c_X1_sawOf l z K _ M o g17 hz q6 u16 mu16 u19 qu19) (cwV 0 hts gX6_saw_X1_sawOf rfl rfl rfl (by decide +kernel) ⟨(Nat.le_of_ble_eq_true rfl), (Nat.le_of_ble_eq_true rfl)⟩) (fr_recv hK hP mu16) rfl hl.1 rfl (Nat.le_of_ble_eq_true rfl) dX6_saw_60 ⟨(Nat.le_of_ble_eq_true rfl), (Nat.le_of_ble_eq_true rfl)⟩ (fun bu19 g20 H locs x21 mu19 hp hP hD hS => ?_)
          have hz := Ext.mv x21 hz
          have hE := Ext.tr hE x21
          refine W.widen (k := 2) (n := 4) (Nat.le_of_ble_eq_true rfl) (Nat.le_of_ble_eq_true rfl) ?_
          have hcl : 2 ≤ rm_X6_saw.cells := (Nat.le_of_ble_eq_true rfl)
          have hsl : 4 ≤ rm_X6_saw.slots := (Nat.le_of_ble_eq_true rfl)
          have hP : va_P K.1 vwCl (wd K C M o g20) H := hP
          have hD : va_D (inA K) (wd K C M o g20) := hD
          refine lv_iload_n hx hb dX6_saw_63 rfl (lv_at hl 3 rfl) ?_
          obtain ⟨r22, qr22, h⟩ := gn_bd h
          refine hc_V (rest := []) ⟨hx, hb, hml, hown, hts⟩ hN hF hK hP hD hS (c_X1_part l z K _ M o g20 hz bu19 u19 mu19 _ r22 qr22) (cwV 1 hts gX6_saw_X1_part rfl rfl rfl (by decide +kernel) ⟨(Nat.le_of_ble_eq_true rfl), (Nat.le_of_ble_eq_true rfl)⟩) (fr_recv hK hP mu19) rfl hl.1 rfl (Nat.le_of_ble_eq_true rfl) dX6_saw_64 hcl hsl (fun H locs hP hD hS => ?_)
          have hP : va_P K.1 vwCl (wd K C M o g20) H := hP
          have hD : va_D (inA K) (wd K C M o g20) := hD
          refine W.eq (g2 := F0 m 67 ls [.long r22]) rfl ?_
          obtain rfl := gn_some h
          refine W.widen (k := 2) (n := 4) (Nat.le_of_ble_eq_true rfl) (Nat.le_of_ble_eq_true rfl) ?_
          exact W.lret hx hb hr (fun t ht _ => ⟨_, rfl, hE, trivial, by rw [ht]; exact hP, hD, hS.F ht⟩) hS.2.2 dX6_saw_67 hlk
      · have h := gn_t h c5
        refine lv_ldc2 hx hb hown (hts (.constantLong RX6 67 (-4000000000000000000)) (by decide +kernel)) dX6_saw_32 ?_
        obtain rfl := gn_some h
        refine W.widen (k := 2) (n := 4) (Nat.le_of_ble_eq_true rfl) (Nat.le_of_ble_eq_true rfl) ?_
        exact W.lret hx hb hr (fun t ht _ => ⟨_, rfl, hE, trivial, by rw [ht]; exact hP, hD, hS.F ht⟩) hS.2.2 dX6_saw_35 hlk
def rm_X6_sum : Room := { frames := 4, cells := 1, slots := 2, locals := 109 }
section
variable {p : Program} {l : Launch} {e : Env} {s : State} {m : MethodId} {args : Array Value} {below : List Frame} {meth : Method} {c : Code} {z : Nat} {K : Ev} {C : CS} {M : MS} {o : Nat → Int64} {g : Gh}
end
set_option maxRecDepth 100000 in
theorem c_X6_sum (l : Launch) (z : Nat) (K : Ev) (C : CS) (M : MS) (o : Nat → Int64) (g : Gh) (hz : K.2.2.1 18 ∈ g.2.1 ∧ g.2.2 (K.2.2.1 18) = (0, 1)) (a0 : Int32) (a1 : Int32) (a2 : Int32) (r : Int64) (h : F_X6_sum z a0 a1 a2 = some (r)) : Met l yX6_sum wsX6_sum rm_X6_sum (qH K [.ref (K.2.2.1 0), .int a0, .int a1, .int a2] C M o g) (qN K (some (.long r)) C M o g True) 1 2 (inA K) := by
  refine Met.ofW (cc := cX6_sum) (maxL := 4) (ret := (some .long)) (by decide) rfl ?_
  intro p e s m args below meth c s₁ B hml hv
  obtain ⟨rfl, hN, hP, hK, hD, hF⟩ := hv
  have hx := B.exec
  have hb := B.bytes
  have hr := B.returns
  have hts := atoms_spec (ws := wsX6_sum) B.pre
  have hown : s.vm.findClass RX6 = some m.cls := findClass_of_methodNamed B.named
  have hlk := B.notSynchronized
  have hbs := wd_bs hP hD
  have hE : Ext g g := Ext.rf
  have Cc : Cx p s m _ meth c cX6_sum 4 RX6 wsX6_sum (some .long) := ⟨hx, hb, hml, hown, hts, hr, hlk, hN⟩
  have hS : va_S (inA K) s.heap s.heap [] := va_S.rf
  have hl := lv_entry ([.ref (K.2.2.1 0), .int a0, .int a1, .int a2]) (n := 4) (Nat.le_of_ble_eq_true rfl)
  rw [lg_entry_eq]
  generalize (lg_sl ([.ref (K.2.2.1 0), .int a0, .int a1, .int a2]) ++ List.replicate (4 - (lg_sl ([.ref (K.2.2.1 0), .int a0, .int a1, .int a2])).length) Slot.unset).toArray = ls at hl ⊢
  have hl : lv_has ls 4 [(0, .ref (K.2.2.1 0)), (1, .int a0), (2, .int a1), (3, .int a2)] := hl
  rw [F_X6_sum] at h
  have hcl : 0 ≤ rm_X6_sum.cells := (Nat.le_of_ble_eq_true rfl)
  have hsl : 0 ≤ rm_X6_sum.slots := (Nat.le_of_ble_eq_true rfl)
  refine lv_iload_n hx hb dX6_sum_0 rfl (lv_at hl 2 rfl) ?_
  refine lv_i2l hx hb dX6_sum_1 rfl ?_
  refine lv_lconst (v := (1 : Int64)) hx hb dX6_sum_2 (by decide) ?_
  refine lv_ldc2 hx hb hown (hts (.constantLong RX6 61 (1000000000)) (by decide +kernel)) dX6_sum_3 ?_
  obtain ⟨r1, qr1, h⟩ := gn_bd h
  refine pc_S (rest := []) ⟨hx, hb, hml, hown, hts⟩ hN (c_X6_lies l z _ _ _ r1 qr1) (va_cwS 3 hts gX6_sum_X6_lies rfl rfl rfl (by decide +kernel) ⟨(Nat.le_of_ble_eq_true rfl), (Nat.le_of_ble_eq_true rfl)⟩) rfl hl.1 rfl (Nat.le_of_ble_eq_true rfl) dX6_sum_6 hcl hsl ?_
  refine lv_if_ne (tgt := 16) hx hb dX6_sum_9 (by decide) (fun c2 => ?_) (fun c2 => ?_)
  · have h := gn_f h c2
    refine lv_iload_n hx hb dX6_sum_16 rfl (lv_at hl 1 rfl) ?_
    refine lv_i2l hx hb dX6_sum_17 rfl ?_
    refine lv_iload_n hx hb dX6_sum_18 rfl (lv_at hl 2 rfl) ?_
    refine lv_i2l hx hb dX6_sum_19 rfl ?_
    obtain ⟨u3, qu3, h⟩ := gn_bd h
    refine fc_S (rest := []) ⟨hx, hb, hml, hown, hts⟩ hN hF hK hP hD hS (c_X1_ofSawSum l z K _ M o g hz _ _ u3 qu3) (va_cwS 2 hts gX6_sum_X1_ofSawSum rfl rfl rfl (by decide +kernel) ⟨(Nat.le_of_ble_eq_true rfl), (Nat.le_of_ble_eq_true rfl)⟩)  rfl hl.1 rfl (Nat.le_of_ble_eq_true rfl) dX6_sum_20 ⟨(Nat.le_of_ble_eq_true rfl), (Nat.le_of_ble_eq_true rfl)⟩ (fun bu3 g4 H locs x5 mu3 hp hP hD hS => ?_)
    have hz := Ext.mv x5 hz
    have hE := Ext.tr hE x5
    refine W.widen (k := 1) (n := 2) (Nat.le_of_ble_eq_true rfl) (Nat.le_of_ble_eq_true rfl) ?_
    have hcl : 1 ≤ rm_X6_sum.cells := (Nat.le_of_ble_eq_true rfl)
    have hsl : 2 ≤ rm_X6_sum.slots := (Nat.le_of_ble_eq_true rfl)
    have hP : va_P K.1 vwCl (wd K C M o g4) H := hP
    have hD : va_D (inA K) (wd K C M o g4) := hD
    refine lv_iload_n hx hb dX6_sum_23 rfl (lv_at hl 3 rfl) ?_
    obtain ⟨r6, qr6, h⟩ := gn_bd h
    refine hc_V (rest := []) ⟨hx, hb, hml, hown, hts⟩ hN hF hK hP hD hS (c_X1_part l z K _ M o g4 hz bu3 u3 mu3 _ r6 qr6) (cwV 1 hts gX6_sum_X1_part rfl rfl rfl (by decide +kernel) ⟨(Nat.le_of_ble_eq_true rfl), (Nat.le_of_ble_eq_true rfl)⟩) (fr_recv hK hP mu3) rfl hl.1 rfl (Nat.le_of_ble_eq_true rfl) dX6_sum_24 hcl hsl (fun H locs hP hD hS => ?_)
    have hP : va_P K.1 vwCl (wd K C M o g4) H := hP
    have hD : va_D (inA K) (wd K C M o g4) := hD
    refine W.eq (g2 := F0 m 27 ls [.long r6]) rfl ?_
    obtain rfl := gn_some h
    refine W.widen (k := 1) (n := 2) (Nat.le_of_ble_eq_true rfl) (Nat.le_of_ble_eq_true rfl) ?_
    exact W.lret hx hb hr (fun t ht _ => ⟨_, rfl, hE, trivial, by rw [ht]; exact hP, hD, hS.F ht⟩) hS.2.2 dX6_sum_27 hlk
  · have h := gn_t h c2
    refine lv_ldc2 hx hb hown (hts (.constantLong RX6 67 (-4000000000000000000)) (by decide +kernel)) dX6_sum_12 ?_
    obtain rfl := gn_some h
    refine W.widen (k := 1) (n := 2) (Nat.le_of_ble_eq_true rfl) (Nat.le_of_ble_eq_true rfl) ?_
    exact W.lret hx hb hr (fun t ht _ => ⟨_, rfl, hE, trivial, by rw [ht]; exact hP, hD, hS.F ht⟩) hS.2.2 dX6_sum_15 hlk
theorem in_X6_both_X1 : ∀ w ∈ wsX10, w ∈ wsX6_both := fun _ h => List.mem_cons_of_mem _ (List.mem_append_right _ h)
def rm_X6_both : Room := { frames := 3, cells := 1, slots := 2, locals := 86 }
section
variable {p : Program} {l : Launch} {e : Env} {s : State} {m : MethodId} {args : Array Value} {below : List Frame} {meth : Method} {c : Code} {z : Nat} {K : Ev} {C : CS} {M : MS} {o : Nat → Int64} {g : Gh}
end
set_option maxRecDepth 100000 in
theorem c_X6_both (l : Launch) (z : Nat) (K : Ev) (C : CS) (M : MS) (o : Nat → Int64) (g : Gh) (hz : K.2.2.1 18 ∈ g.2.1 ∧ g.2.2 (K.2.2.1 18) = (0, 1)) (a0 : Int32) (a1 : Int32) (a2 : Int32) (r : Int64) (h : F_X6_both z a0 a1 a2 = some (r)) : Met l yX6_both wsX6_both rm_X6_both (qH K [.ref (K.2.2.1 0), .int a0, .int a1, .int a2] C M o g) (qN K (some (.long r)) C M o g True) 1 2 (inA K) := by
  refine Met.ofW (cc := cX6_both) (maxL := 6) (ret := (some .long)) (by decide) rfl ?_
  intro p e s m args below meth c s₁ B hml hv
  obtain ⟨rfl, hN, hP, hK, hD, hF⟩ := hv
  have hx := B.exec
  have hb := B.bytes
  have hr := B.returns
  have hts := atoms_spec (ws := wsX6_both) B.pre
  have hown : s.vm.findClass RX6 = some m.cls := findClass_of_methodNamed B.named
  have hlk := B.notSynchronized
  have hbs := wd_bs hP hD
  have hE : Ext g g := Ext.rf
  have Cc : Cx p s m _ meth c cX6_both 6 RX6 wsX6_both (some .long) := ⟨hx, hb, hml, hown, hts, hr, hlk, hN⟩
  have hS : va_S (inA K) s.heap s.heap [] := va_S.rf
  have hl := lv_entry ([.ref (K.2.2.1 0), .int a0, .int a1, .int a2]) (n := 6) (Nat.le_of_ble_eq_true rfl)
  rw [lg_entry_eq]
  generalize (lg_sl ([.ref (K.2.2.1 0), .int a0, .int a1, .int a2]) ++ List.replicate (6 - (lg_sl ([.ref (K.2.2.1 0), .int a0, .int a1, .int a2])).length) Slot.unset).toArray = ls at hl ⊢
  have hl : lv_has ls 6 [(0, .ref (K.2.2.1 0)), (1, .int a0), (2, .int a1), (3, .int a2)] := hl
  rw [F_X6_both] at h
  have hcl : 0 ≤ rm_X6_both.cells := (Nat.le_of_ble_eq_true rfl)
  have hsl : 0 ≤ rm_X6_both.slots := (Nat.le_of_ble_eq_true rfl)
  refine lv_iload_n hx hb dX6_both_0 rfl (lv_at hl 1 rfl) ?_
  refine lv_i2l hx hb dX6_both_1 rfl ?_
  refine lv_lconst (v := (1 : Int64)) hx hb dX6_both_2 (by decide) ?_
  refine lv_ldc2 hx hb hown (hts (.constantLong RX6 87 (30000)) (by decide +kernel)) dX6_both_3 ?_
  obtain ⟨r1, qr1, h⟩ := gn_bd h
  refine pc_S (rest := []) ⟨hx, hb, hml, hown, hts⟩ hN (c_X6_lies l z _ _ _ r1 qr1) (va_cwS 3 hts gX6_both_X6_lies rfl rfl rfl (by decide +kernel) ⟨(Nat.le_of_ble_eq_true rfl), (Nat.le_of_ble_eq_true rfl)⟩) rfl hl.1 rfl (Nat.le_of_ble_eq_true rfl) dX6_both_6 hcl hsl ?_
  refine lv_if_eq (tgt := 24) hx hb dX6_both_9 (by decide) (fun c2 => ?_) (fun c2 => ?_)
  · have h := gn_t h c2
    refine lv_ldc2 hx hb hown (hts (.constantLong RX6 67 (-4000000000000000000)) (by decide +kernel)) dX6_both_24 ?_
    obtain rfl := gn_some h
    refine W.widen (k := 1) (n := 2) (Nat.le_of_ble_eq_true rfl) (Nat.le_of_ble_eq_true rfl) ?_
    exact W.lret hx hb hr (fun t ht _ => ⟨_, rfl, hE, trivial, by rw [ht]; exact hP, hD, hS.F ht⟩) hS.2.2 dX6_both_27 hlk
  · have h := gn_f h c2
    refine lv_iload_n hx hb dX6_both_12 rfl (lv_at hl 2 rfl) ?_
    refine lv_i2l hx hb dX6_both_13 rfl ?_
    refine lv_lconst (v := (1 : Int64)) hx hb dX6_both_14 (by decide) ?_
    refine lv_ldc2 hx hb hown (hts (.constantLong RX6 87 (30000)) (by decide +kernel)) dX6_both_15 ?_
    obtain ⟨r3, qr3, h⟩ := gn_bd h
    refine pc_S (rest := []) ⟨hx, hb, hml, hown, hts⟩ hN (c_X6_lies l z _ _ _ r3 qr3) (va_cwS 3 hts gX6_both_X6_lies rfl rfl rfl (by decide +kernel) ⟨(Nat.le_of_ble_eq_true rfl), (Nat.le_of_ble_eq_true rfl)⟩) rfl hl.1 rfl (Nat.le_of_ble_eq_true rfl) dX6_both_18 hcl hsl ?_
    refine lv_if_ne (tgt := 28) hx hb dX6_both_21 (by decide) (fun c4 => ?_) (fun c4 => ?_)
    · have h := gn_f h c4
      refine lv_iload_n hx hb dX6_both_28 rfl (lv_at hl 1 rfl) ?_
      refine lv_i2l hx hb dX6_both_29 rfl ?_
      refine lv_iload_n hx hb dX6_both_30 rfl (lv_at hl 2 rfl) ?_
      refine lv_i2l hx hb dX6_both_31 rfl ?_
      obtain ⟨r5, qr5, h⟩ := gn_bd h
      refine pc_S (rest := []) ⟨hx, hb, hml, hown, hts⟩ hN (c_X5_twelfths l z _ _ r5 qr5) (va_cwS 2 hts gX6_both_X5_twelfths rfl rfl rfl (by decide +kernel) ⟨(Nat.le_of_ble_eq_true rfl), (Nat.le_of_ble_eq_true rfl)⟩) rfl hl.1 rfl (Nat.le_of_ble_eq_true rfl) dX6_both_32 hcl hsl ?_
      refine lv_iload_n hx hb dX6_both_35 rfl (lv_at hl 1 rfl) ?_
      refine lv_i2l hx hb dX6_both_36 rfl ?_
      refine lv_lmul hx hb dX6_both_37 ?_
      refine lv_iload_n hx hb dX6_both_38 rfl (lv_at hl 2 rfl) ?_
      refine lv_i2l hx hb dX6_both_39 rfl ?_
      refine lv_iload_n hx hb dX6_both_40 rfl (lv_at hl 1 rfl) ?_
      refine lv_i2l hx hb dX6_both_41 rfl ?_
      obtain ⟨r6, qr6, h⟩ := gn_bd h
      refine pc_S (rest := [.long (r5 * (Int32.toInt64 a0))]) ⟨hx, hb, hml, hown, hts⟩ hN (c_X5_twelfths l z _ _ r6 qr6) (va_cwS 2 hts gX6_both_X5_twelfths rfl rfl rfl (by decide +kernel) ⟨(Nat.le_of_ble_eq_true rfl), (Nat.le_of_ble_eq_true rfl)⟩) rfl hl.1 rfl (Nat.le_of_ble_eq_true rfl) dX6_both_42 hcl hsl ?_
      refine lv_iload_n hx hb dX6_both_45 rfl (lv_at hl 2 rfl) ?_
      refine lv_i2l hx hb dX6_both_46 rfl ?_
      refine lv_lmul hx hb dX6_both_47 ?_
      refine lv_ladd hx hb dX6_both_48 ?_
      obtain ⟨v7, ev7, h⟩ := gn_nm h
      refine ln_l ev7 ?_
      refine lv_lstore (lv' := [(4, .long v7), (0, .ref (K.2.2.1 0)), (1, .int a0), (2, .int a1), (3, .int a2)]) hx hb dX6_both_49 hl (by decide) rfl (fun ls hl => ?_)
      refine fr_new hx hb hts in_X6_both_X1 hown (hts (.classLink RX6 44 RX1) (by decide +kernel)) (hts (.instantiable RX1 2) (by decide +kernel)) (hts (.initialized RX1) (by decide +kernel)) hK hP hD hS hbs (Nat.le_of_ble_eq_true rfl) (Nat.le_of_ble_eq_true rfl) dX6_both_51 (fun q8 H fq8 hP hD hS => ?_)
      have x9 := gpush_ext (v := ((0, 0) : Int64 × Int64)) fq8
      have hzn := Ext.mv x9 hz
      refine W.widen (k := 1) (n := 2) (Nat.le_of_ble_eq_true rfl) (Nat.le_of_ble_eq_true rfl) ?_
      have hcl : 1 ≤ rm_X6_both.cells := (Nat.le_of_ble_eq_true rfl)
      have hsl : 2 ≤ rm_X6_both.slots := (Nat.le_of_ble_eq_true rfl)
      refine lv_dup hx hb dX6_both_54 rfl ?_
      refine lv_lload hx hb dX6_both_55 (lv_at hl 0 rfl) ?_
      refine lv_ldc2 hx hb hown (hts (.constantLong RX6 95 (12)) (by decide +kernel)) dX6_both_57 ?_
      refine lv_iload_n hx hb dX6_both_60 rfl (lv_at hl 2 rfl) ?_
      refine lv_i2l hx hb dX6_both_61 rfl ?_
      refine lv_lmul hx hb dX6_both_62 ?_
      refine lv_iload_n hx hb dX6_both_63 rfl (lv_at hl 3 rfl) ?_
      refine lv_i2l hx hb dX6_both_64 rfl ?_
      refine lv_lmul hx hb dX6_both_65 ?_
      obtain ⟨u10, qu10, h⟩ := gn_bd h
      refine fc_I (rest := [.ref q8]) ⟨hx, hb, hml, hown, hts⟩ hN hF hK hP hD hS (c_X1_init l z K _ M o (gpush g q8 (0, 0)) q8 (0, 0) gpush_in _ _ u10 qu10) (cwI 2 hts gX6_both_X1_init rfl rfl rfl (hts (.initialized RX1) (by decide +kernel)) (hts (.methodLink RX6 46 yX1_init) (by decide +kernel)) (hts (.instanceMethod yX1_init) (by decide +kernel)) rfl (by decide +kernel) ⟨(Nat.le_of_ble_eq_true rfl), (Nat.le_of_ble_eq_true rfl)⟩) rfl hl.1 rfl (Nat.le_of_ble_eq_true rfl) dX6_both_66 hcl hsl (fun H locs hP hD hS => ?_)
      obtain ⟨g11, eg11⟩ : ∃ y : Gh, y = gset (gpush g q8 (0, 0)) q8 u10 := ⟨_, rfl⟩
      have x12 : Ext g g11 := by rw [eg11]; exact gset_ext fq8
      have mu10 : q8 ∈ g11.2.1 ∧ g11.2.2 q8 = u10 := by rw [eg11]; exact gset_in gpush_in.1
      rw [← eg11] at hP hD
      have hz := Ext.mv x12 hz
      have hE := Ext.tr hE x12
      refine lv_iload_n hx hb dX6_both_69 rfl (lv_at hl 4 rfl) ?_
      obtain ⟨r13, qr13, h⟩ := gn_bd h
      refine hc_V (rest := []) ⟨hx, hb, hml, hown, hts⟩ hN hF hK hP hD hS (c_X1_part l z K _ M o g11 hz q8 u10 mu10 _ r13 qr13) (cwV 1 hts gX6_both_X1_part rfl rfl rfl (by decide +kernel) ⟨(Nat.le_of_ble_eq_true rfl), (Nat.le_of_ble_eq_true rfl)⟩) (fr_recv hK hP mu10) rfl hl.1 rfl (Nat.le_of_ble_eq_true rfl) dX6_both_70 hcl hsl (fun H locs hP hD hS => ?_)
      have hP : va_P K.1 vwCl (wd K C M o g11) H := hP
      have hD : va_D (inA K) (wd K C M o g11) := hD
      refine W.eq (g2 := F0 m 73 ls [.long r13]) rfl ?_
      obtain rfl := gn_some h
      refine W.widen (k := 1) (n := 2) (Nat.le_of_ble_eq_true rfl) (Nat.le_of_ble_eq_true rfl) ?_
      exact W.lret hx hb hr (fun t ht _ => ⟨_, rfl, hE, trivial, by rw [ht]; exact hP, hD, hS.F ht⟩) hS.2.2 dX6_both_73 hlk
    · have h := gn_t h c4
      refine lv_ldc2 hx hb hown (hts (.constantLong RX6 67 (-4000000000000000000)) (by decide +kernel)) dX6_both_24 ?_
      obtain rfl := gn_some h
      refine W.widen (k := 1) (n := 2) (Nat.le_of_ble_eq_true rfl) (Nat.le_of_ble_eq_true rfl) ?_
      exact W.lret hx hb hr (fun t ht _ => ⟨_, rfl, hE, trivial, by rw [ht]; exact hP, hD, hS.F ht⟩) hS.2.2 dX6_both_27 hlk
theorem in_X6_three_X1 : ∀ w ∈ wsX10, w ∈ wsX6_three := fun _ h => List.mem_cons_of_mem _ (List.mem_append_right _ h)
def rm_X6_three : Room := { frames := 3, cells := 1, slots := 2, locals := 86 }
section
variable {p : Program} {l : Launch} {e : Env} {s : State} {m : MethodId} {args : Array Value} {below : List Frame} {meth : Method} {c : Code} {z : Nat} {K : Ev} {C : CS} {M : MS} {o : Nat → Int64} {g : Gh}
end
set_option maxRecDepth 100000 in
theorem c_X6_three (l : Launch) (z : Nat) (K : Ev) (C : CS) (M : MS) (o : Nat → Int64) (g : Gh) (hz : K.2.2.1 18 ∈ g.2.1 ∧ g.2.2 (K.2.2.1 18) = (0, 1)) (a0 : Int32) (a1 : Int32) (a2 : Int32) (a3 : Int32) (r : Int64) (h : F_X6_three z a0 a1 a2 a3 = some (r)) : Met l yX6_three wsX6_three rm_X6_three (qH K [.ref (K.2.2.1 0), .int a0, .int a1, .int a2, .int a3] C M o g) (qN K (some (.long r)) C M o g True) 1 2 (inA K) := by
  refine Met.ofW (cc := cX6_three) (maxL := 13) (ret := (some .long)) (by decide) rfl ?_
  intro p e s m args below meth c s₁ B hml hv
  obtain ⟨rfl, hN, hP, hK, hD, hF⟩ := hv
  have hx := B.exec
  have hb := B.bytes
  have hr := B.returns
  have hts := atoms_spec (ws := wsX6_three) B.pre
  have hown : s.vm.findClass RX6 = some m.cls := findClass_of_methodNamed B.named
  have hlk := B.notSynchronized
  have hbs := wd_bs hP hD
  have hE : Ext g g := Ext.rf
  have Cc : Cx p s m _ meth c cX6_three 13 RX6 wsX6_three (some .long) := ⟨hx, hb, hml, hown, hts, hr, hlk, hN⟩
  have hS : va_S (inA K) s.heap s.heap [] := va_S.rf
  have hl := lv_entry ([.ref (K.2.2.1 0), .int a0, .int a1, .int a2, .int a3]) (n := 13) (Nat.le_of_ble_eq_true rfl)
  rw [lg_entry_eq]
  generalize (lg_sl ([.ref (K.2.2.1 0), .int a0, .int a1, .int a2, .int a3]) ++ List.replicate (13 - (lg_sl ([.ref (K.2.2.1 0), .int a0, .int a1, .int a2, .int a3])).length) Slot.unset).toArray = ls at hl ⊢
  have hl : lv_has ls 13 [(0, .ref (K.2.2.1 0)), (1, .int a0), (2, .int a1), (3, .int a2), (4, .int a3)] := hl
  rw [F_X6_three] at h
  have hcl : 0 ≤ rm_X6_three.cells := (Nat.le_of_ble_eq_true rfl)
  have hsl : 0 ≤ rm_X6_three.slots := (Nat.le_of_ble_eq_true rfl)
  refine lv_iload_n hx hb dX6_three_0 rfl (lv_at hl 1 rfl) ?_
  refine lv_iload_n hx hb dX6_three_1 rfl (lv_at hl 2 rfl) ?_
  refine lv_iload_n hx hb dX6_three_2 rfl (lv_at hl 3 rfl) ?_
  obtain ⟨r1, qr1, h⟩ := gn_bd h
  refine pc_S (rest := []) ⟨hx, hb, hml, hown, hts⟩ hN (c_X6_areThree l z _ _ _ r1 qr1) (va_cwS 3 hts gX6_three_X6_areThree rfl rfl rfl (by decide +kernel) ⟨(Nat.le_of_ble_eq_true rfl), (Nat.le_of_ble_eq_true rfl)⟩) rfl hl.1 rfl (Nat.le_of_ble_eq_true rfl) dX6_three_3 hcl hsl ?_
  refine lv_if_ne (tgt := 13) hx hb dX6_three_6 (by decide) (fun c2 => ?_) (fun c2 => ?_)
  · have h := gn_f h c2
    refine lv_iload_n hx hb dX6_three_13 rfl (lv_at hl 1 rfl) ?_
    refine lv_i2l hx hb dX6_three_14 rfl ?_
    refine lv_iload_n hx hb dX6_three_15 rfl (lv_at hl 2 rfl) ?_
    refine lv_i2l hx hb dX6_three_16 rfl ?_
    refine lv_iload_n hx hb dX6_three_17 rfl (lv_at hl 3 rfl) ?_
    refine lv_i2l hx hb dX6_three_18 rfl ?_
    obtain ⟨r3, qr3, h⟩ := gn_bd h
    refine pc_S (rest := [.long (Int32.toInt64 a0)]) ⟨hx, hb, hml, hown, hts⟩ hN (c_X5_inverse l z _ _ r3 qr3) (va_cwS 2 hts gX6_three_X5_inverse rfl rfl rfl (by decide +kernel) ⟨(Nat.le_of_ble_eq_true rfl), (Nat.le_of_ble_eq_true rfl)⟩) rfl hl.1 rfl (Nat.le_of_ble_eq_true rfl) dX6_three_19 hcl hsl ?_
    refine lv_lmul hx hb dX6_three_22 ?_
    refine lv_iload_n hx hb dX6_three_23 rfl (lv_at hl 3 rfl) ?_
    refine lv_i2l hx hb dX6_three_24 rfl ?_
    obtain ⟨r4, qr4, h⟩ := gn_bd h
    refine pc_S (rest := []) ⟨hx, hb, hml, hown, hts⟩ hN (c_X5_twelfths l z _ _ r4 qr4) (va_cwS 2 hts gX6_three_X5_twelfths rfl rfl rfl (by decide +kernel) ⟨(Nat.le_of_ble_eq_true rfl), (Nat.le_of_ble_eq_true rfl)⟩) rfl hl.1 rfl (Nat.le_of_ble_eq_true rfl) dX6_three_25 hcl hsl ?_
    refine lv_lstore (lv' := [(5, .long r4), (0, .ref (K.2.2.1 0)), (1, .int a0), (2, .int a1), (3, .int a2), (4, .int a3)]) hx hb dX6_three_28 hl (by decide) rfl (fun ls hl => ?_)
    refine lv_iload_n hx hb dX6_three_30 rfl (lv_at hl 3 rfl) ?_
    refine lv_i2l hx hb dX6_three_31 rfl ?_
    refine lv_iload_n hx hb dX6_three_32 rfl (lv_at hl 4 rfl) ?_
    refine lv_i2l hx hb dX6_three_33 rfl ?_
    refine lv_iload_n hx hb dX6_three_34 rfl (lv_at hl 2 rfl) ?_
    refine lv_i2l hx hb dX6_three_35 rfl ?_
    obtain ⟨r5, qr5, h⟩ := gn_bd h
    refine pc_S (rest := [.long (Int32.toInt64 a1)]) ⟨hx, hb, hml, hown, hts⟩ hN (c_X5_inverse l z _ _ r5 qr5) (va_cwS 2 hts gX6_three_X5_inverse rfl rfl rfl (by decide +kernel) ⟨(Nat.le_of_ble_eq_true rfl), (Nat.le_of_ble_eq_true rfl)⟩) rfl hl.1 rfl (Nat.le_of_ble_eq_true rfl) dX6_three_36 hcl hsl ?_
    refine lv_lmul hx hb dX6_three_39 ?_
    refine lv_iload_n hx hb dX6_three_40 rfl (lv_at hl 2 rfl) ?_
    refine lv_i2l hx hb dX6_three_41 rfl ?_
    obtain ⟨r6, qr6, h⟩ := gn_bd h
    refine pc_S (rest := []) ⟨hx, hb, hml, hown, hts⟩ hN (c_X5_twelfths l z _ _ r6 qr6) (va_cwS 2 hts gX6_three_X5_twelfths rfl rfl rfl (by decide +kernel) ⟨(Nat.le_of_ble_eq_true rfl), (Nat.le_of_ble_eq_true rfl)⟩) rfl hl.1 rfl (Nat.le_of_ble_eq_true rfl) dX6_three_42 hcl hsl ?_
    refine lv_lstore (lv' := [(7, .long r6), (5, .long r4), (0, .ref (K.2.2.1 0)), (1, .int a0), (2, .int a1), (3, .int a2), (4, .int a3)]) hx hb dX6_three_45 hl (by decide) rfl (fun ls hl => ?_)
    refine lv_iload_n hx hb dX6_three_47 rfl (lv_at hl 5 rfl) ?_
    refine lv_i2l hx hb dX6_three_48 rfl ?_
    refine lv_iload_n hx hb dX6_three_49 rfl (lv_at hl 3 rfl) ?_
    refine lv_i2l hx hb dX6_three_50 rfl ?_
    refine lv_iload_n hx hb dX6_three_51 rfl (lv_at hl 4 rfl) ?_
    refine lv_i2l hx hb dX6_three_52 rfl ?_
    obtain ⟨r7, qr7, h⟩ := gn_bd h
    refine pc_S (rest := [.long (Int32.toInt64 a2)]) ⟨hx, hb, hml, hown, hts⟩ hN (c_X5_inverse l z _ _ r7 qr7) (va_cwS 2 hts gX6_three_X5_inverse rfl rfl rfl (by decide +kernel) ⟨(Nat.le_of_ble_eq_true rfl), (Nat.le_of_ble_eq_true rfl)⟩) rfl hl.1 rfl (Nat.le_of_ble_eq_true rfl) dX6_three_53 hcl hsl ?_
    refine lv_lmul hx hb dX6_three_56 ?_
    refine lv_iload_n hx hb dX6_three_57 rfl (lv_at hl 4 rfl) ?_
    refine lv_i2l hx hb dX6_three_58 rfl ?_
    obtain ⟨r8, qr8, h⟩ := gn_bd h
    refine pc_S (rest := []) ⟨hx, hb, hml, hown, hts⟩ hN (c_X5_twelfths l z _ _ r8 qr8) (va_cwS 2 hts gX6_three_X5_twelfths rfl rfl rfl (by decide +kernel) ⟨(Nat.le_of_ble_eq_true rfl), (Nat.le_of_ble_eq_true rfl)⟩) rfl hl.1 rfl (Nat.le_of_ble_eq_true rfl) dX6_three_59 hcl hsl ?_
    refine lv_lstore (lv' := [(9, .long r8), (7, .long r6), (5, .long r4), (0, .ref (K.2.2.1 0)), (1, .int a0), (2, .int a1), (3, .int a2), (4, .int a3)]) hx hb dX6_three_62 hl (by decide) rfl (fun ls hl => ?_)
    refine lv_lload hx hb dX6_three_64 (lv_at hl 2 rfl) ?_
    refine lv_iload_n hx hb dX6_three_66 rfl (lv_at hl 4 rfl) ?_
    refine lv_i2l hx hb dX6_three_67 rfl ?_
    refine lv_lmul hx hb dX6_three_68 ?_
    refine lv_iload_n hx hb dX6_three_69 rfl (lv_at hl 5 rfl) ?_
    refine lv_i2l hx hb dX6_three_70 rfl ?_
    refine lv_lmul hx hb dX6_three_71 ?_
    refine lv_lload hx hb dX6_three_72 (lv_at hl 1 rfl) ?_
    refine lv_iload_n hx hb dX6_three_74 rfl (lv_at hl 5 rfl) ?_
    refine lv_i2l hx hb dX6_three_75 rfl ?_
    refine lv_lmul hx hb dX6_three_76 ?_
    refine lv_iload_n hx hb dX6_three_77 rfl (lv_at hl 6 rfl) ?_
    refine lv_i2l hx hb dX6_three_78 rfl ?_
    refine lv_lmul hx hb dX6_three_79 ?_
    refine lv_ladd hx hb dX6_three_80 ?_
    refine lv_lload hx hb dX6_three_81 (lv_at hl 0 rfl) ?_
    refine lv_iload_n hx hb dX6_three_83 rfl (lv_at hl 4 rfl) ?_
    refine lv_i2l hx hb dX6_three_84 rfl ?_
    refine lv_lmul hx hb dX6_three_85 ?_
    refine lv_iload_n hx hb dX6_three_86 rfl (lv_at hl 6 rfl) ?_
    refine lv_i2l hx hb dX6_three_87 rfl ?_
    refine lv_lmul hx hb dX6_three_88 ?_
    refine lv_ladd hx hb dX6_three_89 ?_
    obtain ⟨v9, ev9, h⟩ := gn_nm h
    refine ln_l ev9 ?_
    refine lv_lstore (lv' := [(11, .long v9), (9, .long r8), (7, .long r6), (5, .long r4), (0, .ref (K.2.2.1 0)), (1, .int a0), (2, .int a1), (3, .int a2), (4, .int a3)]) hx hb dX6_three_90 hl (by decide) rfl (fun ls hl => ?_)
    refine fr_new hx hb hts in_X6_three_X1 hown (hts (.classLink RX6 44 RX1) (by decide +kernel)) (hts (.instantiable RX1 2) (by decide +kernel)) (hts (.initialized RX1) (by decide +kernel)) hK hP hD hS hbs (Nat.le_of_ble_eq_true rfl) (Nat.le_of_ble_eq_true rfl) dX6_three_92 (fun q10 H fq10 hP hD hS => ?_)
    have x11 := gpush_ext (v := ((0, 0) : Int64 × Int64)) fq10
    have hzn := Ext.mv x11 hz
    refine W.widen (k := 1) (n := 2) (Nat.le_of_ble_eq_true rfl) (Nat.le_of_ble_eq_true rfl) ?_
    have hcl : 1 ≤ rm_X6_three.cells := (Nat.le_of_ble_eq_true rfl)
    have hsl : 2 ≤ rm_X6_three.slots := (Nat.le_of_ble_eq_true rfl)
    refine lv_dup hx hb dX6_three_95 rfl ?_
    refine lv_lload hx hb dX6_three_96 (lv_at hl 0 rfl) ?_
    refine lv_ldc2 hx hb hown (hts (.constantLong RX6 95 (12)) (by decide +kernel)) dX6_three_98 ?_
    refine lv_iload_n hx hb dX6_three_101 rfl (lv_at hl 5 rfl) ?_
    refine lv_i2l hx hb dX6_three_102 rfl ?_
    refine lv_lmul hx hb dX6_three_103 ?_
    refine lv_iload_n hx hb dX6_three_104 rfl (lv_at hl 6 rfl) ?_
    refine lv_i2l hx hb dX6_three_105 rfl ?_
    refine lv_lmul hx hb dX6_three_106 ?_
    refine lv_iload_n hx hb dX6_three_107 rfl (lv_at hl 7 rfl) ?_
    refine lv_i2l hx hb dX6_three_108 rfl ?_
    refine lv_lmul hx hb dX6_three_109 ?_
    obtain ⟨u12, qu12, h⟩ := gn_bd h
    refine fc_I (rest := [.ref q10]) ⟨hx, hb, hml, hown, hts⟩ hN hF hK hP hD hS (c_X1_init l z K _ M o (gpush g q10 (0, 0)) q10 (0, 0) gpush_in _ _ u12 qu12) (cwI 2 hts gX6_three_X1_init rfl rfl rfl (hts (.initialized RX1) (by decide +kernel)) (hts (.methodLink RX6 46 yX1_init) (by decide +kernel)) (hts (.instanceMethod yX1_init) (by decide +kernel)) rfl (by decide +kernel) ⟨(Nat.le_of_ble_eq_true rfl), (Nat.le_of_ble_eq_true rfl)⟩) rfl hl.1 rfl (Nat.le_of_ble_eq_true rfl) dX6_three_110 hcl hsl (fun H locs hP hD hS => ?_)
    obtain ⟨g13, eg13⟩ : ∃ y : Gh, y = gset (gpush g q10 (0, 0)) q10 u12 := ⟨_, rfl⟩
    have x14 : Ext g g13 := by rw [eg13]; exact gset_ext fq10
    have mu12 : q10 ∈ g13.2.1 ∧ g13.2.2 q10 = u12 := by rw [eg13]; exact gset_in gpush_in.1
    rw [← eg13] at hP hD
    have hz := Ext.mv x14 hz
    have hE := Ext.tr hE x14
    refine lv_iload hx hb dX6_three_113 (lv_at hl 8 rfl) ?_
    obtain ⟨r15, qr15, h⟩ := gn_bd h
    refine hc_V (rest := []) ⟨hx, hb, hml, hown, hts⟩ hN hF hK hP hD hS (c_X1_part l z K _ M o g13 hz q10 u12 mu12 _ r15 qr15) (cwV 1 hts gX6_three_X1_part rfl rfl rfl (by decide +kernel) ⟨(Nat.le_of_ble_eq_true rfl), (Nat.le_of_ble_eq_true rfl)⟩) (fr_recv hK hP mu12) rfl hl.1 rfl (Nat.le_of_ble_eq_true rfl) dX6_three_115 hcl hsl (fun H locs hP hD hS => ?_)
    have hP : va_P K.1 vwCl (wd K C M o g13) H := hP
    have hD : va_D (inA K) (wd K C M o g13) := hD
    refine W.eq (g2 := F0 m 118 ls [.long r15]) rfl ?_
    obtain rfl := gn_some h
    refine W.widen (k := 1) (n := 2) (Nat.le_of_ble_eq_true rfl) (Nat.le_of_ble_eq_true rfl) ?_
    exact W.lret hx hb hr (fun t ht _ => ⟨_, rfl, hE, trivial, by rw [ht]; exact hP, hD, hS.F ht⟩) hS.2.2 dX6_three_118 hlk
  · have h := gn_t h c2
    refine lv_ldc2 hx hb hown (hts (.constantLong RX6 67 (-4000000000000000000)) (by decide +kernel)) dX6_three_9 ?_
    obtain rfl := gn_some h
    refine W.widen (k := 1) (n := 2) (Nat.le_of_ble_eq_true rfl) (Nat.le_of_ble_eq_true rfl) ?_
    exact W.lret hx hb hr (fun t ht _ => ⟨_, rfl, hE, trivial, by rw [ht]; exact hP, hD, hS.F ht⟩) hS.2.2 dX6_three_12 hlk
theorem in_X6_told_X6 : ∀ w ∈ wsX60, w ∈ wsX6_told := fun _ h => List.mem_cons_of_mem _ (List.mem_append_left _ (List.mem_append_right _ h))
def rm_X6_told : Room := { frames := 1, cells := 0, slots := 0, locals := 21 }
section
variable {p : Program} {l : Launch} {e : Env} {s : State} {m : MethodId} {args : Array Value} {below : List Frame} {meth : Method} {c : Code} {z : Nat} {K : Ev} {C : CS} {M : MS} {o : Nat → Int64} {g : Gh}
end
set_option maxRecDepth 100000 in
theorem c_X6_told (l : Launch) (z : Nat) (K : Ev) (C : CS) (M : MS) (o : Nat → Int64) (g : Gh) (hz : K.2.2.1 18 ∈ g.2.1 ∧ g.2.2 (K.2.2.1 18) = (0, 1)) (lt : Int64 × Int64) (hla : g.1 ∈ g.2.1 ∧ g.2.2 g.1 = lt) (a0 : Int32) (r : Int64) (h : F_X6_told z lt a0 = some (r)) : Met l yX6_told wsX6_told rm_X6_told (qH K [.ref (K.2.2.1 0), .int a0] C M o g) (qR K (some (.long r)) C M o g) 0 0 (inA K) := by
  refine Met.ofW (cc := cX6_told) (maxL := 2) (ret := (some .long)) (by decide) rfl ?_
  intro p e s m args below meth c s₁ B hml hv
  obtain ⟨rfl, hN, hP, hK, hD, hF⟩ := hv
  have hx := B.exec
  have hb := B.bytes
  have hr := B.returns
  have hts := atoms_spec (ws := wsX6_told) B.pre
  have hown : s.vm.findClass RX6 = some m.cls := findClass_of_methodNamed B.named
  have hlk := B.notSynchronized
  have hbs := wd_bs hP hD
  have hE : Ext g g := Ext.rf
  have Cc : Cx p s m _ meth c cX6_told 2 RX6 wsX6_told (some .long) := ⟨hx, hb, hml, hown, hts, hr, hlk, hN⟩
  have hS : va_S (inA K) s.heap s.heap [] := va_S.rf
  have hl := lv_entry ([.ref (K.2.2.1 0), .int a0]) (n := 2) (Nat.le_of_ble_eq_true rfl)
  rw [lg_entry_eq]
  generalize (lg_sl ([.ref (K.2.2.1 0), .int a0]) ++ List.replicate (2 - (lg_sl ([.ref (K.2.2.1 0), .int a0])).length) Slot.unset).toArray = ls at hl ⊢
  have hl : lv_has ls 2 [(0, .ref (K.2.2.1 0)), (1, .int a0)] := hl
  rw [F_X6_told] at h
  have hcl : 0 ≤ rm_X6_told.cells := (Nat.le_of_ble_eq_true rfl)
  have hsl : 0 ≤ rm_X6_told.slots := (Nat.le_of_ble_eq_true rfl)
  refine lv_aload_n hx hb dX6_told_0 rfl (lv_at hl 0 rfl) ?_
  refine va_get (D := K.1) (ci := 5) (v := .ref (g.1)) (C := RX6) (T := TX6) (N := 9) hx hb hts in_X6_told_X6 hown hK hP 0 rfl rfl 6 (by decide) (hts (.fieldLink RX6 49 "SawSums" "latest" "LSawSums$Fraction;") (by decide +kernel)) (fun _ h9 => h9) rfl dX6_told_1 ?_
  refine lv_iload_n hx hb dX6_told_4 rfl (lv_at hl 1 rfl) ?_
  obtain ⟨r1, qr1, h⟩ := gn_bd h
  refine hc_V (rest := []) ⟨hx, hb, hml, hown, hts⟩ hN hF hK hP hD hS (c_X1_part l z K _ M o g hz g.1 lt hla _ r1 qr1) (cwV 1 hts gX6_told_X1_part rfl rfl rfl (by decide +kernel) ⟨(Nat.le_of_ble_eq_true rfl), (Nat.le_of_ble_eq_true rfl)⟩) (fr_recv hK hP hla) rfl hl.1 rfl (Nat.le_of_ble_eq_true rfl) dX6_told_5 hcl hsl (fun H locs hP hD hS => ?_)
  have hP : va_P K.1 vwCl (wd K C M o g) H := hP
  have hD : va_D (inA K) (wd K C M o g) := hD
  refine W.eq (g2 := F0 m 8 ls [.long r1]) rfl ?_
  obtain rfl := gn_some h
  refine W.widen (k := 0) (n := 0) (Nat.le_of_ble_eq_true rfl) (Nat.le_of_ble_eq_true rfl) ?_
  exact W.lret hx hb hr (fun t ht _ => ⟨rfl, by rw [ht]; exact hP, hD, hS.F ht⟩) hS.2.2 dX6_told_8 hlk
