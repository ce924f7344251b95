theorem in_X7_thrown_X7 : ∀ w ∈ wsX70, w ∈ wsX7_thrown := fun _ h => List.mem_cons_of_mem _ (List.mem_append_right _ h)
def rm_X7_thrown : Room := { frames := 0, cells := 0, slots := 0, locals := 0 }
section
variable {p : Program} {l : Launch} {e : Env} {s : State} {m : MethodId} {args : Array Value} {below : List Frame} {meth : Method} {c : Code} {z : Nat} {K : Ev} {C : CS} {o : Nat → Int64} {g : Gh}
end
set_option maxRecDepth 100000 in
theorem c_X7_thrown (l : Launch) (z : Nat) (K : Ev) (C : CS) (o : Nat → Int64) (g : Gh)  (S : MS) (r : Int32) (S' : MS) (h : F_X7_thrown z S = some (r, S')) : Met l yX7_thrown wsX7_thrown rm_X7_thrown (qH K [.ref (K.2.2.1 12)] C S o g) (qR K (some (.int r)) C S' o g) 0 0 (inA K) := by
  refine Met.ofW (cc := cX7_thrown) (maxL := 1) (ret := (some .int)) (by decide) rfl ?_
  intro p e s m args below meth c s₁ B hml hv
  obtain ⟨rfl, hN, hP, hK, hD, hF⟩ := hv
  have hx := B.exec
  have hb := B.bytes
  have hr := B.returns
  have hts := atoms_spec (ws := wsX7_thrown) B.pre
  have hown : s.vm.findClass RX7 = some m.cls := findClass_of_methodNamed B.named
  have hlk := B.notSynchronized
  have hcl : 0 ≤ (rm_X7_thrown).cells := Nat.zero_le _
  have hsl : 0 ≤ (rm_X7_thrown).slots := Nat.zero_le _
  have Cc : Cx p s m _ meth c cX7_thrown 1 RX7 wsX7_thrown (some .int) := ⟨hx, hb, hml, hown, hts, hr, hlk, hN⟩
  have hS : va_S (inA K) s.heap s.heap [] := va_S.rf
  have hl := lv_entry ([.ref (K.2.2.1 12)]) (n := 1) (Nat.le_of_ble_eq_true rfl)
  rw [lg_entry_eq]
  generalize (lg_sl ([.ref (K.2.2.1 12)]) ++ List.replicate (1 - (lg_sl ([.ref (K.2.2.1 12)])).length) Slot.unset).toArray = ls at hl ⊢
  have hl : lv_has ls 1 [(0, .ref (K.2.2.1 12))] := hl
  rw [F_X7_thrown] at h
  refine lv_aload_n hx hb dX7_thrown_0 rfl (lv_at hl 0 rfl) ?_
  refine va_get (D := K.1) (ci := 6) (v := .int (mg_thrown S)) (C := RX7) (T := TX7) (N := 24) hx hb hts in_X7_thrown_X7 hown hK hP 12 rfl rfl 0 (by decide) (hts (.fieldLink RX7 33 "SawSumsModel" "thrown" "I") (by decide +kernel)) (fun _ h9 => h9) rfl dX7_thrown_1 ?_
  obtain ⟨rfl, rfl⟩ := Prod.mk.inj (gn_some h)
  exact W.iret hx hb hr (fun t ht _ => ⟨rfl, by rw [ht]; exact hP, hD, hS.F ht⟩) hS.2.2 dX7_thrown_4 hlk
theorem in_X7_lays_X7 : ∀ w ∈ wsX70, w ∈ wsX7_lays := fun _ h => List.mem_cons_of_mem _ (List.mem_append_right _ h)
def rm_X7_lays : Room := { frames := 2, cells := 0, slots := 0, locals := 50 }
section
variable {p : Program} {l : Launch} {e : Env} {s : State} {m : MethodId} {args : Array Value} {below : List Frame} {meth : Method} {c : Code} {z : Nat} {K : Ev} {C : CS} {o : Nat → Int64} {g : Gh}
set_option maxRecDepth 100000 in
theorem w_X7_lays_21 (Cc : Cx p s m args meth c cX7_lays 7 RX7 wsX7_lays none) (hK : va_K K.1 vwCl (tysOf K) s) (hF : SF K s)  {S' : MS} : ∀ (x1 : Int64) (x3 : Int64) (t0 : Int64) (S : MS) (H : Heap) (locs : List Loc), va_P K.1 vwCl (wd K C S o g) H → va_D (inA K) (wd K C S o g) → va_S (inA K) s.heap H locs → G_X7_lays_21 z x1 x3 t0 S = some S' → ∀ ls, lv_has ls 7 [(0, .ref (K.2.2.1 12)), (1, .long x1), (3, .long x3)] → W p l e rm_X7_lays s m args below meth c H locs 0 0 (MQ below (qR K none C S' o g) args s 0 0 (inA K)) (F0 m 21 ls [.long t0]) := by
  obtain ⟨hx, hb, hml, hown, hts, hr, hlk, hN⟩ := id Cc
  have hcl : 0 ≤ (rm_X7_lays).cells := Nat.zero_le _
  have hsl : 0 ≤ (rm_X7_lays).slots := Nat.zero_le _
  intro x1 x3 t0 S H locs hP hD hS h ls hl
  rw [G_X7_lays_21] at h
  refine lv_lstore (lv' := [(5, .long t0), (0, .ref (K.2.2.1 12)), (1, .long x1), (3, .long x3)]) hx hb dX7_lays_21 hl (by decide) rfl (fun ls hl => ?_)
  refine lv_aload_n hx hb dX7_lays_23 rfl (lv_at hl 1 rfl) ?_
  refine lv_lload_n hx hb dX7_lays_24 rfl (lv_at hl 2 rfl) ?_
  refine lv_lload hx hb dX7_lays_25 (lv_at hl 0 rfl) ?_
  obtain ⟨n1, h⟩ := gn_nz h
  refine lv_ldiv hx hb dX7_lays_27 n1 ?_
  obtain ⟨v2, ev2, h⟩ := gn_nm h
  refine ln_l ev2 ?_
  obtain ⟨S3, eS3, h⟩ := gn_nm h
  refine va_put (D := K.1) (ci := 6) (v := .long v2) (ty := .long) (C := RX7) (T := TX7) (N := 24) hx hb hts in_X7_lays_X7 tyX7 tyX7_ok nmX7 hown hK hP hD hS 12 rfl rfl 1 (by decide) (hts (.fieldLink RX7 48 "SawSumsModel" "up" "J") (by decide +kernel)) (fun _ h9 => h9) rfl (by decide +kernel) rfl rfl (Nat.le_of_ble_eq_true rfl) dX7_lays_28 (fun H locs hP hD hS => ?_)
  have hP : va_P K.1 vwCl (wd K C S3 o g) H := by rw [eS3]; exact hP
  have hD : va_D (inA K) (wd K C S3 o g) := by rw [eS3]; exact hD
  refine lv_aload_n hx hb dX7_lays_31 rfl (lv_at hl 1 rfl) ?_
  refine lv_lload_n hx hb dX7_lays_32 rfl (lv_at hl 3 rfl) ?_
  refine lv_lload hx hb dX7_lays_33 (lv_at hl 0 rfl) ?_
  obtain ⟨n4, h⟩ := gn_nz h
  refine lv_ldiv hx hb dX7_lays_35 n4 ?_
  obtain ⟨v5, ev5, h⟩ := gn_nm h
  refine ln_l ev5 ?_
  obtain ⟨S6, eS6, h⟩ := gn_nm h
  refine va_put (D := K.1) (ci := 6) (v := .long v5) (ty := .long) (C := RX7) (T := TX7) (N := 24) hx hb hts in_X7_lays_X7 tyX7 tyX7_ok nmX7 hown hK hP hD hS 12 rfl rfl 2 (by decide) (hts (.fieldLink RX7 51 "SawSumsModel" "under" "J") (by decide +kernel)) (fun _ h9 => h9) rfl (by decide +kernel) rfl rfl (Nat.le_of_ble_eq_true rfl) dX7_lays_36 (fun H locs hP hD hS => ?_)
  have hP : va_P K.1 vwCl (wd K C S6 o g) H := by rw [eS6]; exact hP
  have hD : va_D (inA K) (wd K C S6 o g) := by rw [eS6]; exact hD
  obtain rfl := gn_some h
  exact W.vret hx hb hr (fun t ht _ => ⟨rfl, by rw [ht]; exact hP, hD, hS.F ht⟩) hS.2.2 dX7_lays_39 hlk
end
set_option maxRecDepth 100000 in
theorem c_X7_lays (l : Launch) (z : Nat) (K : Ev) (C : CS) (o : Nat → Int64) (g : Gh) (a0 : Int64) (a1 : Int64) (S : MS)  (S' : MS) (h : F_X7_lays z a0 a1 S = some S') : Met l yX7_lays wsX7_lays rm_X7_lays (qH K [.ref (K.2.2.1 12), .long a0, .long a1] C S o g) (qR K none C S' o g) 0 0 (inA K) := by
  refine Met.ofW (cc := cX7_lays) (maxL := 7) (ret := none) (by decide) rfl ?_
  intro p e s m args below meth c s₁ B hml hv
  obtain ⟨rfl, hN, hP, hK, hD, hF⟩ := hv
  have hx := B.exec
  have hb := B.bytes
  have hr := B.returns
  have hts := atoms_spec (ws := wsX7_lays) B.pre
  have hown : s.vm.findClass RX7 = some m.cls := findClass_of_methodNamed B.named
  have hlk := B.notSynchronized
  have hcl : 0 ≤ (rm_X7_lays).cells := Nat.zero_le _
  have hsl : 0 ≤ (rm_X7_lays).slots := Nat.zero_le _
  have Cc : Cx p s m _ meth c cX7_lays 7 RX7 wsX7_lays none := ⟨hx, hb, hml, hown, hts, hr, hlk, hN⟩
  have hS : va_S (inA K) s.heap s.heap [] := va_S.rf
  have hl := lv_entry ([.ref (K.2.2.1 12), .long a0, .long a1]) (n := 7) (Nat.le_of_ble_eq_true rfl)
  rw [lg_entry_eq]
  generalize (lg_sl ([.ref (K.2.2.1 12), .long a0, .long a1]) ++ List.replicate (7 - (lg_sl ([.ref (K.2.2.1 12), .long a0, .long a1])).length) Slot.unset).toArray = ls at hl ⊢
  have hl : lv_has ls 7 [(0, .ref (K.2.2.1 12)), (1, .long a0), (3, .long a1)] := hl
  rw [F_X7_lays] at h
  refine lv_lload_n hx hb dX7_lays_0 rfl (lv_at hl 1 rfl) ?_
  refine lv_lload_n hx hb dX7_lays_1 rfl (lv_at hl 2 rfl) ?_
  obtain ⟨r1, qr1, h⟩ := gn_bd h
  refine pc_S (rest := []) ⟨hx, hb, hml, hown, hts⟩ hN (c_X7_common l z _ _ r1 qr1) (va_cwS 2 hts gX7_lays_X7_common rfl rfl rfl (by decide +kernel) ⟨(Nat.le_of_ble_eq_true rfl), (Nat.le_of_ble_eq_true rfl)⟩) rfl hl.1 rfl (Nat.le_of_ble_eq_true rfl) dX7_lays_2 hcl hsl ?_
  refine lv_lstore (lv' := [(5, .long r1), (0, .ref (K.2.2.1 12)), (1, .long a0), (3, .long a1)]) hx hb dX7_lays_5 hl (by decide) rfl (fun ls hl => ?_)
  refine lv_lload_n hx hb dX7_lays_7 rfl (lv_at hl 3 rfl) ?_
  refine lv_lconst (v := (0 : Int64)) hx hb dX7_lays_8 (by decide) ?_
  refine ll_ge (tgt := 19) hx hb dX7_lays_9 dX7_lays_10 (by decide) (fun c2 => ?_) (fun c2 => ?_)
  · have h := gn_t h c2
    refine lv_lload hx hb dX7_lays_19 (lv_at hl 0 rfl) ?_
    exact w_X7_lays_21 Cc hK hF a0 a1 r1 S _ _ hP hD hS h ls (lv_sub hl [1, 2, 3] rfl)
  · have h := gn_f h c2
    refine lv_lload hx hb dX7_lays_13 (lv_at hl 0 rfl) ?_
    refine lv_lneg hx hb dX7_lays_15 ?_
    refine lv_goto (tgt := 21) hx hb dX7_lays_16 (by decide) ?_
    exact w_X7_lays_21 Cc hK hF a0 a1 (-r1) S _ _ hP hD hS h ls (lv_sub hl [1, 2, 3] rfl)
theorem in_X7_latest_X7 : ∀ w ∈ wsX70, w ∈ wsX7_latest := fun _ h => List.mem_cons_of_mem _ (List.mem_append_right _ h)
def rm_X7_latest : Room := { frames := 0, cells := 0, slots := 0, locals := 0 }
section
variable {p : Program} {l : Launch} {e : Env} {s : State} {m : MethodId} {args : Array Value} {below : List Frame} {meth : Method} {c : Code} {z : Nat} {K : Ev} {C : CS} {o : Nat → Int64} {g : Gh}
end
set_option maxRecDepth 100000 in
theorem c_X7_latest (l : Launch) (z : Nat) (K : Ev) (C : CS) (o : Nat → Int64) (g : Gh) (a0 : Int32) (S : MS) (r : Int64) (S' : MS) (h : F_X7_latest z a0 S = some (r, S')) : Met l yX7_latest wsX7_latest rm_X7_latest (qH K [.ref (K.2.2.1 12), .int a0] C S o g) (qR K (some (.long r)) C S' o g) 0 0 (inA K) := by
  refine Met.ofW (cc := cX7_latest) (maxL := 2) (ret := (some .long)) (by decide) rfl ?_
  intro p e s m args below meth c s₁ B hml hv
  obtain ⟨rfl, hN, hP, hK, hD, hF⟩ := hv
  have hx := B.exec
  have hb := B.bytes
  have hr := B.returns
  have hts := atoms_spec (ws := wsX7_latest) B.pre
  have hown : s.vm.findClass RX7 = some m.cls := findClass_of_methodNamed B.named
  have hlk := B.notSynchronized
  have hcl : 0 ≤ (rm_X7_latest).cells := Nat.zero_le _
  have hsl : 0 ≤ (rm_X7_latest).slots := Nat.zero_le _
  have Cc : Cx p s m _ meth c cX7_latest 2 RX7 wsX7_latest (some .long) := ⟨hx, hb, hml, hown, hts, hr, hlk, hN⟩
  have hS : va_S (inA K) s.heap s.heap [] := va_S.rf
  have hl := lv_entry ([.ref (K.2.2.1 12), .int a0]) (n := 2) (Nat.le_of_ble_eq_true rfl)
  rw [lg_entry_eq]
  generalize (lg_sl ([.ref (K.2.2.1 12), .int a0]) ++ List.replicate (2 - (lg_sl ([.ref (K.2.2.1 12), .int a0])).length) Slot.unset).toArray = ls at hl ⊢
  have hl : lv_has ls 2 [(0, .ref (K.2.2.1 12)), (1, .int a0)] := hl
  rw [F_X7_latest] at h
  refine lv_iload_n hx hb dX7_latest_0 rfl (lv_at hl 1 rfl) ?_
  refine lv_if_eq (tgt := 11) hx hb dX7_latest_1 (by decide) (fun c1 => ?_) (fun c1 => ?_)
  · have h := gn_t h c1
    refine lv_aload_n hx hb dX7_latest_11 rfl (lv_at hl 0 rfl) ?_
    refine va_get (D := K.1) (ci := 6) (v := .long (mg_up S)) (C := RX7) (T := TX7) (N := 24) hx hb hts in_X7_latest_X7 hown hK hP 12 rfl rfl 1 (by decide) (hts (.fieldLink RX7 48 "SawSumsModel" "up" "J") (by decide +kernel)) (fun _ h9 => h9) rfl dX7_latest_12 ?_
    obtain ⟨rfl, rfl⟩ := Prod.mk.inj (gn_some h)
    exact W.lret hx hb hr (fun t ht _ => ⟨rfl, by rw [ht]; exact hP, hD, hS.F ht⟩) hS.2.2 dX7_latest_15 hlk
  · have h := gn_f h c1
    refine lv_aload_n hx hb dX7_latest_4 rfl (lv_at hl 0 rfl) ?_
    refine va_get (D := K.1) (ci := 6) (v := .long (mg_under S)) (C := RX7) (T := TX7) (N := 24) hx hb hts in_X7_latest_X7 hown hK hP 12 rfl rfl 2 (by decide) (hts (.fieldLink RX7 51 "SawSumsModel" "under" "J") (by decide +kernel)) (fun _ h9 => h9) rfl dX7_latest_5 ?_
    refine lv_goto (tgt := 15) hx hb dX7_latest_8 (by decide) ?_
    obtain ⟨rfl, rfl⟩ := Prod.mk.inj (gn_some h)
    exact W.lret hx hb hr (fun t ht _ => ⟨rfl, by rw [ht]; exact hP, hD, hS.F ht⟩) hS.2.2 dX7_latest_15 hlk

def rm_X7_laysSum : Room := { frames := 3, cells := 0, slots := 0, locals := 89 }
section
variable {p : Program} {l : Launch} {e : Env} {s : State} {m : MethodId} {args : Array Value} {below : List Frame} {meth : Method} {c : Code} {z : Nat} {K : Ev} {C : CS} {o : Nat → Int64} {g : Gh}
end
set_option maxRecDepth 100000 in
theorem c_X7_laysSum (l : Launch) (z : Nat) (K : Ev) (C : CS) (o : Nat → Int64) (g : Gh) (a0 : Int64) (a1 : Int64) (S : MS)  (S' : MS) (h : F_X7_laysSum z a0 a1 S = some S') : Met l yX7_laysSum wsX7_laysSum rm_X7_laysSum (qH K [.ref (K.2.2.1 12), .long a0, .long a1] C S o g) (qR K none C S' o g) 0 0 (inA K) := by
  refine Met.ofW (cc := cX7_laysSum) (maxL := 7) (ret := none) (by decide) rfl ?_
  intro p e s m args below meth c s₁ B hml hv
  obtain ⟨rfl, hN, hP, hK, hD, hF⟩ := hv
  have hx := B.exec
  have hb := B.bytes
  have hr := B.returns
  have hts := atoms_spec (ws := wsX7_laysSum) B.pre
  have hown : s.vm.findClass RX7 = some m.cls := findClass_of_methodNamed B.named
  have hlk := B.notSynchronized
  have hcl : 0 ≤ (rm_X7_laysSum).cells := Nat.zero_le _
  have hsl : 0 ≤ (rm_X7_laysSum).slots := Nat.zero_le _
  have Cc : Cx p s m _ meth c cX7_laysSum 7 RX7 wsX7_laysSum none := ⟨hx, hb, hml, hown, hts, hr, hlk, hN⟩
  have hS : va_S (inA K) s.heap s.heap [] := va_S.rf
  have hl := lv_entry ([.ref (K.2.2.1 12), .long a0, .long a1]) (n := 7) (Nat.le_of_ble_eq_true rfl)
  rw [lg_entry_eq]
  generalize (lg_sl ([.ref (K.2.2.1 12), .long a0, .long a1]) ++ List.replicate (7 - (lg_sl ([.ref (K.2.2.1 12), .long a0, .long a1])).length) Slot.unset).toArray = ls at hl ⊢
  have hl : lv_has ls 7 [(0, .ref (K.2.2.1 12)), (1, .long a0), (3, .long a1)] := hl
  rw [F_X7_laysSum] at h
  refine lv_lload_n hx hb dX7_laysSum_0 rfl (lv_at hl 1 rfl) ?_
  refine lv_lload_n hx hb dX7_laysSum_1 rfl (lv_at hl 2 rfl) ?_
  obtain ⟨r1, qr1, h⟩ := gn_bd h
  refine pc_S (rest := []) ⟨hx, hb, hml, hown, hts⟩ hN (c_X7_common l z _ _ r1 qr1) (va_cwS 2 hts gX7_laysSum_X7_common rfl rfl rfl (by decide +kernel) ⟨(Nat.le_of_ble_eq_true rfl), (Nat.le_of_ble_eq_true rfl)⟩) rfl hl.1 rfl (Nat.le_of_ble_eq_true rfl) dX7_laysSum_2 hcl hsl ?_
  refine lv_lstore (lv' := [(5, .long r1), (0, .ref (K.2.2.1 12)), (1, .long a0), (3, .long a1)]) hx hb dX7_laysSum_5 hl (by decide) rfl (fun ls hl => ?_)
  refine lv_aload_n hx hb dX7_laysSum_7 rfl (lv_at hl 1 rfl) ?_
  refine lv_lload_n hx hb dX7_laysSum_8 rfl (lv_at hl 2 rfl) ?_
  refine lv_lload hx hb dX7_laysSum_9 (lv_at hl 0 rfl) ?_
  obtain ⟨n2, h⟩ := gn_nz h
  refine lv_ldiv hx hb dX7_laysSum_11 n2 ?_
  refine lv_lload_n hx hb dX7_laysSum_12 rfl (lv_at hl 3 rfl) ?_
  refine lv_lload hx hb dX7_laysSum_13 (lv_at hl 0 rfl) ?_
  obtain ⟨n3, h⟩ := gn_nz h
  refine lv_ldiv hx hb dX7_laysSum_15 n3 ?_
  obtain ⟨r4, qr4, h⟩ := gn_bd h
  refine pc_S (rest := [.ref (K.2.2.1 12)]) ⟨hx, hb, hml, hown, hts⟩ hN (c_X7_twelve l z _ _ r4 qr4) (va_cwS 2 hts gX7_laysSum_X7_twelve rfl rfl rfl (by decide +kernel) ⟨(Nat.le_of_ble_eq_true rfl), (Nat.le_of_ble_eq_true rfl)⟩) rfl hl.1 rfl (Nat.le_of_ble_eq_true rfl) dX7_laysSum_16 hcl hsl ?_
  refine lv_ldc2 hx hb hown (hts (.constantLong RX7 62 (12)) (by decide +kernel)) dX7_laysSum_19 ?_
  refine lv_lload_n hx hb dX7_laysSum_22 rfl (lv_at hl 3 rfl) ?_
  refine lv_lload hx hb dX7_laysSum_23 (lv_at hl 0 rfl) ?_
  obtain ⟨n5, h⟩ := gn_nz h
  refine lv_ldiv hx hb dX7_laysSum_25 n5 ?_
  refine lv_lmul hx hb dX7_laysSum_26 ?_
  obtain ⟨S6, qS6, h⟩ := gn_bd h
  refine hc_V (rest := []) ⟨hx, hb, hml, hown, hts⟩ hN hF hK hP hD hS (c_X7_lays l z K _ o g _ _ _  S6 qS6) (cwV 2 hts gX7_laysSum_X7_lays rfl rfl rfl (by decide +kernel) ⟨(Nat.le_of_ble_eq_true rfl), (Nat.le_of_ble_eq_true rfl)⟩) (va_recv hK hP (ci := 6) (q0 := 12) rfl rfl) rfl hl.1 rfl (Nat.le_of_ble_eq_true rfl) dX7_laysSum_27 hcl hsl (fun H locs hP hD hS => ?_)
  have hP : va_P K.1 vwCl (wd K C S6 o g) H := hP
  have hD : va_D (inA K) (wd K C S6 o g) := hD
  refine W.eq (g2 := F0 m 30 ls []) rfl ?_
  obtain rfl := gn_some h
  exact W.vret hx hb hr (fun t ht _ => ⟨rfl, by rw [ht]; exact hP, hD, hS.F ht⟩) hS.2.2 dX7_laysSum_30 hlk
theorem in_X7_laysSaw_X7 : ∀ w ∈ wsX70, w ∈ wsX7_laysSaw := fun _ h => List.mem_cons_of_mem _ (List.mem_append_right _ h)
def rm_X7_laysSaw : Room := { frames := 3, cells := 0, slots := 0, locals := 76 }
section
variable {p : Program} {l : Launch} {e : Env} {s : State} {m : MethodId} {args : Array Value} {below : List Frame} {meth : Method} {c : Code} {z : Nat} {K : Ev} {C : CS} {o : Nat → Int64} {g : Gh}
end
set_option maxRecDepth 100000 in
theorem c_X7_laysSaw (l : Launch) (z : Nat) (K : Ev) (C : CS) (o : Nat → Int64) (g : Gh) (a0 : Int64) (a1 : Int64) (S : MS)  (S' : MS) (h : F_X7_laysSaw z a0 a1 S = some S') : Met l yX7_laysSaw wsX7_laysSaw rm_X7_laysSaw (qH K [.ref (K.2.2.1 12), .long a0, .long a1] C S o g) (qR K none C S' o g) 0 0 (inA K) := by
  refine Met.ofW (cc := cX7_laysSaw) (maxL := 7) (ret := none) (by decide) rfl ?_
  intro p e s m args below meth c s₁ B hml hv
  obtain ⟨rfl, hN, hP, hK, hD, hF⟩ := hv
  have hx := B.exec
  have hb := B.bytes
  have hr := B.returns
  have hts := atoms_spec (ws := wsX7_laysSaw) B.pre
  have hown : s.vm.findClass RX7 = some m.cls := findClass_of_methodNamed B.named
  have hlk := B.notSynchronized
  have hcl : 0 ≤ (rm_X7_laysSaw).cells := Nat.zero_le _
  have hsl : 0 ≤ (rm_X7_laysSaw).slots := Nat.zero_le _
  have Cc : Cx p s m _ meth c cX7_laysSaw 7 RX7 wsX7_laysSaw none := ⟨hx, hb, hml, hown, hts, hr, hlk, hN⟩
  have hS : va_S (inA K) s.heap s.heap [] := va_S.rf
  have hl := lv_entry ([.ref (K.2.2.1 12), .long a0, .long a1]) (n := 7) (Nat.le_of_ble_eq_true rfl)
  rw [lg_entry_eq]
  generalize (lg_sl ([.ref (K.2.2.1 12), .long a0, .long a1]) ++ List.replicate (7 - (lg_sl ([.ref (K.2.2.1 12), .long a0, .long a1])).length) Slot.unset).toArray = ls at hl ⊢
  have hl : lv_has ls 7 [(0, .ref (K.2.2.1 12)), (1, .long a0), (3, .long a1)] := hl
  rw [F_X7_laysSaw] at h
  refine lv_aload_n hx hb dX7_laysSaw_0 rfl (lv_at hl 0 rfl) ?_
  refine lv_lload_n hx hb dX7_laysSaw_1 rfl (lv_at hl 1 rfl) ?_
  refine lv_lload_n hx hb dX7_laysSaw_2 rfl (lv_at hl 2 rfl) ?_
  obtain ⟨S1, qS1, h⟩ := gn_bd h
  refine hc_V (rest := []) ⟨hx, hb, hml, hown, hts⟩ hN hF hK hP hD hS (c_X7_lays l z K _ o g _ _ _  S1 qS1) (cwV 2 hts gX7_laysSaw_X7_lays rfl rfl rfl (by decide +kernel) ⟨(Nat.le_of_ble_eq_true rfl), (Nat.le_of_ble_eq_true rfl)⟩) (va_recv hK hP (ci := 6) (q0 := 12) rfl rfl) rfl hl.1 rfl (Nat.le_of_ble_eq_true rfl) dX7_laysSaw_3 hcl hsl (fun H locs hP hD hS => ?_)
  have hP : va_P K.1 vwCl (wd K C S1 o g) H := hP
  have hD : va_D (inA K) (wd K C S1 o g) := hD
  refine W.eq (g2 := F0 m 6 ls []) rfl ?_
  refine lv_aload_n hx hb dX7_laysSaw_6 rfl (lv_at hl 0 rfl) ?_
  refine va_get (D := K.1) (ci := 6) (v := .long (mg_up S1)) (C := RX7) (T := TX7) (N := 24) hx hb hts in_X7_laysSaw_X7 hown hK hP 12 rfl rfl 1 (by decide) (hts (.fieldLink RX7 48 "SawSumsModel" "up" "J") (by decide +kernel)) (fun _ h9 => h9) rfl dX7_laysSaw_7 ?_
  refine lv_aload_n hx hb dX7_laysSaw_10 rfl (lv_at hl 0 rfl) ?_
  refine va_get (D := K.1) (ci := 6) (v := .long (mg_under S1)) (C := RX7) (T := TX7) (N := 24) hx hb hts in_X7_laysSaw_X7 hown hK hP 12 rfl rfl 2 (by decide) (hts (.fieldLink RX7 51 "SawSumsModel" "under" "J") (by decide +kernel)) (fun _ h9 => h9) rfl dX7_laysSaw_11 ?_
  obtain ⟨r2, qr2, h⟩ := gn_bd h
  refine pc_S (rest := []) ⟨hx, hb, hml, hown, hts⟩ hN (c_X7_rest l z _ _ r2 qr2) (va_cwS 2 hts gX7_laysSaw_X7_rest rfl rfl rfl (by decide +kernel) ⟨(Nat.le_of_ble_eq_true rfl), (Nat.le_of_ble_eq_true rfl)⟩) rfl hl.1 rfl (Nat.le_of_ble_eq_true rfl) dX7_laysSaw_14 hcl hsl ?_
  refine lv_lstore (lv' := [(5, .long r2), (0, .ref (K.2.2.1 12)), (1, .long a0), (3, .long a1)]) hx hb dX7_laysSaw_17 hl (by decide) rfl (fun ls hl => ?_)
  refine lv_aload_n hx hb dX7_laysSaw_19 rfl (lv_at hl 1 rfl) ?_
  refine va_get (D := K.1) (ci := 6) (v := .long (mg_under S1)) (C := RX7) (T := TX7) (N := 24) hx hb hts in_X7_laysSaw_X7 hown hK hP 12 rfl rfl 2 (by decide) (hts (.fieldLink RX7 51 "SawSumsModel" "under" "J") (by decide +kernel)) (fun _ h9 => h9) rfl dX7_laysSaw_20 ?_
  refine lv_lconst (v := (1 : Int64)) hx hb dX7_laysSaw_23 (by decide) ?_
  refine ll_ne (tgt := 37) hx hb dX7_laysSaw_24 dX7_laysSaw_25 (by decide) (fun c3 => ?_) (fun c3 => ?_)
  · have h := gn_f h c3
    refine lv_aload_n hx hb dX7_laysSaw_37 rfl (lv_at hl 1 rfl) ?_
    refine lv_ldc2 hx hb hown (hts (.constantLong RX7 85 (2)) (by decide +kernel)) dX7_laysSaw_38 ?_
    refine lv_lload hx hb dX7_laysSaw_41 (lv_at hl 0 rfl) ?_
    refine lv_lmul hx hb dX7_laysSaw_43 ?_
    refine lv_aload_n hx hb dX7_laysSaw_44 rfl (lv_at hl 1 rfl) ?_
    refine va_get (D := K.1) (ci := 6) (v := .long (mg_under S1)) (C := RX7) (T := TX7) (N := 24) hx hb hts in_X7_laysSaw_X7 hown hK hP 12 rfl rfl 2 (by decide) (hts (.fieldLink RX7 51 "SawSumsModel" "under" "J") (by decide +kernel)) (fun _ h9 => h9) rfl dX7_laysSaw_45 ?_
    refine lv_lsub hx hb dX7_laysSaw_48 ?_
    refine lv_ldc2 hx hb hown (hts (.constantLong RX7 85 (2)) (by decide +kernel)) dX7_laysSaw_49 ?_
    refine lv_aload_n hx hb dX7_laysSaw_52 rfl (lv_at hl 1 rfl) ?_
    refine va_get (D := K.1) (ci := 6) (v := .long (mg_under S1)) (C := RX7) (T := TX7) (N := 24) hx hb hts in_X7_laysSaw_X7 hown hK hP 12 rfl rfl 2 (by decide) (hts (.fieldLink RX7 51 "SawSumsModel" "under" "J") (by decide +kernel)) (fun _ h9 => h9) rfl dX7_laysSaw_53 ?_
    refine lv_lmul hx hb dX7_laysSaw_56 ?_
    obtain ⟨S4, qS4, h⟩ := gn_bd h
    refine hc_V (rest := []) ⟨hx, hb, hml, hown, hts⟩ hN hF hK hP hD hS (c_X7_lays l z K _ o g _ _ _  S4 qS4) (cwV 2 hts gX7_laysSaw_X7_lays rfl rfl rfl (by decide +kernel) ⟨(Nat.le_of_ble_eq_true rfl), (Nat.le_of_ble_eq_true rfl)⟩) (va_recv hK hP (ci := 6) (q0 := 12) rfl rfl) rfl hl.1 rfl (Nat.le_of_ble_eq_true rfl) dX7_laysSaw_57 hcl hsl (fun H locs hP hD hS => ?_)
    have hP : va_P K.1 vwCl (wd K C S4 o g) H := hP
    have hD : va_D (inA K) (wd K C S4 o g) := hD
    refine W.eq (g2 := F0 m 60 ls []) rfl ?_
    obtain rfl := gn_some h
    exact W.vret hx hb hr (fun t ht _ => ⟨rfl, by rw [ht]; exact hP, hD, hS.F ht⟩) hS.2.2 dX7_laysSaw_60 hlk
  · have h := gn_t h c3
    refine lv_aload_n hx hb dX7_laysSaw_28 rfl (lv_at hl 1 rfl) ?_
    refine lv_lconst (v := (0 : Int64)) hx hb dX7_laysSaw_29 (by decide) ?_
    refine lv_lconst (v := (1 : Int64)) hx hb dX7_laysSaw_30 (by decide) ?_
    obtain ⟨S5, qS5, h⟩ := gn_bd h
    refine hc_V (rest := []) ⟨hx, hb, hml, hown, hts⟩ hN hF hK hP hD hS (c_X7_lays l z K _ o g _ _ _  S5 qS5) (cwV 2 hts gX7_laysSaw_X7_lays rfl rfl rfl (by decide +kernel) ⟨(Nat.le_of_ble_eq_true rfl), (Nat.le_of_ble_eq_true rfl)⟩) (va_recv hK hP (ci := 6) (q0 := 12) rfl rfl) rfl hl.1 rfl (Nat.le_of_ble_eq_true rfl) dX7_laysSaw_31 hcl hsl (fun H locs hP hD hS => ?_)
    have hP : va_P K.1 vwCl (wd K C S5 o g) H := hP
    have hD : va_D (inA K) (wd K C S5 o g) := hD
    refine W.eq (g2 := F0 m 34 ls []) rfl ?_
    refine lv_goto (tgt := 60) hx hb dX7_laysSaw_34 (by decide) ?_
    obtain rfl := gn_some h
    exact W.vret hx hb hr (fun t ht _ => ⟨rfl, by rw [ht]; exact hP, hD, hS.F ht⟩) hS.2.2 dX7_laysSaw_60 hlk
theorem in_X7_saw_X7 : ∀ w ∈ wsX70, w ∈ wsX7_saw := fun _ h => List.mem_cons_of_mem _ (List.mem_append_right _ h)
def rm_X7_saw : Room := { frames := 4, cells := 0, slots := 0, locals := 102 }
section
variable {p : Program} {l : Launch} {e : Env} {s : State} {m : MethodId} {args : Array Value} {below : List Frame} {meth : Method} {c : Code} {z : Nat} {K : Ev} {C : CS} {o : Nat → Int64} {g : Gh}
end
set_option maxRecDepth 100000 in
theorem c_X7_saw (l : Launch) (z : Nat) (K : Ev) (C : CS) (o : Nat → Int64) (g : Gh) (a0 : Int32) (a1 : Int32) (a2 : Int32) (S : MS) (r : Int64) (S' : MS) (h : F_X7_saw z a0 a1 a2 S = some (r, S')) : Met l yX7_saw wsX7_saw rm_X7_saw (qH K [.ref (K.2.2.1 12), .int a0, .int a1, .int a2] C S o g) (qR K (some (.long r)) C S' o g) 0 0 (inA K) := by
  refine Met.ofW (cc := cX7_saw) (maxL := 4) (ret := (some .long)) (by decide) rfl ?_
  intro p e s m args below meth c s₁ B hml hv
  obtain ⟨rfl, hN, hP, hK, hD, hF⟩ := hv
  have hx := B.exec
  have hb := B.bytes
  have hr := B.returns
  have hts := atoms_spec (ws := wsX7_saw) B.pre
  have hown : s.vm.findClass RX7 = some m.cls := findClass_of_methodNamed B.named
  have hlk := B.notSynchronized
  have hcl : 0 ≤ (rm_X7_saw).cells := Nat.zero_le _
  have hsl : 0 ≤ (rm_X7_saw).slots := Nat.zero_le _
  have Cc : Cx p s m _ meth c cX7_saw 4 RX7 wsX7_saw (some .long) := ⟨hx, hb, hml, hown, hts, hr, hlk, hN⟩
  have hS : va_S (inA K) s.heap s.heap [] := va_S.rf
  have hl := lv_entry ([.ref (K.2.2.1 12), .int a0, .int a1, .int a2]) (n := 4) (Nat.le_of_ble_eq_true rfl)
  rw [lg_entry_eq]
  generalize (lg_sl ([.ref (K.2.2.1 12), .int a0, .int a1, .int a2]) ++ List.replicate (4 - (lg_sl ([.ref (K.2.2.1 12), .int a0, .int a1, .int a2])).length) Slot.unset).toArray = ls at hl ⊢
  have hl : lv_has ls 4 [(0, .ref (K.2.2.1 12)), (1, .int a0), (2, .int a1), (3, .int a2)] := hl
  rw [F_X7_saw] at h
  refine lv_aload_n hx hb dX7_saw_0 rfl (lv_at hl 0 rfl) ?_
  refine lv_iconst (v := (0 : Int32)) hx hb dX7_saw_1 (by decide) ?_
  obtain ⟨S1, eS1, h⟩ := gn_nm h
  refine va_put (D := K.1) (ci := 6) (v := .int (0 : Int32)) (ty := .int) (C := RX7) (T := TX7) (N := 24) hx hb hts in_X7_saw_X7 tyX7 tyX7_ok nmX7 hown hK hP hD hS 12 rfl rfl 0 (by decide) (hts (.fieldLink RX7 33 "SawSumsModel" "thrown" "I") (by decide +kernel)) (fun _ h9 => h9) rfl (by decide +kernel) rfl rfl (Nat.le_of_ble_eq_true rfl) dX7_saw_2 (fun H locs hP hD hS => ?_)
  have hP : va_P K.1 vwCl (wd K C S1 o g) H := by rw [eS1]; exact hP
  have hD : va_D (inA K) (wd K C S1 o g) := by rw [eS1]; exact hD
  refine lv_iload_n hx hb dX7_saw_5 rfl (lv_at hl 2 rfl) ?_
  refine lv_if_eq (tgt := 37) hx hb dX7_saw_6 (by decide) (fun c2 => ?_) (fun c2 => ?_)
  · have h := gn_t h c2
    refine lv_ldc2 hx hb hown (hts (.constantLong RX7 76 (-4000000000000000000)) (by decide +kernel)) dX7_saw_37 ?_
    obtain ⟨rfl, rfl⟩ := Prod.mk.inj (gn_some h)
    exact W.lret hx hb hr (fun t ht _ => ⟨rfl, by rw [ht]; exact hP, hD, hS.F ht⟩) hS.2.2 dX7_saw_40 hlk
  · have h := gn_f h c2
    refine lv_iload_n hx hb dX7_saw_9 rfl (lv_at hl 1 rfl) ?_
    refine lv_i2l hx hb dX7_saw_10 rfl ?_
    refine lv_ldc2 hx hb hown (hts (.constantLong RX7 68 (-1000000000)) (by decide +kernel)) dX7_saw_11 ?_
    refine lv_ldc2 hx hb hown (hts (.constantLong RX7 70 (1000000000)) (by decide +kernel)) dX7_saw_14 ?_
    obtain ⟨r3, qr3, h⟩ := gn_bd h
    refine pc_S (rest := []) ⟨hx, hb, hml, hown, hts⟩ hN (c_X7_isIn l z _ _ _ r3 qr3) (va_cwS 3 hts gX7_saw_X7_isIn rfl rfl rfl (by decide +kernel) ⟨(Nat.le_of_ble_eq_true rfl), (Nat.le_of_ble_eq_true rfl)⟩) rfl hl.1 rfl (Nat.le_of_ble_eq_true rfl) dX7_saw_17 hcl hsl ?_
    refine lv_if_eq (tgt := 37) hx hb dX7_saw_20 (by decide) (fun c4 => ?_) (fun c4 => ?_)
    · have h := gn_t h c4
      refine lv_ldc2 hx hb hown (hts (.constantLong RX7 76 (-4000000000000000000)) (by decide +kernel)) dX7_saw_37 ?_
      obtain ⟨rfl, rfl⟩ := Prod.mk.inj (gn_some h)
      exact W.lret hx hb hr (fun t ht _ => ⟨rfl, by rw [ht]; exact hP, hD, hS.F ht⟩) hS.2.2 dX7_saw_40 hlk
    · have h := gn_f h c4
      refine lv_iload_n hx hb dX7_saw_23 rfl (lv_at hl 2 rfl) ?_
      refine lv_i2l hx hb dX7_saw_24 rfl ?_
      refine lv_ldc2 hx hb hown (hts (.constantLong RX7 68 (-1000000000)) (by decide +kernel)) dX7_saw_25 ?_
      refine lv_ldc2 hx hb hown (hts (.constantLong RX7 70 (1000000000)) (by decide +kernel)) dX7_saw_28 ?_
      obtain ⟨r5, qr5, h⟩ := gn_bd h
      refine pc_S (rest := []) ⟨hx, hb, hml, hown, hts⟩ hN (c_X7_isIn l z _ _ _ r5 qr5) (va_cwS 3 hts gX7_saw_X7_isIn rfl rfl rfl (by decide +kernel) ⟨(Nat.le_of_ble_eq_true rfl), (Nat.le_of_ble_eq_true rfl)⟩) rfl hl.1 rfl (Nat.le_of_ble_eq_true rfl) dX7_saw_31 hcl hsl ?_
      refine lv_if_ne (tgt := 41) hx hb dX7_saw_34 (by decide) (fun c6 => ?_) (fun c6 => ?_)
      · have h := gn_f h c6
        refine lv_aload_n hx hb dX7_saw_41 rfl (lv_at hl 0 rfl) ?_
        refine lv_iload_n hx hb dX7_saw_42 rfl (lv_at hl 1 rfl) ?_
        refine lv_i2l hx hb dX7_saw_43 rfl ?_
        refine lv_iload_n hx hb dX7_saw_44 rfl (lv_at hl 2 rfl) ?_
        refine lv_i2l hx hb dX7_saw_45 rfl ?_
        obtain ⟨S7, qS7, h⟩ := gn_bd h
        refine hc_V (rest := []) ⟨hx, hb, hml, hown, hts⟩ hN hF hK hP hD hS (c_X7_laysSaw l z K _ o g _ _ _  S7 qS7) (cwV 2 hts gX7_saw_X7_laysSaw rfl rfl rfl (by decide +kernel) ⟨(Nat.le_of_ble_eq_true rfl), (Nat.le_of_ble_eq_true rfl)⟩) (va_recv hK hP (ci := 6) (q0 := 12) rfl rfl) rfl hl.1 rfl (Nat.le_of_ble_eq_true rfl) dX7_saw_46 hcl hsl (fun H locs hP hD hS => ?_)
        have hP : va_P K.1 vwCl (wd K C S7 o g) H := hP
        have hD : va_D (inA K) (wd K C S7 o g) := hD
        refine W.eq (g2 := F0 m 49 ls []) rfl ?_
        refine lv_aload_n hx hb dX7_saw_49 rfl (lv_at hl 0 rfl) ?_
        refine lv_iload_n hx hb dX7_saw_50 rfl (lv_at hl 3 rfl) ?_
        obtain ⟨r8, S9, qS9, h⟩ := gn_bd2 h
        refine hc_V (rest := []) ⟨hx, hb, hml, hown, hts⟩ hN hF hK hP hD hS (c_X7_latest l z K _ o g _ _ r8 S9 qS9) (cwV 1 hts gX7_saw_X7_latest rfl rfl rfl (by decide +kernel) ⟨(Nat.le_of_ble_eq_true rfl), (Nat.le_of_ble_eq_true rfl)⟩) (va_recv hK hP (ci := 6) (q0 := 12) rfl rfl) rfl hl.1 rfl (Nat.le_of_ble_eq_true rfl) dX7_saw_51 hcl hsl (fun H locs hP hD hS => ?_)
        have hP : va_P K.1 vwCl (wd K C S9 o g) H := hP
        have hD : va_D (inA K) (wd K C S9 o g) := hD
        refine W.eq (g2 := F0 m 54 ls [.long r8]) rfl ?_
        obtain ⟨rfl, rfl⟩ := Prod.mk.inj (gn_some h)
        exact W.lret hx hb hr (fun t ht _ => ⟨rfl, by rw [ht]; exact hP, hD, hS.F ht⟩) hS.2.2 dX7_saw_54 hlk
      · have h := gn_t h c6
        refine lv_ldc2 hx hb hown (hts (.constantLong RX7 76 (-4000000000000000000)) (by decide +kernel)) dX7_saw_37 ?_
        obtain ⟨rfl, rfl⟩ := Prod.mk.inj (gn_some h)
        exact W.lret hx hb hr (fun t ht _ => ⟨rfl, by rw [ht]; exact hP, hD, hS.F ht⟩) hS.2.2 dX7_saw_40 hlk
theorem in_X7_sum_X7 : ∀ w ∈ wsX70, w ∈ wsX7_sum := fun _ h => List.mem_cons_of_mem _ (List.mem_append_right _ h)
def rm_X7_sum : Room := { frames := 4, cells := 0, slots := 0, locals := 115 }
section
variable {p : Program} {l : Launch} {e : Env} {s : State} {m : MethodId} {args : Array Value} {below : List Frame} {meth : Method} {c : Code} {z : Nat} {K : Ev} {C : CS} {o : Nat → Int64} {g : Gh}
end
set_option maxRecDepth 100000 in
theorem c_X7_sum (l : Launch) (z : Nat) (K : Ev) (C : CS) (o : Nat → Int64) (g : Gh) (a0 : Int32) (a1 : Int32) (a2 : Int32) (S : MS) (r : Int64) (S' : MS) (h : F_X7_sum z a0 a1 a2 S = some (r, S')) : Met l yX7_sum wsX7_sum rm_X7_sum (qH K [.ref (K.2.2.1 12), .int a0, .int a1, .int a2] C S o g) (qR K (some (.long r)) C S' o g) 0 0 (inA K) := by
  refine Met.ofW (cc := cX7_sum) (maxL := 4) (ret := (some .long)) (by decide) rfl ?_
  intro p e s m args below meth c s₁ B hml hv
  obtain ⟨rfl, hN, hP, hK, hD, hF⟩ := hv
  have hx := B.exec
  have hb := B.bytes
  have hr := B.returns
  have hts := atoms_spec (ws := wsX7_sum) B.pre
  have hown : s.vm.findClass RX7 = some m.cls := findClass_of_methodNamed B.named
  have hlk := B.notSynchronized
  have hcl : 0 ≤ (rm_X7_sum).cells := Nat.zero_le _
  have hsl : 0 ≤ (rm_X7_sum).slots := Nat.zero_le _
  have Cc : Cx p s m _ meth c cX7_sum 4 RX7 wsX7_sum (some .long) := ⟨hx, hb, hml, hown, hts, hr, hlk, hN⟩
  have hS : va_S (inA K) s.heap s.heap [] := va_S.rf
  have hl := lv_entry ([.ref (K.2.2.1 12), .int a0, .int a1, .int a2]) (n := 4) (Nat.le_of_ble_eq_true rfl)
  rw [lg_entry_eq]
  generalize (lg_sl ([.ref (K.2.2.1 12), .int a0, .int a1, .int a2]) ++ List.replicate (4 - (lg_sl ([.ref (K.2.2.1 12), .int a0, .int a1, .int a2])).length) Slot.unset).toArray = ls at hl ⊢
  have hl : lv_has ls 4 [(0, .ref (K.2.2.1 12)), (1, .int a0), (2, .int a1), (3, .int a2)] := hl
  rw [F_X7_sum] at h
  refine lv_aload_n hx hb dX7_sum_0 rfl (lv_at hl 0 rfl) ?_
  refine lv_iconst (v := (0 : Int32)) hx hb dX7_sum_1 (by decide) ?_
  obtain ⟨S1, eS1, h⟩ := gn_nm h
  refine va_put (D := K.1) (ci := 6) (v := .int (0 : Int32)) (ty := .int) (C := RX7) (T := TX7) (N := 24) hx hb hts in_X7_sum_X7 tyX7 tyX7_ok nmX7 hown hK hP hD hS 12 rfl rfl 0 (by decide) (hts (.fieldLink RX7 33 "SawSumsModel" "thrown" "I") (by decide +kernel)) (fun _ h9 => h9) rfl (by decide +kernel) rfl rfl (Nat.le_of_ble_eq_true rfl) dX7_sum_2 (fun H locs hP hD hS => ?_)
  have hP : va_P K.1 vwCl (wd K C S1 o g) H := by rw [eS1]; exact hP
  have hD : va_D (inA K) (wd K C S1 o g) := by rw [eS1]; exact hD
  refine lv_iload_n hx hb dX7_sum_5 rfl (lv_at hl 2 rfl) ?_
  refine lv_i2l hx hb dX7_sum_6 rfl ?_
  refine lv_lconst (v := (1 : Int64)) hx hb dX7_sum_7 (by decide) ?_
  refine lv_ldc2 hx hb hown (hts (.constantLong RX7 70 (1000000000)) (by decide +kernel)) dX7_sum_8 ?_
  obtain ⟨r2, qr2, h⟩ := gn_bd h
  refine pc_S (rest := []) ⟨hx, hb, hml, hown, hts⟩ hN (c_X7_isIn l z _ _ _ r2 qr2) (va_cwS 3 hts gX7_sum_X7_isIn rfl rfl rfl (by decide +kernel) ⟨(Nat.le_of_ble_eq_true rfl), (Nat.le_of_ble_eq_true rfl)⟩) rfl hl.1 rfl (Nat.le_of_ble_eq_true rfl) dX7_sum_11 hcl hsl ?_
  refine lv_if_ne (tgt := 21) hx hb dX7_sum_14 (by decide) (fun c3 => ?_) (fun c3 => ?_)
  · have h := gn_f h c3
    refine lv_aload_n hx hb dX7_sum_21 rfl (lv_at hl 0 rfl) ?_
    refine lv_iload_n hx hb dX7_sum_22 rfl (lv_at hl 1 rfl) ?_
    refine lv_i2l hx hb dX7_sum_23 rfl ?_
    refine lv_iload_n hx hb dX7_sum_24 rfl (lv_at hl 2 rfl) ?_
    refine lv_i2l hx hb dX7_sum_25 rfl ?_
    obtain ⟨S4, qS4, h⟩ := gn_bd h
    refine hc_V (rest := []) ⟨hx, hb, hml, hown, hts⟩ hN hF hK hP hD hS (c_X7_laysSum l z K _ o g _ _ _  S4 qS4) (cwV 2 hts gX7_sum_X7_laysSum rfl rfl rfl (by decide +kernel) ⟨(Nat.le_of_ble_eq_true rfl), (Nat.le_of_ble_eq_true rfl)⟩) (va_recv hK hP (ci := 6) (q0 := 12) rfl rfl) rfl hl.1 rfl (Nat.le_of_ble_eq_true rfl) dX7_sum_26 hcl hsl (fun H locs hP hD hS => ?_)
    have hP : va_P K.1 vwCl (wd K C S4 o g) H := hP
    have hD : va_D (inA K) (wd K C S4 o g) := hD
    refine W.eq (g2 := F0 m 29 ls []) rfl ?_
    refine lv_aload_n hx hb dX7_sum_29 rfl (lv_at hl 0 rfl) ?_
    refine lv_iload_n hx hb dX7_sum_30 rfl (lv_at hl 3 rfl) ?_
    obtain ⟨r5, S6, qS6, h⟩ := gn_bd2 h
    refine hc_V (rest := []) ⟨hx, hb, hml, hown, hts⟩ hN hF hK hP hD hS (c_X7_latest l z K _ o g _ _ r5 S6 qS6) (cwV 1 hts gX7_sum_X7_latest rfl rfl rfl (by decide +kernel) ⟨(Nat.le_of_ble_eq_true rfl), (Nat.le_of_ble_eq_true rfl)⟩) (va_recv hK hP (ci := 6) (q0 := 12) rfl rfl) rfl hl.1 rfl (Nat.le_of_ble_eq_true rfl) dX7_sum_31 hcl hsl (fun H locs hP hD hS => ?_)
    have hP : va_P K.1 vwCl (wd K C S6 o g) H := hP
    have hD : va_D (inA K) (wd K C S6 o g) := hD
    refine W.eq (g2 := F0 m 34 ls [.long r5]) rfl ?_
    obtain ⟨rfl, rfl⟩ := Prod.mk.inj (gn_some h)
    exact W.lret hx hb hr (fun t ht _ => ⟨rfl, by rw [ht]; exact hP, hD, hS.F ht⟩) hS.2.2 dX7_sum_34 hlk
  · have h := gn_t h c3
    refine lv_ldc2 hx hb hown (hts (.constantLong RX7 76 (-4000000000000000000)) (by decide +kernel)) dX7_sum_17 ?_
    obtain ⟨rfl, rfl⟩ := Prod.mk.inj (gn_some h)
    exact W.lret hx hb hr (fun t ht _ => ⟨rfl, by rw [ht]; exact hP, hD, hS.F ht⟩) hS.2.2 dX7_sum_20 hlk
theorem in_X7_adds_X7 : ∀ w ∈ wsX70, w ∈ wsX7_adds := fun _ h => List.mem_cons_of_mem _ (List.mem_append_right _ h)
def rm_X7_adds : Room := { frames := 3, cells := 0, slots := 0, locals := 76 }
section
variable {p : Program} {l : Launch} {e : Env} {s : State} {m : MethodId} {args : Array Value} {below : List Frame} {meth : Method} {c : Code} {z : Nat} {K : Ev} {C : CS} {o : Nat → Int64} {g : Gh}
end
set_option maxRecDepth 100000 in
theorem c_X7_adds (l : Launch) (z : Nat) (K : Ev) (C : CS) (o : Nat → Int64) (g : Gh) (a0 : Int64) (a1 : Int64) (S : MS)  (S' : MS) (h : F_X7_adds z a0 a1 S = some S') : Met l yX7_adds wsX7_adds rm_X7_adds (qH K [.ref (K.2.2.1 12), .long a0, .long a1] C S o g) (qR K none C S' o g) 0 0 (inA K) := by
  refine Met.ofW (cc := cX7_adds) (maxL := 5) (ret := none) (by decide) rfl ?_
  intro p e s m args below meth c s₁ B hml hv
  obtain ⟨rfl, hN, hP, hK, hD, hF⟩ := hv
  have hx := B.exec
  have hb := B.bytes
  have hr := B.returns
  have hts := atoms_spec (ws := wsX7_adds) B.pre
  have hown : s.vm.findClass RX7 = some m.cls := findClass_of_methodNamed B.named
  have hlk := B.notSynchronized
  have hcl : 0 ≤ (rm_X7_adds).cells := Nat.zero_le _
  have hsl : 0 ≤ (rm_X7_adds).slots := Nat.zero_le _
  have Cc : Cx p s m _ meth c cX7_adds 5 RX7 wsX7_adds none := ⟨hx, hb, hml, hown, hts, hr, hlk, hN⟩
  have hS : va_S (inA K) s.heap s.heap [] := va_S.rf
  have hl := lv_entry ([.ref (K.2.2.1 12), .long a0, .long a1]) (n := 5) (Nat.le_of_ble_eq_true rfl)
  rw [lg_entry_eq]
  generalize (lg_sl ([.ref (K.2.2.1 12), .long a0, .long a1]) ++ List.replicate (5 - (lg_sl ([.ref (K.2.2.1 12), .long a0, .long a1])).length) Slot.unset).toArray = ls at hl ⊢
  have hl : lv_has ls 5 [(0, .ref (K.2.2.1 12)), (1, .long a0), (3, .long a1)] := hl
  rw [F_X7_adds] at h
  refine lv_aload_n hx hb dX7_adds_0 rfl (lv_at hl 0 rfl) ?_
  refine lv_aload_n hx hb dX7_adds_1 rfl (lv_at hl 0 rfl) ?_
  refine va_get (D := K.1) (ci := 6) (v := .long (mg_up S)) (C := RX7) (T := TX7) (N := 24) hx hb hts in_X7_adds_X7 hown hK hP 12 rfl rfl 1 (by decide) (hts (.fieldLink RX7 48 "SawSumsModel" "up" "J") (by decide +kernel)) (fun _ h9 => h9) rfl dX7_adds_2 ?_
  refine lv_lload_n hx hb dX7_adds_5 rfl (lv_at hl 2 rfl) ?_
  refine lv_lmul hx hb dX7_adds_6 ?_
  refine lv_lload_n hx hb dX7_adds_7 rfl (lv_at hl 1 rfl) ?_
  refine lv_aload_n hx hb dX7_adds_8 rfl (lv_at hl 0 rfl) ?_
  refine va_get (D := K.1) (ci := 6) (v := .long (mg_under S)) (C := RX7) (T := TX7) (N := 24) hx hb hts in_X7_adds_X7 hown hK hP 12 rfl rfl 2 (by decide) (hts (.fieldLink RX7 51 "SawSumsModel" "under" "J") (by decide +kernel)) (fun _ h9 => h9) rfl dX7_adds_9 ?_
  refine lv_lmul hx hb dX7_adds_12 ?_
  refine lv_ladd hx hb dX7_adds_13 ?_
  refine lv_aload_n hx hb dX7_adds_14 rfl (lv_at hl 0 rfl) ?_
  refine va_get (D := K.1) (ci := 6) (v := .long (mg_under S)) (C := RX7) (T := TX7) (N := 24) hx hb hts in_X7_adds_X7 hown hK hP 12 rfl rfl 2 (by decide) (hts (.fieldLink RX7 51 "SawSumsModel" "under" "J") (by decide +kernel)) (fun _ h9 => h9) rfl dX7_adds_15 ?_
  refine lv_lload_n hx hb dX7_adds_18 rfl (lv_at hl 2 rfl) ?_
  refine lv_lmul hx hb dX7_adds_19 ?_
  obtain ⟨S1, qS1, h⟩ := gn_bd h
  refine hc_V (rest := []) ⟨hx, hb, hml, hown, hts⟩ hN hF hK hP hD hS (c_X7_lays l z K _ o g _ _ _  S1 qS1) (cwV 2 hts gX7_adds_X7_lays rfl rfl rfl (by decide +kernel) ⟨(Nat.le_of_ble_eq_true rfl), (Nat.le_of_ble_eq_true rfl)⟩) (va_recv hK hP (ci := 6) (q0 := 12) rfl rfl) rfl hl.1 rfl (Nat.le_of_ble_eq_true rfl) dX7_adds_20 hcl hsl (fun H locs hP hD hS => ?_)
  have hP : va_P K.1 vwCl (wd K C S1 o g) H := hP
  have hD : va_D (inA K) (wd K C S1 o g) := hD
  refine W.eq (g2 := F0 m 23 ls []) rfl ?_
  obtain rfl := gn_some h
  exact W.vret hx hb hr (fun t ht _ => ⟨rfl, by rw [ht]; exact hP, hD, hS.F ht⟩) hS.2.2 dX7_adds_23 hlk
theorem in_X7_both_X7 : ∀ w ∈ wsX70, w ∈ wsX7_both := fun _ h => List.mem_cons_of_mem _ (List.mem_append_right _ h)
def rm_X7_both : Room := { frames := 4, cells := 0, slots := 0, locals := 115 }
section
variable {p : Program} {l : Launch} {e : Env} {s : State} {m : MethodId} {args : Array Value} {below : List Frame} {meth : Method} {c : Code} {z : Nat} {K : Ev} {C : CS} {o : Nat → Int64} {g : Gh}
end
set_option maxRecDepth 100000 in
theorem c_X7_both (l : Launch) (z : Nat) (K : Ev) (C : CS) (o : Nat → Int64) (g : Gh) (a0 : Int32) (a1 : Int32) (a2 : Int32) (S : MS) (r : Int64) (S' : MS) (h : F_X7_both z a0 a1 a2 S = some (r, S')) : Met l yX7_both wsX7_both rm_X7_both (qH K [.ref (K.2.2.1 12), .int a0, .int a1, .int a2] C S o g) (qR K (some (.long r)) C S' o g) 0 0 (inA K) := by
  refine Met.ofW (cc := cX7_both) (maxL := 8) (ret := (some .long)) (by decide) rfl ?_
  intro p e s m args below meth c s₁ B hml hv
  obtain ⟨rfl, hN, hP, hK, hD, hF⟩ := hv
  have hx := B.exec
  have hb := B.bytes
  have hr := B.returns
  have hts := atoms_spec (ws := wsX7_both) B.pre
  have hown : s.vm.findClass RX7 = some m.cls := findClass_of_methodNamed B.named
  have hlk := B.notSynchronized
  have hcl : 0 ≤ (rm_X7_both).cells := Nat.zero_le _
  have hsl : 0 ≤ (rm_X7_both).slots := Nat.zero_le _
  have Cc : Cx p s m _ meth c cX7_both 8 RX7 wsX7_both (some .long) := ⟨hx, hb, hml, hown, hts, hr, hlk, hN⟩
  have hS : va_S (inA K) s.heap s.heap [] := va_S.rf
  have hl := lv_entry ([.ref (K.2.2.1 12), .int a0, .int a1, .int a2]) (n := 8) (Nat.le_of_ble_eq_true rfl)
  rw [lg_entry_eq]
  generalize (lg_sl ([.ref (K.2.2.1 12), .int a0, .int a1, .int a2]) ++ List.replicate (8 - (lg_sl ([.ref (K.2.2.1 12), .int a0, .int a1, .int a2])).length) Slot.unset).toArray = ls at hl ⊢
  have hl : lv_has ls 8 [(0, .ref (K.2.2.1 12)), (1, .int a0), (2, .int a1), (3, .int a2)] := hl
  rw [F_X7_both] at h
  refine lv_aload_n hx hb dX7_both_0 rfl (lv_at hl 0 rfl) ?_
  refine lv_iconst (v := (0 : Int32)) hx hb dX7_both_1 (by decide) ?_
  obtain ⟨S1, eS1, h⟩ := gn_nm h
  refine va_put (D := K.1) (ci := 6) (v := .int (0 : Int32)) (ty := .int) (C := RX7) (T := TX7) (N := 24) hx hb hts in_X7_both_X7 tyX7 tyX7_ok nmX7 hown hK hP hD hS 12 rfl rfl 0 (by decide) (hts (.fieldLink RX7 33 "SawSumsModel" "thrown" "I") (by decide +kernel)) (fun _ h9 => h9) rfl (by decide +kernel) rfl rfl (Nat.le_of_ble_eq_true rfl) dX7_both_2 (fun H locs hP hD hS => ?_)
  have hP : va_P K.1 vwCl (wd K C S1 o g) H := by rw [eS1]; exact hP
  have hD : va_D (inA K) (wd K C S1 o g) := by rw [eS1]; exact hD
  refine lv_iload_n hx hb dX7_both_5 rfl (lv_at hl 1 rfl) ?_
  refine lv_i2l hx hb dX7_both_6 rfl ?_
  refine lv_lconst (v := (1 : Int64)) hx hb dX7_both_7 (by decide) ?_
  refine lv_ldc2 hx hb hown (hts (.constantLong RX7 90 (30000)) (by decide +kernel)) dX7_both_8 ?_
  obtain ⟨r2, qr2, h⟩ := gn_bd h
  refine pc_S (rest := []) ⟨hx, hb, hml, hown, hts⟩ hN (c_X7_isIn l z _ _ _ r2 qr2) (va_cwS 3 hts gX7_both_X7_isIn rfl rfl rfl (by decide +kernel) ⟨(Nat.le_of_ble_eq_true rfl), (Nat.le_of_ble_eq_true rfl)⟩) rfl hl.1 rfl (Nat.le_of_ble_eq_true rfl) dX7_both_11 hcl hsl ?_
  refine lv_if_eq (tgt := 29) hx hb dX7_both_14 (by decide) (fun c3 => ?_) (fun c3 => ?_)
  · have h := gn_t h c3
    refine lv_ldc2 hx hb hown (hts (.constantLong RX7 76 (-4000000000000000000)) (by decide +kernel)) dX7_both_29 ?_
    obtain ⟨rfl, rfl⟩ := Prod.mk.inj (gn_some h)
    exact W.lret hx hb hr (fun t ht _ => ⟨rfl, by rw [ht]; exact hP, hD, hS.F ht⟩) hS.2.2 dX7_both_32 hlk
  · have h := gn_f h c3
    refine lv_iload_n hx hb dX7_both_17 rfl (lv_at hl 2 rfl) ?_
    refine lv_i2l hx hb dX7_both_18 rfl ?_
    refine lv_lconst (v := (1 : Int64)) hx hb dX7_both_19 (by decide) ?_
    refine lv_ldc2 hx hb hown (hts (.constantLong RX7 90 (30000)) (by decide +kernel)) dX7_both_20 ?_
    obtain ⟨r4, qr4, h⟩ := gn_bd h
    refine pc_S (rest := []) ⟨hx, hb, hml, hown, hts⟩ hN (c_X7_isIn l z _ _ _ r4 qr4) (va_cwS 3 hts gX7_both_X7_isIn rfl rfl rfl (by decide +kernel) ⟨(Nat.le_of_ble_eq_true rfl), (Nat.le_of_ble_eq_true rfl)⟩) rfl hl.1 rfl (Nat.le_of_ble_eq_true rfl) dX7_both_23 hcl hsl ?_
    refine lv_if_ne (tgt := 33) hx hb dX7_both_26 (by decide) (fun c5 => ?_) (fun c5 => ?_)
    · have h := gn_f h c5
      refine lv_aload_n hx hb dX7_both_33 rfl (lv_at hl 0 rfl) ?_
      refine lv_iload_n hx hb dX7_both_34 rfl (lv_at hl 1 rfl) ?_
      refine lv_i2l hx hb dX7_both_35 rfl ?_
      refine lv_iload_n hx hb dX7_both_36 rfl (lv_at hl 2 rfl) ?_
      refine lv_i2l hx hb dX7_both_37 rfl ?_
      obtain ⟨S6, qS6, h⟩ := gn_bd h
      refine hc_V (rest := []) ⟨hx, hb, hml, hown, hts⟩ hN hF hK hP hD hS (c_X7_laysSum l z K _ o g _ _ _  S6 qS6) (cwV 2 hts gX7_both_X7_laysSum rfl rfl rfl (by decide +kernel) ⟨(Nat.le_of_ble_eq_true rfl), (Nat.le_of_ble_eq_true rfl)⟩) (va_recv hK hP (ci := 6) (q0 := 12) rfl rfl) rfl hl.1 rfl (Nat.le_of_ble_eq_true rfl) dX7_both_38 hcl hsl (fun H locs hP hD hS => ?_)
      have hP : va_P K.1 vwCl (wd K C S6 o g) H := hP
      have hD : va_D (inA K) (wd K C S6 o g) := hD
      refine W.eq (g2 := F0 m 41 ls []) rfl ?_
      refine lv_aload_n hx hb dX7_both_41 rfl (lv_at hl 0 rfl) ?_
      refine va_get (D := K.1) (ci := 6) (v := .long (mg_up S6)) (C := RX7) (T := TX7) (N := 24) hx hb hts in_X7_both_X7 hown hK hP 12 rfl rfl 1 (by decide) (hts (.fieldLink RX7 48 "SawSumsModel" "up" "J") (by decide +kernel)) (fun _ h9 => h9) rfl dX7_both_42 ?_
      obtain ⟨v7, ev7, h⟩ := gn_nm h
      refine ln_l ev7 ?_
      refine lv_lstore (lv' := [(4, .long v7), (0, .ref (K.2.2.1 12)), (1, .int a0), (2, .int a1), (3, .int a2)]) hx hb dX7_both_45 hl (by decide) rfl (fun ls hl => ?_)
      refine lv_aload_n hx hb dX7_both_47 rfl (lv_at hl 1 rfl) ?_
      refine va_get (D := K.1) (ci := 6) (v := .long (mg_under S6)) (C := RX7) (T := TX7) (N := 24) hx hb hts in_X7_both_X7 hown hK hP 12 rfl rfl 2 (by decide) (hts (.fieldLink RX7 51 "SawSumsModel" "under" "J") (by decide +kernel)) (fun _ h9 => h9) rfl dX7_both_48 ?_
      obtain ⟨v8, ev8, h⟩ := gn_nm h
      refine ln_l ev8 ?_
      refine lv_lstore (lv' := [(6, .long v8), (4, .long v7), (0, .ref (K.2.2.1 12)), (1, .int a0), (2, .int a1), (3, .int a2)]) hx hb dX7_both_51 hl (by decide) rfl (fun ls hl => ?_)
      refine lv_aload_n hx hb dX7_both_53 rfl (lv_at hl 2 rfl) ?_
      refine lv_iload_n hx hb dX7_both_54 rfl (lv_at hl 4 rfl) ?_
      refine lv_i2l hx hb dX7_both_55 rfl ?_
      refine lv_iload_n hx hb dX7_both_56 rfl (lv_at hl 3 rfl) ?_
      refine lv_i2l hx hb dX7_both_57 rfl ?_
      obtain ⟨S9, qS9, h⟩ := gn_bd h
      refine hc_V (rest := []) ⟨hx, hb, hml, hown, hts⟩ hN hF hK hP hD hS (c_X7_laysSum l z K _ o g _ _ _  S9 qS9) (cwV 2 hts gX7_both_X7_laysSum rfl rfl rfl (by decide +kernel) ⟨(Nat.le_of_ble_eq_true rfl), (Nat.le_of_ble_eq_true rfl)⟩) (va_recv hK hP (ci := 6) (q0 := 12) rfl rfl) rfl hl.1 rfl (Nat.le_of_ble_eq_true rfl) dX7_both_58 hcl hsl (fun H locs hP hD hS => ?_)
      have hP : va_P K.1 vwCl (wd K C S9 o g) H := hP
      have hD : va_D (inA K) (wd K C S9 o g) := hD
      refine W.eq (g2 := F0 m 61 ls []) rfl ?_
      refine lv_aload_n hx hb dX7_both_61 rfl (lv_at hl 2 rfl) ?_
      refine lv_lload hx hb dX7_both_62 (lv_at hl 1 rfl) ?_
      refine lv_lload hx hb dX7_both_64 (lv_at hl 0 rfl) ?_
      obtain ⟨S10, qS10, h⟩ := gn_bd h
      refine hc_V (rest := []) ⟨hx, hb, hml, hown, hts⟩ hN hF hK hP hD hS (c_X7_adds l z K _ o g _ _ _  S10 qS10) (cwV 2 hts gX7_both_X7_adds rfl rfl rfl (by decide +kernel) ⟨(Nat.le_of_ble_eq_true rfl), (Nat.le_of_ble_eq_true rfl)⟩) (va_recv hK hP (ci := 6) (q0 := 12) rfl rfl) rfl hl.1 rfl (Nat.le_of_ble_eq_true rfl) dX7_both_66 hcl hsl (fun H locs hP hD hS => ?_)
      have hP : va_P K.1 vwCl (wd K C S10 o g) H := hP
      have hD : va_D (inA K) (wd K C S10 o g) := hD
      refine W.eq (g2 := F0 m 69 ls []) rfl ?_
      refine lv_aload_n hx hb dX7_both_69 rfl (lv_at hl 2 rfl) ?_
      refine lv_iload_n hx hb dX7_both_70 rfl (lv_at hl 5 rfl) ?_
      obtain ⟨r11, S12, qS12, h⟩ := gn_bd2 h
      refine hc_V (rest := []) ⟨hx, hb, hml, hown, hts⟩ hN hF hK hP hD hS (c_X7_latest l z K _ o g _ _ r11 S12 qS12) (cwV 1 hts gX7_both_X7_latest rfl rfl rfl (by decide +kernel) ⟨(Nat.le_of_ble_eq_true rfl), (Nat.le_of_ble_eq_true rfl)⟩) (va_recv hK hP (ci := 6) (q0 := 12) rfl rfl) rfl hl.1 rfl (Nat.le_of_ble_eq_true rfl) dX7_both_71 hcl hsl (fun H locs hP hD hS => ?_)
      have hP : va_P K.1 vwCl (wd K C S12 o g) H := hP
      have hD : va_D (inA K) (wd K C S12 o g) := hD
      refine W.eq (g2 := F0 m 74 ls [.long r11]) rfl ?_
      obtain ⟨rfl, rfl⟩ := Prod.mk.inj (gn_some h)
      exact W.lret hx hb hr (fun t ht _ => ⟨rfl, by rw [ht]; exact hP, hD, hS.F ht⟩) hS.2.2 dX7_both_74 hlk
    · have h := gn_t h c5
      refine lv_ldc2 hx hb hown (hts (.constantLong RX7 76 (-4000000000000000000)) (by decide +kernel)) dX7_both_29 ?_
      obtain ⟨rfl, rfl⟩ := Prod.mk.inj (gn_some h)
      exact W.lret hx hb hr (fun t ht _ => ⟨rfl, by rw [ht]; exact hP, hD, hS.F ht⟩) hS.2.2 dX7_both_32 hlk
theorem in_X7_three_X7 : ∀ w ∈ wsX70, w ∈ wsX7_three := fun _ h => List.mem_cons_of_mem _ (List.mem_append_right _ h)
def rm_X7_three : Room := { frames := 4, cells := 0, slots := 0, locals := 115 }
section
variable {p : Program} {l : Launch} {e : Env} {s : State} {m : MethodId} {args : Array Value} {below : List Frame} {meth : Method} {c : Code} {z : Nat} {K : Ev} {C : CS} {o : Nat → Int64} {g : Gh}
end
set_option maxRecDepth 100000 in
theorem c_X7_three (l : Launch) (z : Nat) (K : Ev) (C : CS) (o : Nat → Int64) (g : Gh) (a0 : Int32) (a1 : Int32) (a2 : Int32) (a3 : Int32) (S : MS) (r : Int64) (S' : MS) (h : F_X7_three z a0 a1 a2 a3 S = some (r, S')) : Met l yX7_three wsX7_three rm_X7_three (qH K [.ref (K.2.2.1 12), .int a0, .int a1, .int a2, .int a3] C S o g) (qR K (some (.long r)) C S' o g) 0 0 (inA K) := by
  refine Met.ofW (cc := cX7_three) (maxL := 9) (ret := (some .long)) (by decide) rfl ?_
  intro p e s m args below meth c s₁ B hml hv
  obtain ⟨rfl, hN, hP, hK, hD, hF⟩ := hv
  have hx := B.exec
  have hb := B.bytes
  have hr := B.returns
  have hts := atoms_spec (ws := wsX7_three) B.pre
  have hown : s.vm.findClass RX7 = some m.cls := findClass_of_methodNamed B.named
  have hlk := B.notSynchronized
  have hcl : 0 ≤ (rm_X7_three).cells := Nat.zero_le _
  have hsl : 0 ≤ (rm_X7_three).slots := Nat.zero_le _
  have Cc : Cx p s m _ meth c cX7_three 9 RX7 wsX7_three (some .long) := ⟨hx, hb, hml, hown, hts, hr, hlk, hN⟩
  have hS : va_S (inA K) s.heap s.heap [] := va_S.rf
  have hl := lv_entry ([.ref (K.2.2.1 12), .int a0, .int a1, .int a2, .int a3]) (n := 9) (Nat.le_of_ble_eq_true rfl)
  rw [lg_entry_eq]
  generalize (lg_sl ([.ref (K.2.2.1 12), .int a0, .int a1, .int a2, .int a3]) ++ List.replicate (9 - (lg_sl ([.ref (K.2.2.1 12), .int a0, .int a1, .int a2, .int a3])).length) Slot.unset).toArray = ls at hl ⊢
  have hl : lv_has ls 9 [(0, .ref (K.2.2.1 12)), (1, .int a0), (2, .int a1), (3, .int a2), (4, .int a3)] := hl
  rw [F_X7_three] at h
  refine lv_aload_n hx hb dX7_three_0 rfl (lv_at hl 0 rfl) ?_
  refine lv_iconst (v := (0 : Int32)) hx hb dX7_three_1 (by decide) ?_
  obtain ⟨S1, eS1, h⟩ := gn_nm h
  refine va_put (D := K.1) (ci := 6) (v := .int (0 : Int32)) (ty := .int) (C := RX7) (T := TX7) (N := 24) hx hb hts in_X7_three_X7 tyX7 tyX7_ok nmX7 hown hK hP hD hS 12 rfl rfl 0 (by decide) (hts (.fieldLink RX7 33 "SawSumsModel" "thrown" "I") (by decide +kernel)) (fun _ h9 => h9) rfl (by decide +kernel) rfl rfl (Nat.le_of_ble_eq_true rfl) dX7_three_2 (fun H locs hP hD hS => ?_)
  have hP : va_P K.1 vwCl (wd K C S1 o g) H := by rw [eS1]; exact hP
  have hD : va_D (inA K) (wd K C S1 o g) := by rw [eS1]; exact hD
  refine lv_iload_n hx hb dX7_three_5 rfl (lv_at hl 1 rfl) ?_
  obtain ⟨r2, qr2, h⟩ := gn_bd h
  refine pc_S (rest := []) ⟨hx, hb, hml, hown, hts⟩ hN (c_X7_isThousand l z _ r2 qr2) (va_cwS 1 hts gX7_three_X7_isThousand rfl rfl rfl (by decide +kernel) ⟨(Nat.le_of_ble_eq_true rfl), (Nat.le_of_ble_eq_true rfl)⟩) rfl hl.1 rfl (Nat.le_of_ble_eq_true rfl) dX7_three_6 hcl hsl ?_
  refine lv_if_eq (tgt := 62) hx hb dX7_three_9 (by decide) (fun c3 => ?_) (fun c3 => ?_)
  · have h := gn_t h c3
    refine lv_ldc2 hx hb hown (hts (.constantLong RX7 76 (-4000000000000000000)) (by decide +kernel)) dX7_three_62 ?_
    obtain ⟨rfl, rfl⟩ := Prod.mk.inj (gn_some h)
    exact W.lret hx hb hr (fun t ht _ => ⟨rfl, by rw [ht]; exact hP, hD, hS.F ht⟩) hS.2.2 dX7_three_65 hlk
  · have h := gn_f h c3
    refine lv_iload_n hx hb dX7_three_12 rfl (lv_at hl 2 rfl) ?_
    obtain ⟨r4, qr4, h⟩ := gn_bd h
    refine pc_S (rest := []) ⟨hx, hb, hml, hown, hts⟩ hN (c_X7_isThousand l z _ r4 qr4) (va_cwS 1 hts gX7_three_X7_isThousand rfl rfl rfl (by decide +kernel) ⟨(Nat.le_of_ble_eq_true rfl), (Nat.le_of_ble_eq_true rfl)⟩) rfl hl.1 rfl (Nat.le_of_ble_eq_true rfl) dX7_three_13 hcl hsl ?_
    refine lv_if_eq (tgt := 62) hx hb dX7_three_16 (by decide) (fun c5 => ?_) (fun c5 => ?_)
    · have h := gn_t h c5
      refine lv_ldc2 hx hb hown (hts (.constantLong RX7 76 (-4000000000000000000)) (by decide +kernel)) dX7_three_62 ?_
      obtain ⟨rfl, rfl⟩ := Prod.mk.inj (gn_some h)
      exact W.lret hx hb hr (fun t ht _ => ⟨rfl, by rw [ht]; exact hP, hD, hS.F ht⟩) hS.2.2 dX7_three_65 hlk
    · have h := gn_f h c5
      refine lv_iload_n hx hb dX7_three_19 rfl (lv_at hl 3 rfl) ?_
      obtain ⟨r6, qr6, h⟩ := gn_bd h
      refine pc_S (rest := []) ⟨hx, hb, hml, hown, hts⟩ hN (c_X7_isThousand l z _ r6 qr6) (va_cwS 1 hts gX7_three_X7_isThousand rfl rfl rfl (by decide +kernel) ⟨(Nat.le_of_ble_eq_true rfl), (Nat.le_of_ble_eq_true rfl)⟩) rfl hl.1 rfl (Nat.le_of_ble_eq_true rfl) dX7_three_20 hcl hsl ?_
      refine lv_if_eq (tgt := 62) hx hb dX7_three_23 (by decide) (fun c7 => ?_) (fun c7 => ?_)
      · have h := gn_t h c7
        refine lv_ldc2 hx hb hown (hts (.constantLong RX7 76 (-4000000000000000000)) (by decide +kernel)) dX7_three_62 ?_
        obtain ⟨rfl, rfl⟩ := Prod.mk.inj (gn_some h)
        exact W.lret hx hb hr (fun t ht _ => ⟨rfl, by rw [ht]; exact hP, hD, hS.F ht⟩) hS.2.2 dX7_three_65 hlk
      · have h := gn_f h c7
        refine lv_iload_n hx hb dX7_three_26 rfl (lv_at hl 1 rfl) ?_
        refine lv_i2l hx hb dX7_three_27 rfl ?_
        refine lv_iload_n hx hb dX7_three_28 rfl (lv_at hl 2 rfl) ?_
        refine lv_i2l hx hb dX7_three_29 rfl ?_
        obtain ⟨r8, qr8, h⟩ := gn_bd h
        refine pc_S (rest := []) ⟨hx, hb, hml, hown, hts⟩ hN (c_X7_common l z _ _ r8 qr8) (va_cwS 2 hts gX7_three_X7_common rfl rfl rfl (by decide +kernel) ⟨(Nat.le_of_ble_eq_true rfl), (Nat.le_of_ble_eq_true rfl)⟩) rfl hl.1 rfl (Nat.le_of_ble_eq_true rfl) dX7_three_30 hcl hsl ?_
        refine lv_lconst (v := (1 : Int64)) hx hb dX7_three_33 (by decide) ?_
        refine ll_gt (tgt := 62) hx hb dX7_three_34 dX7_three_35 (by decide) (fun c9 => ?_) (fun c9 => ?_)
        · have h := gn_t h c9
          refine lv_ldc2 hx hb hown (hts (.constantLong RX7 76 (-4000000000000000000)) (by decide +kernel)) dX7_three_62 ?_
          obtain ⟨rfl, rfl⟩ := Prod.mk.inj (gn_some h)
          exact W.lret hx hb hr (fun t ht _ => ⟨rfl, by rw [ht]; exact hP, hD, hS.F ht⟩) hS.2.2 dX7_three_65 hlk
        · have h := gn_f h c9
          refine lv_iload_n hx hb dX7_three_38 rfl (lv_at hl 2 rfl) ?_
          refine lv_i2l hx hb dX7_three_39 rfl ?_
          refine lv_iload_n hx hb dX7_three_40 rfl (lv_at hl 3 rfl) ?_
          refine lv_i2l hx hb dX7_three_41 rfl ?_
          obtain ⟨r10, qr10, h⟩ := gn_bd h
          refine pc_S (rest := []) ⟨hx, hb, hml, hown, hts⟩ hN (c_X7_common l z _ _ r10 qr10) (va_cwS 2 hts gX7_three_X7_common rfl rfl rfl (by decide +kernel) ⟨(Nat.le_of_ble_eq_true rfl), (Nat.le_of_ble_eq_true rfl)⟩) rfl hl.1 rfl (Nat.le_of_ble_eq_true rfl) dX7_three_42 hcl hsl ?_
          refine lv_lconst (v := (1 : Int64)) hx hb dX7_three_45 (by decide) ?_
          refine ll_gt (tgt := 62) hx hb dX7_three_46 dX7_three_47 (by decide) (fun c11 => ?_) (fun c11 => ?_)
          · have h := gn_t h c11
            refine lv_ldc2 hx hb hown (hts (.constantLong RX7 76 (-4000000000000000000)) (by decide +kernel)) dX7_three_62 ?_
            obtain ⟨rfl, rfl⟩ := Prod.mk.inj (gn_some h)
            exact W.lret hx hb hr (fun t ht _ => ⟨rfl, by rw [ht]; exact hP, hD, hS.F ht⟩) hS.2.2 dX7_three_65 hlk
          · have h := gn_f h c11
            refine lv_iload_n hx hb dX7_three_50 rfl (lv_at hl 3 rfl) ?_
            refine lv_i2l hx hb dX7_three_51 rfl ?_
            refine lv_iload_n hx hb dX7_three_52 rfl (lv_at hl 1 rfl) ?_
            refine lv_i2l hx hb dX7_three_53 rfl ?_
            obtain ⟨r12, qr12, h⟩ := gn_bd h
            refine pc_S (rest := []) ⟨hx, hb, hml, hown, hts⟩ hN (c_X7_common l z _ _ r12 qr12) (va_cwS 2 hts gX7_three_X7_common rfl rfl rfl (by decide +kernel) ⟨(Nat.le_of_ble_eq_true rfl), (Nat.le_of_ble_eq_true rfl)⟩) rfl hl.1 rfl (Nat.le_of_ble_eq_true rfl) dX7_three_54 hcl hsl ?_
            refine lv_lconst (v := (1 : Int64)) hx hb dX7_three_57 (by decide) ?_
            refine ll_le (tgt := 66) hx hb dX7_three_58 dX7_three_59 (by decide) (fun c13 => ?_) (fun c13 => ?_)
            · have h := gn_t h c13
              refine lv_aload_n hx hb dX7_three_66 rfl (lv_at hl 0 rfl) ?_
              refine lv_iload_n hx hb dX7_three_67 rfl (lv_at hl 1 rfl) ?_
              refine lv_i2l hx hb dX7_three_68 rfl ?_
              refine lv_iload_n hx hb dX7_three_69 rfl (lv_at hl 2 rfl) ?_
              refine lv_i2l hx hb dX7_three_70 rfl ?_
              refine lv_iload_n hx hb dX7_three_71 rfl (lv_at hl 3 rfl) ?_
              refine lv_i2l hx hb dX7_three_72 rfl ?_
              obtain ⟨r14, qr14, h⟩ := gn_bd h
              refine pc_S (rest := [.long (Int32.toInt64 a0), .ref (K.2.2.1 12)]) ⟨hx, hb, hml, hown, hts⟩ hN (c_X7_inverse l z _ _ r14 qr14) (va_cwS 2 hts gX7_three_X7_inverse rfl rfl rfl (by decide +kernel) ⟨(Nat.le_of_ble_eq_true rfl), (Nat.le_of_ble_eq_true rfl)⟩) rfl hl.1 rfl (Nat.le_of_ble_eq_true rfl) dX7_three_73 hcl hsl ?_
              refine lv_lmul hx hb dX7_three_76 ?_
              refine lv_iload_n hx hb dX7_three_77 rfl (lv_at hl 3 rfl) ?_
              refine lv_i2l hx hb dX7_three_78 rfl ?_
              obtain ⟨S15, qS15, h⟩ := gn_bd h
              refine hc_V (rest := []) ⟨hx, hb, hml, hown, hts⟩ hN hF hK hP hD hS (c_X7_laysSum l z K _ o g _ _ _  S15 qS15) (cwV 2 hts gX7_three_X7_laysSum rfl rfl rfl (by decide +kernel) ⟨(Nat.le_of_ble_eq_true rfl), (Nat.le_of_ble_eq_true rfl)⟩) (va_recv hK hP (ci := 6) (q0 := 12) rfl rfl) rfl hl.1 rfl (Nat.le_of_ble_eq_true rfl) dX7_three_79 hcl hsl (fun H locs hP hD hS => ?_)
              have hP : va_P K.1 vwCl (wd K C S15 o g) H := hP
              have hD : va_D (inA K) (wd K C S15 o g) := hD
              refine W.eq (g2 := F0 m 82 ls []) rfl ?_
              refine lv_aload_n hx hb dX7_three_82 rfl (lv_at hl 0 rfl) ?_
              refine va_get (D := K.1) (ci := 6) (v := .long (mg_up S15)) (C := RX7) (T := TX7) (N := 24) hx hb hts in_X7_three_X7 hown hK hP 12 rfl rfl 1 (by decide) (hts (.fieldLink RX7 48 "SawSumsModel" "up" "J") (by decide +kernel)) (fun _ h9 => h9) rfl dX7_three_83 ?_
              obtain ⟨v16, ev16, h⟩ := gn_nm h
              refine ln_l ev16 ?_
              refine lv_lstore (lv' := [(5, .long v16), (0, .ref (K.2.2.1 12)), (1, .int a0), (2, .int a1), (3, .int a2), (4, .int a3)]) hx hb dX7_three_86 hl (by decide) rfl (fun ls hl => ?_)
              refine lv_aload_n hx hb dX7_three_88 rfl (lv_at hl 1 rfl) ?_
              refine va_get (D := K.1) (ci := 6) (v := .long (mg_under S15)) (C := RX7) (T := TX7) (N := 24) hx hb hts in_X7_three_X7 hown hK hP 12 rfl rfl 2 (by decide) (hts (.fieldLink RX7 51 "SawSumsModel" "under" "J") (by decide +kernel)) (fun _ h9 => h9) rfl dX7_three_89 ?_
              obtain ⟨v17, ev17, h⟩ := gn_nm h
              refine ln_l ev17 ?_
              refine lv_lstore (lv' := [(7, .long v17), (5, .long v16), (0, .ref (K.2.2.1 12)), (1, .int a0), (2, .int a1), (3, .int a2), (4, .int a3)]) hx hb dX7_three_92 hl (by decide) rfl (fun ls hl => ?_)
              refine lv_aload_n hx hb dX7_three_94 rfl (lv_at hl 2 rfl) ?_
              refine lv_iload_n hx hb dX7_three_95 rfl (lv_at hl 4 rfl) ?_
              refine lv_i2l hx hb dX7_three_96 rfl ?_
              refine lv_iload_n hx hb dX7_three_97 rfl (lv_at hl 5 rfl) ?_
              refine lv_i2l hx hb dX7_three_98 rfl ?_
              refine lv_iload_n hx hb dX7_three_99 rfl (lv_at hl 3 rfl) ?_
              refine lv_i2l hx hb dX7_three_100 rfl ?_
              obtain ⟨r18, qr18, h⟩ := gn_bd h
              refine pc_S (rest := [.long (Int32.toInt64 a1), .ref (K.2.2.1 12)]) ⟨hx, hb, hml, hown, hts⟩ hN (c_X7_inverse l z _ _ r18 qr18) (va_cwS 2 hts gX7_three_X7_inverse rfl rfl rfl (by decide +kernel) ⟨(Nat.le_of_ble_eq_true rfl), (Nat.le_of_ble_eq_true rfl)⟩) rfl hl.1 rfl (Nat.le_of_ble_eq_true rfl) dX7_three_101 hcl hsl ?_
              refine lv_lmul hx hb dX7_three_104 ?_
              refine lv_iload_n hx hb dX7_three_105 rfl (lv_at hl 3 rfl) ?_
              refine lv_i2l hx hb dX7_three_106 rfl ?_
              obtain ⟨S19, qS19, h⟩ := gn_bd h
              refine hc_V (rest := []) ⟨hx, hb, hml, hown, hts⟩ hN hF hK hP hD hS (c_X7_laysSum l z K _ o g _ _ _  S19 qS19) (cwV 2 hts gX7_three_X7_laysSum rfl rfl rfl (by decide +kernel) ⟨(Nat.le_of_ble_eq_true rfl), (Nat.le_of_ble_eq_true rfl)⟩) (va_recv hK hP (ci := 6) (q0 := 12) rfl rfl) rfl hl.1 rfl (Nat.le_of_ble_eq_true rfl) dX7_three_107 hcl hsl (fun H locs hP hD hS => ?_)
              have hP : va_P K.1 vwCl (wd K C S19 o g) H := hP
              have hD : va_D (inA K) (wd K C S19 o g) := hD
              refine W.eq (g2 := F0 m 110 ls []) rfl ?_
              refine lv_aload_n hx hb dX7_three_110 rfl (lv_at hl 2 rfl) ?_
              refine lv_lload hx hb dX7_three_111 (lv_at hl 1 rfl) ?_
              refine lv_lload hx hb dX7_three_113 (lv_at hl 0 rfl) ?_
              obtain ⟨S20, qS20, h⟩ := gn_bd h
              refine hc_V (rest := []) ⟨hx, hb, hml, hown, hts⟩ hN hF hK hP hD hS (c_X7_adds l z K _ o g _ _ _  S20 qS20) (cwV 2 hts gX7_three_X7_adds rfl rfl rfl (by decide +kernel) ⟨(Nat.le_of_ble_eq_true rfl), (Nat.le_of_ble_eq_true rfl)⟩) (va_recv hK hP (ci := 6) (q0 := 12) rfl rfl) rfl hl.1 rfl (Nat.le_of_ble_eq_true rfl) dX7_three_115 hcl hsl (fun H locs hP hD hS => ?_)
              have hP : va_P K.1 vwCl (wd K C S20 o g) H := hP
              have hD : va_D (inA K) (wd K C S20 o g) := hD
              refine W.eq (g2 := F0 m 118 ls []) rfl ?_
              refine lv_aload_n hx hb dX7_three_118 rfl (lv_at hl 2 rfl) ?_
              refine va_get (D := K.1) (ci := 6) (v := .long (mg_up S20)) (C := RX7) (T := TX7) (N := 24) hx hb hts in_X7_three_X7 hown hK hP 12 rfl rfl 1 (by decide) (hts (.fieldLink RX7 48 "SawSumsModel" "up" "J") (by decide +kernel)) (fun _ h9 => h9) rfl dX7_three_119 ?_
              obtain ⟨v21, ev21, h⟩ := gn_nm h
              refine ln_l ev21 ?_
              refine lv_lstore (lv' := [(5, .long v21), (7, .long v17), (0, .ref (K.2.2.1 12)), (1, .int a0), (2, .int a1), (3, .int a2), (4, .int a3)]) hx hb dX7_three_122 hl (by decide) rfl (fun ls hl => ?_)
              refine lv_aload_n hx hb dX7_three_124 rfl (lv_at hl 2 rfl) ?_
              refine va_get (D := K.1) (ci := 6) (v := .long (mg_under S20)) (C := RX7) (T := TX7) (N := 24) hx hb hts in_X7_three_X7 hown hK hP 12 rfl rfl 2 (by decide) (hts (.fieldLink RX7 51 "SawSumsModel" "under" "J") (by decide +kernel)) (fun _ h9 => h9) rfl dX7_three_125 ?_
              obtain ⟨v22, ev22, h⟩ := gn_nm h
              refine ln_l ev22 ?_
              refine lv_lstore (lv' := [(7, .long v22), (5, .long v21), (0, .ref (K.2.2.1 12)), (1, .int a0), (2, .int a1), (3, .int a2), (4, .int a3)]) hx hb dX7_three_128 hl (by decide) rfl (fun ls hl => ?_)
              refine lv_aload_n hx hb dX7_three_130 rfl (lv_at hl 2 rfl) ?_
              refine lv_iload_n hx hb dX7_three_131 rfl (lv_at hl 5 rfl) ?_
              refine lv_i2l hx hb dX7_three_132 rfl ?_
              refine lv_iload_n hx hb dX7_three_133 rfl (lv_at hl 3 rfl) ?_
              refine lv_i2l hx hb dX7_three_134 rfl ?_
              refine lv_iload_n hx hb dX7_three_135 rfl (lv_at hl 4 rfl) ?_
              refine lv_i2l hx hb dX7_three_136 rfl ?_
              obtain ⟨r23, qr23, h⟩ := gn_bd h
              refine pc_S (rest := [.long (Int32.toInt64 a2), .ref (K.2.2.1 12)]) ⟨hx, hb, hml, hown, hts⟩ hN (c_X7_inverse l z _ _ r23 qr23) (va_cwS 2 hts gX7_three_X7_inverse rfl rfl rfl (by decide +kernel) ⟨(Nat.le_of_ble_eq_true rfl), (Nat.le_of_ble_eq_true rfl)⟩) rfl hl.1 rfl (Nat.le_of_ble_eq_true rfl) dX7_three_137 hcl hsl ?_
              refine lv_lmul hx hb dX7_three_140 ?_
              refine lv_iload_n hx hb dX7_three_141 rfl (lv_at hl 4 rfl) ?_
              refine lv_i2l hx hb dX7_three_142 rfl ?_
              obtain ⟨S24, qS24, h⟩ := gn_bd h
              refine hc_V (rest := []) ⟨hx, hb, hml, hown, hts⟩ hN hF hK hP hD hS (c_X7_laysSum l z K _ o g _ _ _  S24 qS24) (cwV 2 hts gX7_three_X7_laysSum rfl rfl rfl (by decide +kernel) ⟨(Nat.le_of_ble_eq_true rfl), (Nat.le_of_ble_eq_true rfl)⟩) (va_recv hK hP (ci := 6) (q0 := 12) rfl rfl) rfl hl.1 rfl (Nat.le_of_ble_eq_true rfl) dX7_three_143 hcl hsl (fun H locs hP hD hS => ?_)
              have hP : va_P K.1 vwCl (wd K C S24 o g) H := hP
              have hD : va_D (inA K) (wd K C S24 o g) := hD
              refine W.eq (g2 := F0 m 146 ls []) rfl ?_
              refine lv_aload_n hx hb dX7_three_146 rfl (lv_at hl 2 rfl) ?_
              refine lv_lload hx hb dX7_three_147 (lv_at hl 1 rfl) ?_
              refine lv_lload hx hb dX7_three_149 (lv_at hl 0 rfl) ?_
              obtain ⟨S25, qS25, h⟩ := gn_bd h
              refine hc_V (rest := []) ⟨hx, hb, hml, hown, hts⟩ hN hF hK hP hD hS (c_X7_adds l z K _ o g _ _ _  S25 qS25) (cwV 2 hts gX7_three_X7_adds rfl rfl rfl (by decide +kernel) ⟨(Nat.le_of_ble_eq_true rfl), (Nat.le_of_ble_eq_true rfl)⟩) (va_recv hK hP (ci := 6) (q0 := 12) rfl rfl) rfl hl.1 rfl (Nat.le_of_ble_eq_true rfl) dX7_three_151 hcl hsl (fun H locs hP hD hS => ?_)
              have hP : va_P K.1 vwCl (wd K C S25 o g) H := hP
              have hD : va_D (inA K) (wd K C S25 o g) := hD
              refine W.eq (g2 := F0 m 154 ls []) rfl ?_
              refine lv_aload_n hx hb dX7_three_154 rfl (lv_at hl 2 rfl) ?_
              refine lv_iload hx hb dX7_three_155 (lv_at hl 6 rfl) ?_
              obtain ⟨r26, S27, qS27, h⟩ := gn_bd2 h
              refine hc_V (rest := []) ⟨hx, hb, hml, hown, hts⟩ hN hF hK hP hD hS (c_X7_latest l z K _ o g _ _ r26 S27 qS27) (cwV 1 hts gX7_three_X7_latest rfl rfl rfl (by decide +kernel) ⟨(Nat.le_of_ble_eq_true rfl), (Nat.le_of_ble_eq_true rfl)⟩) (va_recv hK hP (ci := 6) (q0 := 12) rfl rfl) rfl hl.1 rfl (Nat.le_of_ble_eq_true rfl) dX7_three_157 hcl hsl (fun H locs hP hD hS => ?_)
              have hP : va_P K.1 vwCl (wd K C S27 o g) H := hP
              have hD : va_D (inA K) (wd K C S27 o g) := hD
              refine W.eq (g2 := F0 m 160 ls [.long r26]) rfl ?_
              obtain ⟨rfl, rfl⟩ := Prod.mk.inj (gn_some h)
              exact W.lret hx hb hr (fun t ht _ => ⟨rfl, by rw [ht]; exact hP, hD, hS.F ht⟩) hS.2.2 dX7_three_160 hlk
            · have h := gn_f h c13
              refine lv_ldc2 hx hb hown (hts (.constantLong RX7 76 (-4000000000000000000)) (by decide +kernel)) dX7_three_62 ?_
              obtain ⟨rfl, rfl⟩ := Prod.mk.inj (gn_some h)
              exact W.lret hx hb hr (fun t ht _ => ⟨rfl, by rw [ht]; exact hP, hD, hS.F ht⟩) hS.2.2 dX7_three_65 hlk
theorem in_X7_above_X7 : ∀ w ∈ wsX70, w ∈ wsX7_above := fun _ h => List.mem_cons_of_mem _ (List.mem_append_right _ h)
def rm_X7_above : Room := { frames := 4, cells := 0, slots := 0, locals := 115 }
section
variable {p : Program} {l : Launch} {e : Env} {s : State} {m : MethodId} {args : Array Value} {below : List Frame} {meth : Method} {c : Code} {z : Nat} {K : Ev} {C : CS} {o : Nat → Int64} {g : Gh}
set_option maxRecDepth 100000 in
theorem w_X7_above_49 (Cc : Cx p s m args meth c cX7_above 11 RX7 wsX7_above (some .long)) (hK : va_K K.1 vwCl (tysOf K) s) (hF : SF K s) {r : Int64} {S' : MS} (n : Nat) : ∀ (x1 : Int32) (x3 : Int32) (x4 : Int64) (x6 : Int64) (x8 : Int64) (x10 : Int32) (S : MS) (H : Heap) (locs : List Loc), va_P K.1 vwCl (wd K C S o g) H → va_D (inA K) (wd K C S o g) → va_S (inA K) s.heap H locs → G_X7_above_49 z n x1 x3 x4 x6 x8 x10 S = some (r, S') → ∀ ls, lv_has ls 11 [(0, .ref (K.2.2.1 12)), (1, .int x1), (3, .int x3), (4, .long x4), (6, .long x6), (8, .long x8), (10, .int x10)] → W p l e rm_X7_above s m args below meth c H locs 0 0 (MQ below (qR K (some (.long r)) C S' o g) args s 0 0 (inA K)) (F0 m 49 ls []) := by
  obtain ⟨hx, hb, hml, hown, hts, hr, hlk, hN⟩ := id Cc
  have hcl : 0 ≤ (rm_X7_above).cells := Nat.zero_le _
  have hsl : 0 ≤ (rm_X7_above).slots := Nat.zero_le _
  induction n with
  | zero => intro x1 x3 x4 x6 x8 x10 S H locs hP hD hS h; cases h
  | succ n ih =>
    intro x1 x3 x4 x6 x8 x10 S H locs hP hD hS h ls hl
    rw [G_X7_above_49] at h
    refine lv_iload hx hb dX7_above_49 (lv_at hl 6 rfl) ?_
    refine lv_iload_n hx hb dX7_above_51 rfl (lv_at hl 2 rfl) ?_
    refine lv_icmp_gt (tgt := 98) hx hb dX7_above_52 (by decide) (fun c1 => ?_) (fun c1 => ?_)
    · have h := gn_t h c1
      refine lv_lload hx hb dX7_above_98 (lv_at hl 5 rfl) ?_
      obtain ⟨rfl, rfl⟩ := Prod.mk.inj (gn_some h)
      exact W.lret hx hb hr (fun t ht _ => ⟨rfl, by rw [ht]; exact hP, hD, hS.F ht⟩) hS.2.2 dX7_above_100 hlk
    · have h := gn_f h c1
      refine lv_aload_n hx hb dX7_above_55 rfl (lv_at hl 0 rfl) ?_
      refine lv_iload_n hx hb dX7_above_56 rfl (lv_at hl 1 rfl) ?_
      refine lv_i2l hx hb dX7_above_57 rfl ?_
      refine lv_iload hx hb dX7_above_58 (lv_at hl 6 rfl) ?_
      refine lv_i2l hx hb dX7_above_60 rfl ?_
      obtain ⟨S2, qS2, h⟩ := gn_bd h
      refine hc_V (rest := []) ⟨hx, hb, hml, hown, hts⟩ hN hF hK hP hD hS (c_X7_laysSum l z K _ o g _ _ _  S2 qS2) (cwV 2 hts gX7_above_X7_laysSum rfl rfl rfl (by decide +kernel) ⟨(Nat.le_of_ble_eq_true rfl), (Nat.le_of_ble_eq_true rfl)⟩) (va_recv hK hP (ci := 6) (q0 := 12) rfl rfl) rfl hl.1 rfl (Nat.le_of_ble_eq_true rfl) dX7_above_61 hcl hsl (fun H locs hP hD hS => ?_)
      have hP : va_P K.1 vwCl (wd K C S2 o g) H := hP
      have hD : va_D (inA K) (wd K C S2 o g) := hD
      refine W.eq (g2 := F0 m 64 ls []) rfl ?_
      refine lv_lload hx hb dX7_above_64 (lv_at hl 5 rfl) ?_
      refine lv_aload_n hx hb dX7_above_66 rfl (lv_at hl 0 rfl) ?_
      refine va_get (D := K.1) (ci := 6) (v := .long (mg_up S2)) (C := RX7) (T := TX7) (N := 24) hx hb hts in_X7_above_X7 hown hK hP 12 rfl rfl 1 (by decide) (hts (.fieldLink RX7 48 "SawSumsModel" "up" "J") (by decide +kernel)) (fun _ h9 => h9) rfl dX7_above_67 ?_
      refine lv_lload hx hb dX7_above_70 (lv_at hl 4 rfl) ?_
      refine lv_lmul hx hb dX7_above_72 ?_
      refine lv_lload hx hb dX7_above_73 (lv_at hl 3 rfl) ?_
      refine lv_aload_n hx hb dX7_above_75 rfl (lv_at hl 0 rfl) ?_
      refine va_get (D := K.1) (ci := 6) (v := .long (mg_under S2)) (C := RX7) (T := TX7) (N := 24) hx hb hts in_X7_above_X7 hown hK hP 12 rfl rfl 2 (by decide) (hts (.fieldLink RX7 51 "SawSumsModel" "under" "J") (by decide +kernel)) (fun _ h9 => h9) rfl dX7_above_76 ?_
      refine lv_lmul hx hb dX7_above_79 ?_
      refine ll_le (tgt := 88) hx hb dX7_above_80 dX7_above_81 (by decide) (fun c3 => ?_) (fun c3 => ?_)
      · have h := gn_t h c3
        refine lv_lconst (v := (0 : Int64)) hx hb dX7_above_88 (by decide) ?_
        refine lv_ladd hx hb dX7_above_89 ?_
        obtain ⟨v4, ev4, h⟩ := gn_nm h
        refine ln_l ev4 ?_
        refine lv_lstore (lv' := [(8, .long v4), (0, .ref (K.2.2.1 12)), (1, .int x1), (3, .int x3), (4, .long x4), (6, .long x6), (10, .int x10)]) hx hb dX7_above_90 hl (by decide) rfl (fun ls hl => ?_)
        obtain ⟨v5, ev5, h⟩ := gn_nm h
        refine lv_iinc (v := v5) (lv' := [(10, .int v5), (8, .long v4), (0, .ref (K.2.2.1 12)), (1, .int x1), (3, .int x3), (4, .long x4), (6, .long x6)]) hx hb dX7_above_92 hl (k := 6) rfl (by rw [ev5]; rfl) (by decide) rfl (fun ls hl => ?_)
        refine lv_goto (tgt := 49) hx hb dX7_above_95 (by decide) ?_
        exact ih x1 x3 x4 x6 v4 v5 S2 _ _ hP hD hS h ls (lv_sub hl [2, 3, 4, 5, 6, 1, 0] rfl)
      · have h := gn_f h c3
        refine lv_lconst (v := (1 : Int64)) hx hb dX7_above_84 (by decide) ?_
        refine lv_goto (tgt := 89) hx hb dX7_above_85 (by decide) ?_
        refine lv_ladd hx hb dX7_above_89 ?_
        obtain ⟨v6, ev6, h⟩ := gn_nm h
        refine ln_l ev6 ?_
        refine lv_lstore (lv' := [(8, .long v6), (0, .ref (K.2.2.1 12)), (1, .int x1), (3, .int x3), (4, .long x4), (6, .long x6), (10, .int x10)]) hx hb dX7_above_90 hl (by decide) rfl (fun ls hl => ?_)
        obtain ⟨v7, ev7, h⟩ := gn_nm h
        refine lv_iinc (v := v7) (lv' := [(10, .int v7), (8, .long v6), (0, .ref (K.2.2.1 12)), (1, .int x1), (3, .int x3), (4, .long x4), (6, .long x6)]) hx hb dX7_above_92 hl (k := 6) rfl (by rw [ev7]; rfl) (by decide) rfl (fun ls hl => ?_)
        refine lv_goto (tgt := 49) hx hb dX7_above_95 (by decide) ?_
        exact ih x1 x3 x4 x6 v6 v7 S2 _ _ hP hD hS h ls (lv_sub hl [2, 3, 4, 5, 6, 1, 0] rfl)
end
set_option maxRecDepth 100000 in
theorem c_X7_above (l : Launch) (z : Nat) (K : Ev) (C : CS) (o : Nat → Int64) (g : Gh) (a0 : Int32) (a1 : Int32) (a2 : Int32) (S : MS) (r : Int64) (S' : MS) (h : F_X7_above z a0 a1 a2 S = some (r, S')) : Met l yX7_above wsX7_above rm_X7_above (qH K [.ref (K.2.2.1 12), .int a0, .int a1, .int a2] C S o g) (qR K (some (.long r)) C S' o g) 0 0 (inA K) := by
  refine Met.ofW (cc := cX7_above) (maxL := 11) (ret := (some .long)) (by decide) rfl ?_
  intro p e s m args below meth c s₁ B hml hv
  obtain ⟨rfl, hN, hP, hK, hD, hF⟩ := hv
  have hx := B.exec
  have hb := B.bytes
  have hr := B.returns
  have hts := atoms_spec (ws := wsX7_above) B.pre
  have hown : s.vm.findClass RX7 = some m.cls := findClass_of_methodNamed B.named
  have hlk := B.notSynchronized
  have hcl : 0 ≤ (rm_X7_above).cells := Nat.zero_le _
  have hsl : 0 ≤ (rm_X7_above).slots := Nat.zero_le _
  have Cc : Cx p s m _ meth c cX7_above 11 RX7 wsX7_above (some .long) := ⟨hx, hb, hml, hown, hts, hr, hlk, hN⟩
  have hS : va_S (inA K) s.heap s.heap [] := va_S.rf
  have hl := lv_entry ([.ref (K.2.2.1 12), .int a0, .int a1, .int a2]) (n := 11) (Nat.le_of_ble_eq_true rfl)
  rw [lg_entry_eq]
  generalize (lg_sl ([.ref (K.2.2.1 12), .int a0, .int a1, .int a2]) ++ List.replicate (11 - (lg_sl ([.ref (K.2.2.1 12), .int a0, .int a1, .int a2])).length) Slot.unset).toArray = ls at hl ⊢
  have hl : lv_has ls 11 [(0, .ref (K.2.2.1 12)), (1, .int a0), (2, .int a1), (3, .int a2)] := hl
  rw [F_X7_above] at h
  refine lv_aload_n hx hb dX7_above_0 rfl (lv_at hl 0 rfl) ?_
  refine lv_iconst (v := (0 : Int32)) hx hb dX7_above_1 (by decide) ?_
  obtain ⟨S1, eS1, h⟩ := gn_nm h
  refine va_put (D := K.1) (ci := 6) (v := .int (0 : Int32)) (ty := .int) (C := RX7) (T := TX7) (N := 24) hx hb hts in_X7_above_X7 tyX7 tyX7_ok nmX7 hown hK hP hD hS 12 rfl rfl 0 (by decide) (hts (.fieldLink RX7 33 "SawSumsModel" "thrown" "I") (by decide +kernel)) (fun _ h9 => h9) rfl (by decide +kernel) rfl rfl (Nat.le_of_ble_eq_true rfl) dX7_above_2 (fun H locs hP hD hS => ?_)
  have hP : va_P K.1 vwCl (wd K C S1 o g) H := by rw [eS1]; exact hP
  have hD : va_D (inA K) (wd K C S1 o g) := by rw [eS1]; exact hD
  refine lv_iload_n hx hb dX7_above_5 rfl (lv_at hl 2 rfl) ?_
  obtain ⟨r2, qr2, h⟩ := gn_bd h
  refine pc_S (rest := []) ⟨hx, hb, hml, hown, hts⟩ hN (c_X7_isThousand l z _ r2 qr2) (va_cwS 1 hts gX7_above_X7_isThousand rfl rfl rfl (by decide +kernel) ⟨(Nat.le_of_ble_eq_true rfl), (Nat.le_of_ble_eq_true rfl)⟩) rfl hl.1 rfl (Nat.le_of_ble_eq_true rfl) dX7_above_6 hcl hsl ?_
  refine lv_if_eq (tgt := 19) hx hb dX7_above_9 (by decide) (fun c3 => ?_) (fun c3 => ?_)
  · have h := gn_t h c3
    refine lv_ldc2 hx hb hown (hts (.constantLong RX7 76 (-4000000000000000000)) (by decide +kernel)) dX7_above_19 ?_
    obtain ⟨rfl, rfl⟩ := Prod.mk.inj (gn_some h)
    exact W.lret hx hb hr (fun t ht _ => ⟨rfl, by rw [ht]; exact hP, hD, hS.F ht⟩) hS.2.2 dX7_above_22 hlk
  · have h := gn_f h c3
    refine lv_iload_n hx hb dX7_above_12 rfl (lv_at hl 3 rfl) ?_
    obtain ⟨r4, qr4, h⟩ := gn_bd h
    refine pc_S (rest := []) ⟨hx, hb, hml, hown, hts⟩ hN (c_X7_isThousand l z _ r4 qr4) (va_cwS 1 hts gX7_above_X7_isThousand rfl rfl rfl (by decide +kernel) ⟨(Nat.le_of_ble_eq_true rfl), (Nat.le_of_ble_eq_true rfl)⟩) rfl hl.1 rfl (Nat.le_of_ble_eq_true rfl) dX7_above_13 hcl hsl ?_
    refine lv_if_ne (tgt := 23) hx hb dX7_above_16 (by decide) (fun c5 => ?_) (fun c5 => ?_)
    · have h := gn_f h c5
      refine lv_aload_n hx hb dX7_above_23 rfl (lv_at hl 0 rfl) ?_
      refine lv_iload_n hx hb dX7_above_24 rfl (lv_at hl 1 rfl) ?_
      refine lv_i2l hx hb dX7_above_25 rfl ?_
      refine lv_iload_n hx hb dX7_above_26 rfl (lv_at hl 2 rfl) ?_
      refine lv_i2l hx hb dX7_above_27 rfl ?_
      obtain ⟨S6, qS6, h⟩ := gn_bd h
      refine hc_V (rest := []) ⟨hx, hb, hml, hown, hts⟩ hN hF hK hP hD hS (c_X7_laysSum l z K _ o g _ _ _  S6 qS6) (cwV 2 hts gX7_above_X7_laysSum rfl rfl rfl (by decide +kernel) ⟨(Nat.le_of_ble_eq_true rfl), (Nat.le_of_ble_eq_true rfl)⟩) (va_recv hK hP (ci := 6) (q0 := 12) rfl rfl) rfl hl.1 rfl (Nat.le_of_ble_eq_true rfl) dX7_above_28 hcl hsl (fun H locs hP hD hS => ?_)
      have hP : va_P K.1 vwCl (wd K C S6 o g) H := hP
      have hD : va_D (inA K) (wd K C S6 o g) := hD
      refine W.eq (g2 := F0 m 31 ls []) rfl ?_
      refine lv_aload_n hx hb dX7_above_31 rfl (lv_at hl 0 rfl) ?_
      refine va_get (D := K.1) (ci := 6) (v := .long (mg_up S6)) (C := RX7) (T := TX7) (N := 24) hx hb hts in_X7_above_X7 hown hK hP 12 rfl rfl 1 (by decide) (hts (.fieldLink RX7 48 "SawSumsModel" "up" "J") (by decide +kernel)) (fun _ h9 => h9) rfl dX7_above_32 ?_
      obtain ⟨v7, ev7, h⟩ := gn_nm h
      refine ln_l ev7 ?_
      refine lv_lstore (lv' := [(4, .long v7), (0, .ref (K.2.2.1 12)), (1, .int a0), (2, .int a1), (3, .int a2)]) hx hb dX7_above_35 hl (by decide) rfl (fun ls hl => ?_)
      refine lv_aload_n hx hb dX7_above_37 rfl (lv_at hl 1 rfl) ?_
      refine va_get (D := K.1) (ci := 6) (v := .long (mg_under S6)) (C := RX7) (T := TX7) (N := 24) hx hb hts in_X7_above_X7 hown hK hP 12 rfl rfl 2 (by decide) (hts (.fieldLink RX7 51 "SawSumsModel" "under" "J") (by decide +kernel)) (fun _ h9 => h9) rfl dX7_above_38 ?_
      obtain ⟨v8, ev8, h⟩ := gn_nm h
      refine ln_l ev8 ?_
      refine lv_lstore (lv' := [(6, .long v8), (4, .long v7), (0, .ref (K.2.2.1 12)), (1, .int a0), (2, .int a1), (3, .int a2)]) hx hb dX7_above_41 hl (by decide) rfl (fun ls hl => ?_)
      refine lv_lconst (v := (0 : Int64)) hx hb dX7_above_43 (by decide) ?_
      refine lv_lstore (lv' := [(8, .long (0 : Int64)), (6, .long v8), (4, .long v7), (0, .ref (K.2.2.1 12)), (1, .int a0), (2, .int a1), (3, .int a2)]) hx hb dX7_above_44 hl (by decide) rfl (fun ls hl => ?_)
      refine lv_iconst (v := (1 : Int32)) hx hb dX7_above_46 (by decide) ?_
      refine lv_istore (lv' := [(10, .int (1 : Int32)), (8, .long (0 : Int64)), (6, .long v8), (4, .long v7), (0, .ref (K.2.2.1 12)), (1, .int a0), (2, .int a1), (3, .int a2)]) hx hb dX7_above_47 hl (by decide) rfl (fun ls hl => ?_)
      exact w_X7_above_49 Cc hK hF z a0 a2 v7 v8 (0 : Int64) (1 : Int32) S6 _ _ hP hD hS h ls (lv_sub hl [4, 5, 7, 3, 2, 1, 0] rfl)
    · have h := gn_t h c5
      refine lv_ldc2 hx hb hown (hts (.constantLong RX7 76 (-4000000000000000000)) (by decide +kernel)) dX7_above_19 ?_
      obtain ⟨rfl, rfl⟩ := Prod.mk.inj (gn_some h)
      exact W.lret hx hb hr (fun t ht _ => ⟨rfl, by rw [ht]; exact hP, hD, hS.F ht⟩) hS.2.2 dX7_above_22 hlk
theorem in_X7_chain_X7 : ∀ w ∈ wsX70, w ∈ wsX7_chain := fun _ h => List.mem_cons_of_mem _ (List.mem_append_right _ h)
def rm_X7_chain : Room := { frames := 3, cells := 0, slots := 0, locals := 82 }
section
variable {p : Program} {l : Launch} {e : Env} {s : State} {m : MethodId} {args : Array Value} {below : List Frame} {meth : Method} {c : Code} {z : Nat} {K : Ev} {C : CS} {o : Nat → Int64} {g : Gh}
end
set_option maxRecDepth 100000 in
theorem c_X7_chain (l : Launch) (z : Nat) (K : Ev) (C : CS) (o : Nat → Int64) (g : Gh) (a0 : Int32) (a1 : Int32) (a2 : Int32) (S : MS) (r : Int32) (S' : MS) (h : F_X7_chain z a0 a1 a2 S = some (r, S')) : Met l yX7_chain wsX7_chain rm_X7_chain (qH K [.ref (K.2.2.1 12), .int a0, .int a1, .int a2] C S o g) (qR K (some (.int r)) C S' o g) 0 0 (inA K) := by
  refine Met.ofW (cc := cX7_chain) (maxL := 4) (ret := (some .int)) (by decide) rfl ?_
  intro p e s m args below meth c s₁ B hml hv
  obtain ⟨rfl, hN, hP, hK, hD, hF⟩ := hv
  have hx := B.exec
  have hb := B.bytes
  have hr := B.returns
  have hts := atoms_spec (ws := wsX7_chain) B.pre
  have hown : s.vm.findClass RX7 = some m.cls := findClass_of_methodNamed B.named
  have hlk := B.notSynchronized
  have hcl : 0 ≤ (rm_X7_chain).cells := Nat.zero_le _
  have hsl : 0 ≤ (rm_X7_chain).slots := Nat.zero_le _
  have Cc : Cx p s m _ meth c cX7_chain 4 RX7 wsX7_chain (some .int) := ⟨hx, hb, hml, hown, hts, hr, hlk, hN⟩
  have hS : va_S (inA K) s.heap s.heap [] := va_S.rf
  have hl := lv_entry ([.ref (K.2.2.1 12), .int a0, .int a1, .int a2]) (n := 4) (Nat.le_of_ble_eq_true rfl)
  rw [lg_entry_eq]
  generalize (lg_sl ([.ref (K.2.2.1 12), .int a0, .int a1, .int a2]) ++ List.replicate (4 - (lg_sl ([.ref (K.2.2.1 12), .int a0, .int a1, .int a2])).length) Slot.unset).toArray = ls at hl ⊢
  have hl : lv_has ls 4 [(0, .ref (K.2.2.1 12)), (1, .int a0), (2, .int a1), (3, .int a2)] := hl
  rw [F_X7_chain] at h
  refine lv_aload_n hx hb dX7_chain_0 rfl (lv_at hl 0 rfl) ?_
  refine lv_iconst (v := (0 : Int32)) hx hb dX7_chain_1 (by decide) ?_
  obtain ⟨S1, eS1, h⟩ := gn_nm h
  refine va_put (D := K.1) (ci := 6) (v := .int (0 : Int32)) (ty := .int) (C := RX7) (T := TX7) (N := 24) hx hb hts in_X7_chain_X7 tyX7 tyX7_ok nmX7 hown hK hP hD hS 12 rfl rfl 0 (by decide) (hts (.fieldLink RX7 33 "SawSumsModel" "thrown" "I") (by decide +kernel)) (fun _ h9 => h9) rfl (by decide +kernel) rfl rfl (Nat.le_of_ble_eq_true rfl) dX7_chain_2 (fun H locs hP hD hS => ?_)
  have hP : va_P K.1 vwCl (wd K C S1 o g) H := by rw [eS1]; exact hP
  have hD : va_D (inA K) (wd K C S1 o g) := by rw [eS1]; exact hD
  refine lv_iload_n hx hb dX7_chain_5 rfl (lv_at hl 2 rfl) ?_
  refine lv_i2l hx hb dX7_chain_6 rfl ?_
  refine lv_lconst (v := (1 : Int64)) hx hb dX7_chain_7 (by decide) ?_
  refine lv_ldc2 hx hb hown (hts (.constantLong RX7 70 (1000000000)) (by decide +kernel)) dX7_chain_8 ?_
  obtain ⟨r2, qr2, h⟩ := gn_bd h
  refine pc_S (rest := []) ⟨hx, hb, hml, hown, hts⟩ hN (c_X7_isIn l z _ _ _ r2 qr2) (va_cwS 3 hts gX7_chain_X7_isIn rfl rfl rfl (by decide +kernel) ⟨(Nat.le_of_ble_eq_true rfl), (Nat.le_of_ble_eq_true rfl)⟩) rfl hl.1 rfl (Nat.le_of_ble_eq_true rfl) dX7_chain_11 hcl hsl ?_
  refine lv_if_eq (tgt := 46) hx hb dX7_chain_14 (by decide) (fun c3 => ?_) (fun c3 => ?_)
  · have h := gn_t h c3
    refine lv_iconst (v := (-1 : Int32)) hx hb dX7_chain_46 (by decide) ?_
    obtain ⟨rfl, rfl⟩ := Prod.mk.inj (gn_some h)
    exact W.iret hx hb hr (fun t ht _ => ⟨rfl, by rw [ht]; exact hP, hD, hS.F ht⟩) hS.2.2 dX7_chain_47 hlk
  · have h := gn_f h c3
    refine lv_iload_n hx hb dX7_chain_17 rfl (lv_at hl 1 rfl) ?_
    refine lv_i2l hx hb dX7_chain_18 rfl ?_
    refine lv_iload_n hx hb dX7_chain_19 rfl (lv_at hl 2 rfl) ?_
    refine lv_i2l hx hb dX7_chain_20 rfl ?_
    obtain ⟨r4, qr4, h⟩ := gn_bd h
    refine pc_S (rest := []) ⟨hx, hb, hml, hown, hts⟩ hN (c_X7_common l z _ _ r4 qr4) (va_cwS 2 hts gX7_chain_X7_common rfl rfl rfl (by decide +kernel) ⟨(Nat.le_of_ble_eq_true rfl), (Nat.le_of_ble_eq_true rfl)⟩) rfl hl.1 rfl (Nat.le_of_ble_eq_true rfl) dX7_chain_21 hcl hsl ?_
    refine lv_lconst (v := (1 : Int64)) hx hb dX7_chain_24 (by decide) ?_
    refine ll_ne (tgt := 46) hx hb dX7_chain_25 dX7_chain_26 (by decide) (fun c5 => ?_) (fun c5 => ?_)
    · have h := gn_f h c5
      refine lv_iconst (v := (-1 : Int32)) hx hb dX7_chain_46 (by decide) ?_
      obtain ⟨rfl, rfl⟩ := Prod.mk.inj (gn_some h)
      exact W.iret hx hb hr (fun t ht _ => ⟨rfl, by rw [ht]; exact hP, hD, hS.F ht⟩) hS.2.2 dX7_chain_47 hlk
    · have h := gn_t h c5
      refine lv_iload_n hx hb dX7_chain_29 rfl (lv_at hl 3 rfl) ?_
      refine lv_iconst (v := (-1 : Int32)) hx hb dX7_chain_30 (by decide) ?_
      refine lv_icmp_lt (tgt := 46) hx hb dX7_chain_31 (by decide) (fun c6 => ?_) (fun c6 => ?_)
      · have h := gn_t h c6
        refine lv_iconst (v := (-1 : Int32)) hx hb dX7_chain_46 (by decide) ?_
        obtain ⟨rfl, rfl⟩ := Prod.mk.inj (gn_some h)
        exact W.iret hx hb hr (fun t ht _ => ⟨rfl, by rw [ht]; exact hP, hD, hS.F ht⟩) hS.2.2 dX7_chain_47 hlk
      · have h := gn_f h c6
        refine lv_iload_n hx hb dX7_chain_34 rfl (lv_at hl 1 rfl) ?_
        refine lv_i2l hx hb dX7_chain_35 rfl ?_
        refine lv_iload_n hx hb dX7_chain_36 rfl (lv_at hl 2 rfl) ?_
        refine lv_i2l hx hb dX7_chain_37 rfl ?_
        refine lv_iload_n hx hb dX7_chain_38 rfl (lv_at hl 3 rfl) ?_
        refine lv_iconst (v := (0 : Int32)) hx hb dX7_chain_39 (by decide) ?_
        obtain ⟨r7, qr7, h⟩ := gn_bd h
        refine pc_S (rest := []) ⟨hx, hb, hml, hown, hts⟩ hN (c_X7_chained l z _ _ _ _ r7 qr7) (va_cwS 4 hts gX7_chain_X7_chained rfl rfl rfl (by decide +kernel) ⟨(Nat.le_of_ble_eq_true rfl), (Nat.le_of_ble_eq_true rfl)⟩) rfl hl.1 rfl (Nat.le_of_ble_eq_true rfl) dX7_chain_40 hcl hsl ?_
        refine lv_goto (tgt := 47) hx hb dX7_chain_43 (by decide) ?_
        obtain ⟨rfl, rfl⟩ := Prod.mk.inj (gn_some h)
        exact W.iret hx hb hr (fun t ht _ => ⟨rfl, by rw [ht]; exact hP, hD, hS.F ht⟩) hS.2.2 dX7_chain_47 hlk
theorem in_X7_minus_X7 : ∀ w ∈ wsX70, w ∈ wsX7_minus := fun _ h => List.mem_cons_of_mem _ (List.mem_append_right _ h)
def rm_X7_minus : Room := { frames := 3, cells := 0, slots := 0, locals := 82 }
section
variable {p : Program} {l : Launch} {e : Env} {s : State} {m : MethodId} {args : Array Value} {below : List Frame} {meth : Method} {c : Code} {z : Nat} {K : Ev} {C : CS} {o : Nat → Int64} {g : Gh}
end
set_option maxRecDepth 100000 in
theorem c_X7_minus (l : Launch) (z : Nat) (K : Ev) (C : CS) (o : Nat → Int64) (g : Gh) (a0 : Int32) (a1 : Int32) (a2 : Int32) (S : MS) (r : Int32) (S' : MS) (h : F_X7_minus z a0 a1 a2 S = some (r, S')) : Met l yX7_minus wsX7_minus rm_X7_minus (qH K [.ref (K.2.2.1 12), .int a0, .int a1, .int a2] C S o g) (qR K (some (.int r)) C S' o g) 0 0 (inA K) := by
  refine Met.ofW (cc := cX7_minus) (maxL := 4) (ret := (some .int)) (by decide) rfl ?_
  intro p e s m args below meth c s₁ B hml hv
  obtain ⟨rfl, hN, hP, hK, hD, hF⟩ := hv
  have hx := B.exec
  have hb := B.bytes
  have hr := B.returns
  have hts := atoms_spec (ws := wsX7_minus) B.pre
  have hown : s.vm.findClass RX7 = some m.cls := findClass_of_methodNamed B.named
  have hlk := B.notSynchronized
  have hcl : 0 ≤ (rm_X7_minus).cells := Nat.zero_le _
  have hsl : 0 ≤ (rm_X7_minus).slots := Nat.zero_le _
  have Cc : Cx p s m _ meth c cX7_minus 4 RX7 wsX7_minus (some .int) := ⟨hx, hb, hml, hown, hts, hr, hlk, hN⟩
  have hS : va_S (inA K) s.heap s.heap [] := va_S.rf
  have hl := lv_entry ([.ref (K.2.2.1 12), .int a0, .int a1, .int a2]) (n := 4) (Nat.le_of_ble_eq_true rfl)
  rw [lg_entry_eq]
  generalize (lg_sl ([.ref (K.2.2.1 12), .int a0, .int a1, .int a2]) ++ List.replicate (4 - (lg_sl ([.ref (K.2.2.1 12), .int a0, .int a1, .int a2])).length) Slot.unset).toArray = ls at hl ⊢
  have hl : lv_has ls 4 [(0, .ref (K.2.2.1 12)), (1, .int a0), (2, .int a1), (3, .int a2)] := hl
  rw [F_X7_minus] at h
  refine lv_aload_n hx hb dX7_minus_0 rfl (lv_at hl 0 rfl) ?_
  refine lv_iconst (v := (0 : Int32)) hx hb dX7_minus_1 (by decide) ?_
  obtain ⟨S1, eS1, h⟩ := gn_nm h
  refine va_put (D := K.1) (ci := 6) (v := .int (0 : Int32)) (ty := .int) (C := RX7) (T := TX7) (N := 24) hx hb hts in_X7_minus_X7 tyX7 tyX7_ok nmX7 hown hK hP hD hS 12 rfl rfl 0 (by decide) (hts (.fieldLink RX7 33 "SawSumsModel" "thrown" "I") (by decide +kernel)) (fun _ h9 => h9) rfl (by decide +kernel) rfl rfl (Nat.le_of_ble_eq_true rfl) dX7_minus_2 (fun H locs hP hD hS => ?_)
  have hP : va_P K.1 vwCl (wd K C S1 o g) H := by rw [eS1]; exact hP
  have hD : va_D (inA K) (wd K C S1 o g) := by rw [eS1]; exact hD
  refine lv_iload_n hx hb dX7_minus_5 rfl (lv_at hl 2 rfl) ?_
  refine lv_i2l hx hb dX7_minus_6 rfl ?_
  refine lv_lconst (v := (1 : Int64)) hx hb dX7_minus_7 (by decide) ?_
  refine lv_ldc2 hx hb hown (hts (.constantLong RX7 108 (10000)) (by decide +kernel)) dX7_minus_8 ?_
  obtain ⟨r2, qr2, h⟩ := gn_bd h
  refine pc_S (rest := []) ⟨hx, hb, hml, hown, hts⟩ hN (c_X7_isIn l z _ _ _ r2 qr2) (va_cwS 3 hts gX7_minus_X7_isIn rfl rfl rfl (by decide +kernel) ⟨(Nat.le_of_ble_eq_true rfl), (Nat.le_of_ble_eq_true rfl)⟩) rfl hl.1 rfl (Nat.le_of_ble_eq_true rfl) dX7_minus_11 hcl hsl ?_
  refine lv_if_eq (tgt := 46) hx hb dX7_minus_14 (by decide) (fun c3 => ?_) (fun c3 => ?_)
  · have h := gn_t h c3
    refine lv_iconst (v := (-1 : Int32)) hx hb dX7_minus_46 (by decide) ?_
    obtain ⟨rfl, rfl⟩ := Prod.mk.inj (gn_some h)
    exact W.iret hx hb hr (fun t ht _ => ⟨rfl, by rw [ht]; exact hP, hD, hS.F ht⟩) hS.2.2 dX7_minus_47 hlk
  · have h := gn_f h c3
    refine lv_iload_n hx hb dX7_minus_17 rfl (lv_at hl 1 rfl) ?_
    refine lv_i2l hx hb dX7_minus_18 rfl ?_
    refine lv_iload_n hx hb dX7_minus_19 rfl (lv_at hl 2 rfl) ?_
    refine lv_i2l hx hb dX7_minus_20 rfl ?_
    obtain ⟨r4, qr4, h⟩ := gn_bd h
    refine pc_S (rest := []) ⟨hx, hb, hml, hown, hts⟩ hN (c_X7_common l z _ _ r4 qr4) (va_cwS 2 hts gX7_minus_X7_common rfl rfl rfl (by decide +kernel) ⟨(Nat.le_of_ble_eq_true rfl), (Nat.le_of_ble_eq_true rfl)⟩) rfl hl.1 rfl (Nat.le_of_ble_eq_true rfl) dX7_minus_21 hcl hsl ?_
    refine lv_lconst (v := (1 : Int64)) hx hb dX7_minus_24 (by decide) ?_
    refine ll_ne (tgt := 46) hx hb dX7_minus_25 dX7_minus_26 (by decide) (fun c5 => ?_) (fun c5 => ?_)
    · have h := gn_f h c5
      refine lv_iconst (v := (-1 : Int32)) hx hb dX7_minus_46 (by decide) ?_
      obtain ⟨rfl, rfl⟩ := Prod.mk.inj (gn_some h)
      exact W.iret hx hb hr (fun t ht _ => ⟨rfl, by rw [ht]; exact hP, hD, hS.F ht⟩) hS.2.2 dX7_minus_47 hlk
    · have h := gn_t h c5
      refine lv_iload_n hx hb dX7_minus_29 rfl (lv_at hl 3 rfl) ?_
      refine lv_iconst (v := (-1 : Int32)) hx hb dX7_minus_30 (by decide) ?_
      refine lv_icmp_lt (tgt := 46) hx hb dX7_minus_31 (by decide) (fun c6 => ?_) (fun c6 => ?_)
      · have h := gn_t h c6
        refine lv_iconst (v := (-1 : Int32)) hx hb dX7_minus_46 (by decide) ?_
        obtain ⟨rfl, rfl⟩ := Prod.mk.inj (gn_some h)
        exact W.iret hx hb hr (fun t ht _ => ⟨rfl, by rw [ht]; exact hP, hD, hS.F ht⟩) hS.2.2 dX7_minus_47 hlk
      · have h := gn_f h c6
        refine lv_iload_n hx hb dX7_minus_34 rfl (lv_at hl 1 rfl) ?_
        refine lv_i2l hx hb dX7_minus_35 rfl ?_
        refine lv_iload_n hx hb dX7_minus_36 rfl (lv_at hl 2 rfl) ?_
        refine lv_i2l hx hb dX7_minus_37 rfl ?_
        refine lv_iload_n hx hb dX7_minus_38 rfl (lv_at hl 3 rfl) ?_
        refine lv_iconst (v := (1 : Int32)) hx hb dX7_minus_39 (by decide) ?_
        obtain ⟨r7, qr7, h⟩ := gn_bd h
        refine pc_S (rest := []) ⟨hx, hb, hml, hown, hts⟩ hN (c_X7_chained l z _ _ _ _ r7 qr7) (va_cwS 4 hts gX7_minus_X7_chained rfl rfl rfl (by decide +kernel) ⟨(Nat.le_of_ble_eq_true rfl), (Nat.le_of_ble_eq_true rfl)⟩) rfl hl.1 rfl (Nat.le_of_ble_eq_true rfl) dX7_minus_40 hcl hsl ?_
        refine lv_goto (tgt := 47) hx hb dX7_minus_43 (by decide) ?_
        obtain ⟨rfl, rfl⟩ := Prod.mk.inj (gn_some h)
        exact W.iret hx hb hr (fun t ht _ => ⟨rfl, by rw [ht]; exact hP, hD, hS.F ht⟩) hS.2.2 dX7_minus_47 hlk
theorem in_X7_isLike_X7 : ∀ w ∈ wsX70, w ∈ wsX7_isLike := fun _ h => List.mem_cons_of_mem _ (List.mem_append_right _ h)
def rm_X7_isLike : Room := { frames := 0, cells := 0, slots := 0, locals := 0 }
section
variable {p : Program} {l : Launch} {e : Env} {s : State} {m : MethodId} {args : Array Value} {below : List Frame} {meth : Method} {c : Code} {z : Nat} {K : Ev} {C : CS} {o : Nat → Int64} {g : Gh}
end
set_option maxRecDepth 100000 in
theorem c_X7_isLike (l : Launch) (z : Nat) (K : Ev) (C : CS) (o : Nat → Int64) (g : Gh) (a0 : Int64) (a1 : Int64) (S : MS) (r : Int32) (S' : MS) (h : F_X7_isLike z a0 a1 S = some (r, S')) : Met l yX7_isLike wsX7_isLike rm_X7_isLike (qH K [.ref (K.2.2.1 12), .long a0, .long a1] C S o g) (qR K (some (.int r)) C S' o g) 0 0 (inA K) := by
  refine Met.ofW (cc := cX7_isLike) (maxL := 5) (ret := (some .boolean)) (by decide) rfl ?_
  intro p e s m args below meth c s₁ B hml hv
  obtain ⟨rfl, hN, hP, hK, hD, hF⟩ := hv
  have hx := B.exec
  have hb := B.bytes
  have hr := B.returns
  have hts := atoms_spec (ws := wsX7_isLike) B.pre
  have hown : s.vm.findClass RX7 = some m.cls := findClass_of_methodNamed B.named
  have hlk := B.notSynchronized
  have hcl : 0 ≤ (rm_X7_isLike).cells := Nat.zero_le _
  have hsl : 0 ≤ (rm_X7_isLike).slots := Nat.zero_le _
  have Cc : Cx p s m _ meth c cX7_isLike 5 RX7 wsX7_isLike (some .boolean) := ⟨hx, hb, hml, hown, hts, hr, hlk, hN⟩
  have hS : va_S (inA K) s.heap s.heap [] := va_S.rf
  have hl := lv_entry ([.ref (K.2.2.1 12), .long a0, .long a1]) (n := 5) (Nat.le_of_ble_eq_true rfl)
  rw [lg_entry_eq]
  generalize (lg_sl ([.ref (K.2.2.1 12), .long a0, .long a1]) ++ List.replicate (5 - (lg_sl ([.ref (K.2.2.1 12), .long a0, .long a1])).length) Slot.unset).toArray = ls at hl ⊢
  have hl : lv_has ls 5 [(0, .ref (K.2.2.1 12)), (1, .long a0), (3, .long a1)] := hl
  rw [F_X7_isLike] at h
  refine lv_aload_n hx hb dX7_isLike_0 rfl (lv_at hl 0 rfl) ?_
  refine va_get (D := K.1) (ci := 6) (v := .long (mg_up S)) (C := RX7) (T := TX7) (N := 24) hx hb hts in_X7_isLike_X7 hown hK hP 12 rfl rfl 1 (by decide) (hts (.fieldLink RX7 48 "SawSumsModel" "up" "J") (by decide +kernel)) (fun _ h9 => h9) rfl dX7_isLike_1 ?_
  refine lv_lload_n hx hb dX7_isLike_4 rfl (lv_at hl 1 rfl) ?_
  refine ll_ne (tgt := 22) hx hb dX7_isLike_5 dX7_isLike_6 (by decide) (fun c1 => ?_) (fun c1 => ?_)
  · have h := gn_f h c1
    refine lv_iconst (v := (0 : Int32)) hx hb dX7_isLike_22 (by decide) ?_
    obtain ⟨rfl, rfl⟩ := Prod.mk.inj (gn_some h)
    exact W.zret (ty := .boolean) hx hb hr rfl (fun t ht _ => ⟨rfl, by rw [ht]; exact hP, hD, hS.F ht⟩) hS.2.2 dX7_isLike_23 hlk
  · have h := gn_t h c1
    refine lv_aload_n hx hb dX7_isLike_9 rfl (lv_at hl 0 rfl) ?_
    refine va_get (D := K.1) (ci := 6) (v := .long (mg_under S)) (C := RX7) (T := TX7) (N := 24) hx hb hts in_X7_isLike_X7 hown hK hP 12 rfl rfl 2 (by decide) (hts (.fieldLink RX7 51 "SawSumsModel" "under" "J") (by decide +kernel)) (fun _ h9 => h9) rfl dX7_isLike_10 ?_
    refine lv_lload_n hx hb dX7_isLike_13 rfl (lv_at hl 2 rfl) ?_
    refine ll_ne (tgt := 22) hx hb dX7_isLike_14 dX7_isLike_15 (by decide) (fun c2 => ?_) (fun c2 => ?_)
    · have h := gn_f h c2
      refine lv_iconst (v := (0 : Int32)) hx hb dX7_isLike_22 (by decide) ?_
      obtain ⟨rfl, rfl⟩ := Prod.mk.inj (gn_some h)
      exact W.zret (ty := .boolean) hx hb hr rfl (fun t ht _ => ⟨rfl, by rw [ht]; exact hP, hD, hS.F ht⟩) hS.2.2 dX7_isLike_23 hlk
    · have h := gn_t h c2
      refine lv_iconst (v := (1 : Int32)) hx hb dX7_isLike_18 (by decide) ?_
      refine lv_goto (tgt := 23) hx hb dX7_isLike_19 (by decide) ?_
      obtain ⟨rfl, rfl⟩ := Prod.mk.inj (gn_some h)
      exact W.zret (ty := .boolean) hx hb hr rfl (fun t ht _ => ⟨rfl, by rw [ht]; exact hP, hD, hS.F ht⟩) hS.2.2 dX7_isLike_23 hlk
theorem in_X7_alike_X7 : ∀ w ∈ wsX70, w ∈ wsX7_alike := fun _ h => List.mem_cons_of_mem _ (List.mem_append_right _ h)
def rm_X7_alike : Room := { frames := 4, cells := 0, slots := 0, locals := 115 }
section
variable {p : Program} {l : Launch} {e : Env} {s : State} {m : MethodId} {args : Array Value} {below : List Frame} {meth : Method} {c : Code} {z : Nat} {K : Ev} {C : CS} {o : Nat → Int64} {g : Gh}
set_option maxRecDepth 100000 in
theorem w_X7_alike_45 (Cc : Cx p s m args meth c cX7_alike 10 RX7 wsX7_alike (some .int)) (hK : va_K K.1 vwCl (tysOf K) s) (hF : SF K s) {r : Int32} {S' : MS} (n : Nat) : ∀ (x2 : Int32) (x3 : Int32) (x4 : Int64) (x6 : Int64) (x8 : Int32) (x9 : Int32) (S : MS) (H : Heap) (locs : List Loc), va_P K.1 vwCl (wd K C S o g) H → va_D (inA K) (wd K C S o g) → va_S (inA K) s.heap H locs → G_X7_alike_45 z n x2 x3 x4 x6 x8 x9 S = some (r, S') → ∀ ls, lv_has ls 10 [(0, .ref (K.2.2.1 12)), (2, .int x2), (3, .int x3), (4, .long x4), (6, .long x6), (8, .int x8), (9, .int x9)] → W p l e rm_X7_alike s m args below meth c H locs 0 0 (MQ below (qR K (some (.int r)) C S' o g) args s 0 0 (inA K)) (F0 m 45 ls []) := by
  obtain ⟨hx, hb, hml, hown, hts, hr, hlk, hN⟩ := id Cc
  have hcl : 0 ≤ (rm_X7_alike).cells := Nat.zero_le _
  have hsl : 0 ≤ (rm_X7_alike).slots := Nat.zero_le _
  induction n with
  | zero => intro x2 x3 x4 x6 x8 x9 S H locs hP hD hS h; cases h
  | succ n ih =>
    intro x2 x3 x4 x6 x8 x9 S H locs hP hD hS h ls hl
    rw [G_X7_alike_45] at h
    refine lv_iload hx hb dX7_alike_45 (lv_at hl 6 rfl) ?_
    refine lv_iload_n hx hb dX7_alike_47 rfl (lv_at hl 1 rfl) ?_
    refine lv_icmp_ge (tgt := 108) hx hb dX7_alike_48 (by decide) (fun c1 => ?_) (fun c1 => ?_)
    · have h := gn_t h c1
      refine lv_iload_n hx hb dX7_alike_108 rfl (lv_at hl 2 rfl) ?_
      refine lv_iconst (v := (-1 : Int32)) hx hb dX7_alike_109 (by decide) ?_
      refine lv_icmp_ne (tgt := 118) hx hb dX7_alike_110 (by decide) (fun c2 => ?_) (fun c2 => ?_)
      · have h := gn_f h c2
        refine lv_iconst (v := (-1 : Int32)) hx hb dX7_alike_118 (by decide) ?_
        obtain ⟨rfl, rfl⟩ := Prod.mk.inj (gn_some h)
        exact W.iret hx hb hr (fun t ht _ => ⟨rfl, by rw [ht]; exact hP, hD, hS.F ht⟩) hS.2.2 dX7_alike_119 hlk
      · have h := gn_t h c2
        refine lv_iload hx hb dX7_alike_113 (lv_at hl 5 rfl) ?_
        refine lv_goto (tgt := 119) hx hb dX7_alike_115 (by decide) ?_
        obtain ⟨rfl, rfl⟩ := Prod.mk.inj (gn_some h)
        exact W.iret hx hb hr (fun t ht _ => ⟨rfl, by rw [ht]; exact hP, hD, hS.F ht⟩) hS.2.2 dX7_alike_119 hlk
    · have h := gn_f h c1
      refine lv_iload hx hb dX7_alike_51 (lv_at hl 6 rfl) ?_
      refine lv_i2l hx hb dX7_alike_53 rfl ?_
      refine lv_iload_n hx hb dX7_alike_54 rfl (lv_at hl 1 rfl) ?_
      refine lv_i2l hx hb dX7_alike_55 rfl ?_
      obtain ⟨r3, qr3, h⟩ := gn_bd h
      refine pc_S (rest := []) ⟨hx, hb, hml, hown, hts⟩ hN (c_X7_common l z _ _ r3 qr3) (va_cwS 2 hts gX7_alike_X7_common rfl rfl rfl (by decide +kernel) ⟨(Nat.le_of_ble_eq_true rfl), (Nat.le_of_ble_eq_true rfl)⟩) rfl hl.1 rfl (Nat.le_of_ble_eq_true rfl) dX7_alike_56 hcl hsl ?_
      refine lv_lconst (v := (1 : Int64)) hx hb dX7_alike_59 (by decide) ?_
      refine ll_eq (tgt := 67) hx hb dX7_alike_60 dX7_alike_61 (by decide) (fun c4 => ?_) (fun c4 => ?_)
      · have h := gn_t h c4
        refine lv_aload_n hx hb dX7_alike_67 rfl (lv_at hl 0 rfl) ?_
        refine lv_iload hx hb dX7_alike_68 (lv_at hl 6 rfl) ?_
        refine lv_i2l hx hb dX7_alike_70 rfl ?_
        refine lv_iload_n hx hb dX7_alike_71 rfl (lv_at hl 1 rfl) ?_
        refine lv_i2l hx hb dX7_alike_72 rfl ?_
        obtain ⟨S5, qS5, h⟩ := gn_bd h
        refine hc_V (rest := []) ⟨hx, hb, hml, hown, hts⟩ hN hF hK hP hD hS (c_X7_laysSum l z K _ o g _ _ _  S5 qS5) (cwV 2 hts gX7_alike_X7_laysSum rfl rfl rfl (by decide +kernel) ⟨(Nat.le_of_ble_eq_true rfl), (Nat.le_of_ble_eq_true rfl)⟩) (va_recv hK hP (ci := 6) (q0 := 12) rfl rfl) rfl hl.1 rfl (Nat.le_of_ble_eq_true rfl) dX7_alike_73 hcl hsl (fun H locs hP hD hS => ?_)
        have hP : va_P K.1 vwCl (wd K C S5 o g) H := hP
        have hD : va_D (inA K) (wd K C S5 o g) := hD
        refine W.eq (g2 := F0 m 76 ls []) rfl ?_
        refine lv_aload_n hx hb dX7_alike_76 rfl (lv_at hl 0 rfl) ?_
        refine lv_lload hx hb dX7_alike_77 (lv_at hl 3 rfl) ?_
        refine lv_lload hx hb dX7_alike_79 (lv_at hl 4 rfl) ?_
        obtain ⟨r6, S7, qS7, h⟩ := gn_bd2 h
        refine hc_V (rest := []) ⟨hx, hb, hml, hown, hts⟩ hN hF hK hP hD hS (c_X7_isLike l z K _ o g _ _ _ r6 S7 qS7) (cwV 2 hts gX7_alike_X7_isLike rfl rfl rfl (by decide +kernel) ⟨(Nat.le_of_ble_eq_true rfl), (Nat.le_of_ble_eq_true rfl)⟩) (va_recv hK hP (ci := 6) (q0 := 12) rfl rfl) rfl hl.1 rfl (Nat.le_of_ble_eq_true rfl) dX7_alike_81 hcl hsl (fun H locs hP hD hS => ?_)
        have hP : va_P K.1 vwCl (wd K C S7 o g) H := hP
        have hD : va_D (inA K) (wd K C S7 o g) := hD
        refine W.eq (g2 := F0 m 84 ls [.int r6]) rfl ?_
        refine lv_if_ne (tgt := 90) hx hb dX7_alike_84 (by decide) (fun c8 => ?_) (fun c8 => ?_)
        · have h := gn_f h c8
          refine lv_iload hx hb dX7_alike_90 (lv_at hl 5 rfl) ?_
          refine lv_iload_n hx hb dX7_alike_92 rfl (lv_at hl 2 rfl) ?_
          refine lv_icmp_ne (tgt := 99) hx hb dX7_alike_93 (by decide) (fun c9 => ?_) (fun c9 => ?_)
          · have h := gn_f h c9
            obtain ⟨v10, ev10, h⟩ := gn_nm h
            refine lv_iinc (v := v10) (lv' := [(8, .int v10), (0, .ref (K.2.2.1 12)), (2, .int x2), (3, .int x3), (4, .long x4), (6, .long x6), (9, .int x9)]) hx hb dX7_alike_99 hl (k := 5) rfl (by rw [ev10]; rfl) (by decide) rfl (fun ls hl => ?_)
            obtain ⟨v11, ev11, h⟩ := gn_nm h
            refine lv_iinc (v := v11) (lv' := [(9, .int v11), (8, .int v10), (0, .ref (K.2.2.1 12)), (2, .int x2), (3, .int x3), (4, .long x4), (6, .long x6)]) hx hb dX7_alike_102 hl (k := 6) rfl (by rw [ev11]; rfl) (by decide) rfl (fun ls hl => ?_)
            refine lv_goto (tgt := 45) hx hb dX7_alike_105 (by decide) ?_
            exact ih x2 x3 x4 x6 v10 v11 S7 _ _ hP hD hS h ls (lv_sub hl [2, 3, 4, 5, 6, 1, 0] rfl)
          · have h := gn_t h c9
            refine lv_iload hx hb dX7_alike_96 (lv_at hl 6 rfl) ?_
            obtain ⟨rfl, rfl⟩ := Prod.mk.inj (gn_some h)
            exact W.iret hx hb hr (fun t ht _ => ⟨rfl, by rw [ht]; exact hP, hD, hS.F ht⟩) hS.2.2 dX7_alike_98 hlk
        · have h := gn_t h c8
          refine lv_goto (tgt := 102) hx hb dX7_alike_87 (by decide) ?_
          obtain ⟨v12, ev12, h⟩ := gn_nm h
          refine lv_iinc (v := v12) (lv' := [(9, .int v12), (0, .ref (K.2.2.1 12)), (2, .int x2), (3, .int x3), (4, .long x4), (6, .long x6), (8, .int x8)]) hx hb dX7_alike_102 hl (k := 6) rfl (by rw [ev12]; rfl) (by decide) rfl (fun ls hl => ?_)
          refine lv_goto (tgt := 45) hx hb dX7_alike_105 (by decide) ?_
          exact ih x2 x3 x4 x6 x8 v12 S7 _ _ hP hD hS h ls (lv_sub hl [1, 2, 3, 4, 5, 6, 0] rfl)
      · have h := gn_f h c4
        refine lv_goto (tgt := 102) hx hb dX7_alike_64 (by decide) ?_
        obtain ⟨v13, ev13, h⟩ := gn_nm h
        refine lv_iinc (v := v13) (lv' := [(9, .int v13), (0, .ref (K.2.2.1 12)), (2, .int x2), (3, .int x3), (4, .long x4), (6, .long x6), (8, .int x8)]) hx hb dX7_alike_102 hl (k := 6) rfl (by rw [ev13]; rfl) (by decide) rfl (fun ls hl => ?_)
        refine lv_goto (tgt := 45) hx hb dX7_alike_105 (by decide) ?_
        exact ih x2 x3 x4 x6 x8 v13 S _ _ hP hD hS h ls (lv_sub hl [1, 2, 3, 4, 5, 6, 0] rfl)
end
set_option maxRecDepth 100000 in
theorem c_X7_alike (l : Launch) (z : Nat) (K : Ev) (C : CS) (o : Nat → Int64) (g : Gh) (a0 : Int32) (a1 : Int32) (a2 : Int32) (S : MS) (r : Int32) (S' : MS) (h : F_X7_alike z a0 a1 a2 S = some (r, S')) : Met l yX7_alike wsX7_alike rm_X7_alike (qH K [.ref (K.2.2.1 12), .int a0, .int a1, .int a2] C S o g) (qR K (some (.int r)) C S' o g) 0 0 (inA K) := by
  refine Met.ofW (cc := cX7_alike) (maxL := 10) (ret := (some .int)) (by decide) rfl ?_
  intro p e s m args below meth c s₁ B hml hv
  obtain ⟨rfl, hN, hP, hK, hD, hF⟩ := hv
  have hx := B.exec
  have hb := B.bytes
  have hr := B.returns
  have hts := atoms_spec (ws := wsX7_alike) B.pre
  have hown : s.vm.findClass RX7 = some m.cls := findClass_of_methodNamed B.named
  have hlk := B.notSynchronized
  have hcl : 0 ≤ (rm_X7_alike).cells := Nat.zero_le _
  have hsl : 0 ≤ (rm_X7_alike).slots := Nat.zero_le _
  have Cc : Cx p s m _ meth c cX7_alike 10 RX7 wsX7_alike (some .int) := ⟨hx, hb, hml, hown, hts, hr, hlk, hN⟩
  have hS : va_S (inA K) s.heap s.heap [] := va_S.rf
  have hl := lv_entry ([.ref (K.2.2.1 12), .int a0, .int a1, .int a2]) (n := 10) (Nat.le_of_ble_eq_true rfl)
  rw [lg_entry_eq]
  generalize (lg_sl ([.ref (K.2.2.1 12), .int a0, .int a1, .int a2]) ++ List.replicate (10 - (lg_sl ([.ref (K.2.2.1 12), .int a0, .int a1, .int a2])).length) Slot.unset).toArray = ls at hl ⊢
  have hl : lv_has ls 10 [(0, .ref (K.2.2.1 12)), (1, .int a0), (2, .int a1), (3, .int a2)] := hl
  rw [F_X7_alike] at h
  refine lv_aload_n hx hb dX7_alike_0 rfl (lv_at hl 0 rfl) ?_
  refine lv_iconst (v := (0 : Int32)) hx hb dX7_alike_1 (by decide) ?_
  obtain ⟨S1, eS1, h⟩ := gn_nm h
  refine va_put (D := K.1) (ci := 6) (v := .int (0 : Int32)) (ty := .int) (C := RX7) (T := TX7) (N := 24) hx hb hts in_X7_alike_X7 tyX7 tyX7_ok nmX7 hown hK hP hD hS 12 rfl rfl 0 (by decide) (hts (.fieldLink RX7 33 "SawSumsModel" "thrown" "I") (by decide +kernel)) (fun _ h9 => h9) rfl (by decide +kernel) rfl rfl (Nat.le_of_ble_eq_true rfl) dX7_alike_2 (fun H locs hP hD hS => ?_)
  have hP : va_P K.1 vwCl (wd K C S1 o g) H := by rw [eS1]; exact hP
  have hD : va_D (inA K) (wd K C S1 o g) := by rw [eS1]; exact hD
  refine lv_iload_n hx hb dX7_alike_5 rfl (lv_at hl 2 rfl) ?_
  refine lv_i2l hx hb dX7_alike_6 rfl ?_
  refine lv_lconst (v := (1 : Int64)) hx hb dX7_alike_7 (by decide) ?_
  refine lv_ldc2 hx hb hown (hts (.constantLong RX7 110 (500)) (by decide +kernel)) dX7_alike_8 ?_
  obtain ⟨r2, qr2, h⟩ := gn_bd h
  refine pc_S (rest := []) ⟨hx, hb, hml, hown, hts⟩ hN (c_X7_isIn l z _ _ _ r2 qr2) (va_cwS 3 hts gX7_alike_X7_isIn rfl rfl rfl (by decide +kernel) ⟨(Nat.le_of_ble_eq_true rfl), (Nat.le_of_ble_eq_true rfl)⟩) rfl hl.1 rfl (Nat.le_of_ble_eq_true rfl) dX7_alike_11 hcl hsl ?_
  refine lv_if_ne (tgt := 19) hx hb dX7_alike_14 (by decide) (fun c3 => ?_) (fun c3 => ?_)
  · have h := gn_f h c3
    refine lv_aload_n hx hb dX7_alike_19 rfl (lv_at hl 0 rfl) ?_
    refine lv_iload_n hx hb dX7_alike_20 rfl (lv_at hl 1 rfl) ?_
    refine lv_i2l hx hb dX7_alike_21 rfl ?_
    refine lv_iload_n hx hb dX7_alike_22 rfl (lv_at hl 2 rfl) ?_
    refine lv_i2l hx hb dX7_alike_23 rfl ?_
    obtain ⟨S4, qS4, h⟩ := gn_bd h
    refine hc_V (rest := []) ⟨hx, hb, hml, hown, hts⟩ hN hF hK hP hD hS (c_X7_laysSum l z K _ o g _ _ _  S4 qS4) (cwV 2 hts gX7_alike_X7_laysSum rfl rfl rfl (by decide +kernel) ⟨(Nat.le_of_ble_eq_true rfl), (Nat.le_of_ble_eq_true rfl)⟩) (va_recv hK hP (ci := 6) (q0 := 12) rfl rfl) rfl hl.1 rfl (Nat.le_of_ble_eq_true rfl) dX7_alike_24 hcl hsl (fun H locs hP hD hS => ?_)
    have hP : va_P K.1 vwCl (wd K C S4 o g) H := hP
    have hD : va_D (inA K) (wd K C S4 o g) := hD
    refine W.eq (g2 := F0 m 27 ls []) rfl ?_
    refine lv_aload_n hx hb dX7_alike_27 rfl (lv_at hl 0 rfl) ?_
    refine va_get (D := K.1) (ci := 6) (v := .long (mg_up S4)) (C := RX7) (T := TX7) (N := 24) hx hb hts in_X7_alike_X7 hown hK hP 12 rfl rfl 1 (by decide) (hts (.fieldLink RX7 48 "SawSumsModel" "up" "J") (by decide +kernel)) (fun _ h9 => h9) rfl dX7_alike_28 ?_
    obtain ⟨v5, ev5, h⟩ := gn_nm h
    refine ln_l ev5 ?_
    refine lv_lstore (lv' := [(4, .long v5), (0, .ref (K.2.2.1 12)), (1, .int a0), (2, .int a1), (3, .int a2)]) hx hb dX7_alike_31 hl (by decide) rfl (fun ls hl => ?_)
    refine lv_aload_n hx hb dX7_alike_33 rfl (lv_at hl 1 rfl) ?_
    refine va_get (D := K.1) (ci := 6) (v := .long (mg_under S4)) (C := RX7) (T := TX7) (N := 24) hx hb hts in_X7_alike_X7 hown hK hP 12 rfl rfl 2 (by decide) (hts (.fieldLink RX7 51 "SawSumsModel" "under" "J") (by decide +kernel)) (fun _ h9 => h9) rfl dX7_alike_34 ?_
    obtain ⟨v6, ev6, h⟩ := gn_nm h
    refine ln_l ev6 ?_
    refine lv_lstore (lv' := [(6, .long v6), (4, .long v5), (0, .ref (K.2.2.1 12)), (1, .int a0), (2, .int a1), (3, .int a2)]) hx hb dX7_alike_37 hl (by decide) rfl (fun ls hl => ?_)
    refine lv_iconst (v := (0 : Int32)) hx hb dX7_alike_39 (by decide) ?_
    refine lv_istore (lv' := [(8, .int (0 : Int32)), (6, .long v6), (4, .long v5), (0, .ref (K.2.2.1 12)), (1, .int a0), (2, .int a1), (3, .int a2)]) hx hb dX7_alike_40 hl (by decide) rfl (fun ls hl => ?_)
    refine lv_iconst (v := (0 : Int32)) hx hb dX7_alike_42 (by decide) ?_
    refine lv_istore (lv' := [(9, .int (0 : Int32)), (8, .int (0 : Int32)), (6, .long v6), (4, .long v5), (0, .ref (K.2.2.1 12)), (1, .int a0), (2, .int a1), (3, .int a2)]) hx hb dX7_alike_43 hl (by decide) rfl (fun ls hl => ?_)
    exact w_X7_alike_45 Cc hK hF z a1 a2 v5 v6 (0 : Int32) (0 : Int32) S4 _ _ hP hD hS h ls (lv_sub hl [4, 6, 7, 3, 2, 1, 0] rfl)
  · have h := gn_t h c3
    refine lv_iconst (v := (-1 : Int32)) hx hb dX7_alike_17 (by decide) ?_
    obtain ⟨rfl, rfl⟩ := Prod.mk.inj (gn_some h)
    exact W.iret hx hb hr (fun t ht _ => ⟨rfl, by rw [ht]; exact hP, hD, hS.F ht⟩) hS.2.2 dX7_alike_18 hlk
theorem in_X7_sorts_X7 : ∀ w ∈ wsX70, w ∈ wsX7_sorts := fun _ h => List.mem_cons_of_mem _ (List.mem_append_right _ h)
def rm_X7_sorts : Room := { frames := 3, cells := 0, slots := 0, locals := 89 }
section
variable {p : Program} {l : Launch} {e : Env} {s : State} {m : MethodId} {args : Array Value} {below : List Frame} {meth : Method} {c : Code} {z : Nat} {K : Ev} {C : CS} {o : Nat → Int64} {g : Gh}
set_option maxRecDepth 100000 in
theorem w_X7_sorts_127 (Cc : Cx p s m args meth c cX7_sorts 13 RX7 wsX7_sorts (some .int)) (hK : va_K K.1 vwCl (tysOf K) s) (hF : SF K s) {r : Int32} {S' : MS} {k40 : Int32 → Int32 → Int32 → Int32 → Int64 → Int32 → MS → Option (Int32 × MS)} (hk40 : ∀ (x1 : Int32) (x2 : Int32) (x3 : Int32) (x4 : Int32) (x5 : Int64) (x7 : Int32) (S : MS) (H : Heap) (locs : List Loc), va_P K.1 vwCl (wd K C S o g) H → va_D (inA K) (wd K C S o g) → va_S (inA K) s.heap H locs → k40 x1 x2 x3 x4 x5 x7 S = some (r, S') → ∀ ls, lv_has ls 13 [(0, .ref (K.2.2.1 12)), (1, .int x1), (2, .int x2), (3, .int x3), (4, .int x4), (5, .long x5), (7, .int x7)] → W p l e rm_X7_sorts s m args below meth c H locs 0 0 (MQ below (qR K (some (.int r)) C S' o g) args s 0 0 (inA K)) (F0 m 40 ls [])) (n : Nat) : ∀ (x1 : Int32) (x2 : Int32) (x3 : Int32) (x4 : Int32) (x5 : Int64) (x7 : Int32) (x8 : Int64) (x11 : Int32) (x12 : Int32) (S : MS) (H : Heap) (locs : List Loc), va_P K.1 vwCl (wd K C S o g) H → va_D (inA K) (wd K C S o g) → va_S (inA K) s.heap H locs → G_X7_sorts_127 z k40 n x1 x2 x3 x4 x5 x7 x8 x11 x12 S = some (r, S') → ∀ ls, lv_has ls 13 [(0, .ref (K.2.2.1 12)), (1, .int x1), (2, .int x2), (3, .int x3), (4, .int x4), (5, .long x5), (7, .int x7), (8, .long x8), (11, .int x11), (12, .int x12)] → W p l e rm_X7_sorts s m args below meth c H locs 0 0 (MQ below (qR K (some (.int r)) C S' o g) args s 0 0 (inA K)) (F0 m 127 ls []) := by
  obtain ⟨hx, hb, hml, hown, hts, hr, hlk, hN⟩ := id Cc
  have hcl : 0 ≤ (rm_X7_sorts).cells := Nat.zero_le _
  have hsl : 0 ≤ (rm_X7_sorts).slots := Nat.zero_le _
  induction n with
  | zero => intro x1 x2 x3 x4 x5 x7 x8 x11 x12 S H locs hP hD hS h; cases h
  | succ n ih =>
    intro x1 x2 x3 x4 x5 x7 x8 x11 x12 S H locs hP hD hS h ls hl
    rw [G_X7_sorts_127] at h
    refine lv_iload hx hb dX7_sorts_127 (lv_at hl 9 rfl) ?_
    refine lv_iload_n hx hb dX7_sorts_129 rfl (lv_at hl 3 rfl) ?_
    refine lv_icmp_ge (tgt := 164) hx hb dX7_sorts_130 (by decide) (fun c1 => ?_) (fun c1 => ?_)
    · have h := gn_t h c1
      refine lv_iload hx hb dX7_sorts_164 (lv_at hl 8 rfl) ?_
      refine lv_if_eq (tgt := 172) hx hb dX7_sorts_166 (by decide) (fun c2 => ?_) (fun c2 => ?_)
      · have h := gn_t h c2
        refine lv_aload_n hx hb dX7_sorts_172 rfl (lv_at hl 0 rfl) ?_
        refine va_get (D := K.1) (ci := 6) (v := .ref (K.2.2.1 13)) (C := RX7) (T := TX7) (N := 24) hx hb hts in_X7_sorts_X7 hown hK hP 12 rfl rfl 3 (by decide) (hts (.fieldLink RX7 7 "SawSumsModel" "row" "[J") (by decide +kernel)) (fun _ h9 => h9) rfl dX7_sorts_173 ?_
        refine lv_iload_n hx hb dX7_sorts_176 rfl (lv_at hl 3 rfl) ?_
        refine lv_lload hx hb dX7_sorts_177 (lv_at hl 7 rfl) ?_
        obtain ⟨n3, h⟩ := gn_yz h
        obtain ⟨S4, eS4, h⟩ := gn_nm h
        refine va_last hx hb hK hP hD hS 13 0 rfl rfl (ib_in n3) dX7_sorts_179 (fun H locs hP hD hS => ?_)
        have hP : va_P K.1 vwCl (wd K C S4 o g) H := by rw [eS4]; exact hP
        have hD : va_D (inA K) (wd K C S4 o g) := by rw [eS4]; exact hD
        obtain ⟨v5, ev5, h⟩ := gn_nm h
        refine lv_iinc (v := v5) (lv' := [(3, .int v5), (0, .ref (K.2.2.1 12)), (1, .int x1), (2, .int x2), (4, .int x4), (5, .long x5), (7, .int x7), (8, .long x8), (11, .int x11), (12, .int x12)]) hx hb dX7_sorts_180 hl (k := 3) rfl (by rw [ev5]; rfl) (by decide) rfl (fun ls hl => ?_)
        obtain ⟨v6, ev6, h⟩ := gn_nm h
        refine lv_iinc (v := v6) (lv' := [(7, .int v6), (3, .int v5), (0, .ref (K.2.2.1 12)), (1, .int x1), (2, .int x2), (4, .int x4), (5, .long x5), (8, .long x8), (11, .int x11), (12, .int x12)]) hx hb dX7_sorts_183 hl (k := 6) rfl (by rw [ev6]; rfl) (by decide) rfl (fun ls hl => ?_)
        refine lv_goto (tgt := 40) hx hb dX7_sorts_186 (by decide) ?_
        exact hk40 x1 x2 v5 x4 x5 v6 S4 _ _ hP hD hS h ls (lv_sub hl [2, 3, 4, 1, 5, 6, 0] rfl)
      · have h := gn_f h c2
        refine lv_goto (tgt := 183) hx hb dX7_sorts_169 (by decide) ?_
        obtain ⟨v7, ev7, h⟩ := gn_nm h
        refine lv_iinc (v := v7) (lv' := [(7, .int v7), (0, .ref (K.2.2.1 12)), (1, .int x1), (2, .int x2), (3, .int x3), (4, .int x4), (5, .long x5), (8, .long x8), (11, .int x11), (12, .int x12)]) hx hb dX7_sorts_183 hl (k := 6) rfl (by rw [ev7]; rfl) (by decide) rfl (fun ls hl => ?_)
        refine lv_goto (tgt := 40) hx hb dX7_sorts_186 (by decide) ?_
        exact hk40 x1 x2 x3 x4 x5 v7 S _ _ hP hD hS h ls (lv_sub hl [1, 2, 3, 4, 5, 6, 0] rfl)
    · have h := gn_f h c1
      refine lv_iload hx hb dX7_sorts_133 (lv_at hl 8 rfl) ?_
      refine lv_if_ne (tgt := 151) hx hb dX7_sorts_135 (by decide) (fun c8 => ?_) (fun c8 => ?_)
      · have h := gn_f h c8
        refine lv_iconst (v := (1 : Int32)) hx hb dX7_sorts_151 (by decide) ?_
        refine lv_goto (tgt := 156) hx hb dX7_sorts_152 (by decide) ?_
        refine lv_istore (lv' := [(11, .int (1 : Int32)), (0, .ref (K.2.2.1 12)), (1, .int x1), (2, .int x2), (3, .int x3), (4, .int x4), (5, .long x5), (7, .int x7), (8, .long x8), (12, .int x12)]) hx hb dX7_sorts_156 hl (by decide) rfl (fun ls hl => ?_)
        obtain ⟨v9, ev9, h⟩ := gn_nm h
        refine lv_iinc (v := v9) (lv' := [(12, .int v9), (11, .int (1 : Int32)), (0, .ref (K.2.2.1 12)), (1, .int x1), (2, .int x2), (3, .int x3), (4, .int x4), (5, .long x5), (7, .int x7), (8, .long x8)]) hx hb dX7_sorts_158 hl (k := 9) rfl (by rw [ev9]; rfl) (by decide) rfl (fun ls hl => ?_)
        refine lv_goto (tgt := 127) hx hb dX7_sorts_161 (by decide) ?_
        exact ih x1 x2 x3 x4 x5 x7 x8 (1 : Int32) v9 S _ _ hP hD hS h ls (lv_sub hl [2, 3, 4, 5, 6, 7, 8, 9, 1, 0] rfl)
      · have h := gn_t h c8
        refine lv_aload_n hx hb dX7_sorts_138 rfl (lv_at hl 0 rfl) ?_
        refine va_get (D := K.1) (ci := 6) (v := .ref (K.2.2.1 13)) (C := RX7) (T := TX7) (N := 24) hx hb hts in_X7_sorts_X7 hown hK hP 12 rfl rfl 3 (by decide) (hts (.fieldLink RX7 7 "SawSumsModel" "row" "[J") (by decide +kernel)) (fun _ h9 => h9) rfl dX7_sorts_139 ?_
        refine lv_iload hx hb dX7_sorts_142 (lv_at hl 9 rfl) ?_
        obtain ⟨n10, h⟩ := gn_yz h
        refine va_lald hx hb hK hP 13 0 rfl rfl (ib_in n10) dX7_sorts_144 ?_
        refine lv_lload hx hb dX7_sorts_145 (lv_at hl 7 rfl) ?_
        refine ll_ne (tgt := 155) hx hb dX7_sorts_147 dX7_sorts_148 (by decide) (fun c11 => ?_) (fun c11 => ?_)
        · have h := gn_f h c11
          refine lv_iconst (v := (0 : Int32)) hx hb dX7_sorts_155 (by decide) ?_
          refine lv_istore (lv' := [(11, .int (0 : Int32)), (0, .ref (K.2.2.1 12)), (1, .int x1), (2, .int x2), (3, .int x3), (4, .int x4), (5, .long x5), (7, .int x7), (8, .long x8), (12, .int x12)]) hx hb dX7_sorts_156 hl (by decide) rfl (fun ls hl => ?_)
          obtain ⟨v12, ev12, h⟩ := gn_nm h
          refine lv_iinc (v := v12) (lv' := [(12, .int v12), (11, .int (0 : Int32)), (0, .ref (K.2.2.1 12)), (1, .int x1), (2, .int x2), (3, .int x3), (4, .int x4), (5, .long x5), (7, .int x7), (8, .long x8)]) hx hb dX7_sorts_158 hl (k := 9) rfl (by rw [ev12]; rfl) (by decide) rfl (fun ls hl => ?_)
          refine lv_goto (tgt := 127) hx hb dX7_sorts_161 (by decide) ?_
          exact ih x1 x2 x3 x4 x5 x7 x8 (0 : Int32) v12 S _ _ hP hD hS h ls (lv_sub hl [2, 3, 4, 5, 6, 7, 8, 9, 1, 0] rfl)
        · have h := gn_t h c11
          refine lv_iconst (v := (1 : Int32)) hx hb dX7_sorts_151 (by decide) ?_
          refine lv_goto (tgt := 156) hx hb dX7_sorts_152 (by decide) ?_
          refine lv_istore (lv' := [(11, .int (1 : Int32)), (0, .ref (K.2.2.1 12)), (1, .int x1), (2, .int x2), (3, .int x3), (4, .int x4), (5, .long x5), (7, .int x7), (8, .long x8), (12, .int x12)]) hx hb dX7_sorts_156 hl (by decide) rfl (fun ls hl => ?_)
          obtain ⟨v13, ev13, h⟩ := gn_nm h
          refine lv_iinc (v := v13) (lv' := [(12, .int v13), (11, .int (1 : Int32)), (0, .ref (K.2.2.1 12)), (1, .int x1), (2, .int x2), (3, .int x3), (4, .int x4), (5, .long x5), (7, .int x7), (8, .long x8)]) hx hb dX7_sorts_158 hl (k := 9) rfl (by rw [ev13]; rfl) (by decide) rfl (fun ls hl => ?_)
          refine lv_goto (tgt := 127) hx hb dX7_sorts_161 (by decide) ?_
          exact ih x1 x2 x3 x4 x5 x7 x8 (1 : Int32) v13 S _ _ hP hD hS h ls (lv_sub hl [2, 3, 4, 5, 6, 7, 8, 9, 1, 0] rfl)
set_option maxRecDepth 100000 in
theorem w_X7_sorts_105 (Cc : Cx p s m args meth c cX7_sorts 13 RX7 wsX7_sorts (some .int)) (hK : va_K K.1 vwCl (tysOf K) s) (hF : SF K s) {r : Int32} {S' : MS} {k40 : Int32 → Int32 → Int32 → Int32 → Int64 → Int32 → MS → Option (Int32 × MS)} (hk40 : ∀ (x1 : Int32) (x2 : Int32) (x3 : Int32) (x4 : Int32) (x5 : Int64) (x7 : Int32) (S : MS) (H : Heap) (locs : List Loc), va_P K.1 vwCl (wd K C S o g) H → va_D (inA K) (wd K C S o g) → va_S (inA K) s.heap H locs → k40 x1 x2 x3 x4 x5 x7 S = some (r, S') → ∀ ls, lv_has ls 13 [(0, .ref (K.2.2.1 12)), (1, .int x1), (2, .int x2), (3, .int x3), (4, .int x4), (5, .long x5), (7, .int x7)] → W p l e rm_X7_sorts s m args below meth c H locs 0 0 (MQ below (qR K (some (.int r)) C S' o g) args s 0 0 (inA K)) (F0 m 40 ls [])) : ∀ (x1 : Int32) (x2 : Int32) (x3 : Int32) (x5 : Int64) (x7 : Int32) (x8 : Int64) (x10 : Int32) (t0 : Int32) (S : MS) (H : Heap) (locs : List Loc), va_P K.1 vwCl (wd K C S o g) H → va_D (inA K) (wd K C S o g) → va_S (inA K) s.heap H locs → G_X7_sorts_105 z k40 x1 x2 x3 x5 x7 x8 x10 t0 S = some (r, S') → ∀ ls, lv_has ls 13 [(0, .ref (K.2.2.1 12)), (1, .int x1), (2, .int x2), (3, .int x3), (5, .long x5), (7, .int x7), (8, .long x8), (10, .int x10)] → W p l e rm_X7_sorts s m args below meth c H locs 0 0 (MQ below (qR K (some (.int r)) C S' o g) args s 0 0 (inA K)) (F0 m 105 ls [.int t0]) := by
  obtain ⟨hx, hb, hml, hown, hts, hr, hlk, hN⟩ := id Cc
  have hcl : 0 ≤ (rm_X7_sorts).cells := Nat.zero_le _
  have hsl : 0 ≤ (rm_X7_sorts).slots := Nat.zero_le _
  intro x1 x2 x3 x5 x7 x8 x10 t0 S H locs hP hD hS h ls hl
  rw [G_X7_sorts_105] at h
  refine lv_istore (lv' := [(4, .int t0), (0, .ref (K.2.2.1 12)), (1, .int x1), (2, .int x2), (3, .int x3), (5, .long x5), (7, .int x7), (8, .long x8), (10, .int x10)]) hx hb dX7_sorts_105 hl (by decide) rfl (fun ls hl => ?_)
  refine lv_iload hx hb dX7_sorts_107 (lv_at hl 8 rfl) ?_
  refine lv_if_eq (tgt := 117) hx hb dX7_sorts_109 (by decide) (fun c1 => ?_) (fun c1 => ?_)
  · have h := gn_t h c1
    refine lv_lload hx hb dX7_sorts_117 (lv_at hl 5 rfl) ?_
    refine lv_lstore (lv' := [(5, .long x5), (4, .int t0), (0, .ref (K.2.2.1 12)), (1, .int x1), (2, .int x2), (3, .int x3), (7, .int x7), (8, .long x8), (10, .int x10)]) hx hb dX7_sorts_119 hl (by decide) rfl (fun ls hl => ?_)
    refine lv_iconst (v := (0 : Int32)) hx hb dX7_sorts_121 (by decide) ?_
    refine lv_istore (lv' := [(11, .int (0 : Int32)), (5, .long x5), (4, .int t0), (0, .ref (K.2.2.1 12)), (1, .int x1), (2, .int x2), (3, .int x3), (7, .int x7), (8, .long x8), (10, .int x10)]) hx hb dX7_sorts_122 hl (by decide) rfl (fun ls hl => ?_)
    refine lv_iconst (v := (0 : Int32)) hx hb dX7_sorts_124 (by decide) ?_
    refine lv_istore (lv' := [(12, .int (0 : Int32)), (11, .int (0 : Int32)), (5, .long x5), (4, .int t0), (0, .ref (K.2.2.1 12)), (1, .int x1), (2, .int x2), (3, .int x3), (7, .int x7), (8, .long x8), (10, .int x10)]) hx hb dX7_sorts_125 hl (by decide) rfl (fun ls hl => ?_)
    exact w_X7_sorts_127 Cc hK hF hk40 z x1 x2 x3 t0 x5 x7 x8 (0 : Int32) (0 : Int32) S _ _ hP hD hS h ls (lv_sub hl [4, 5, 6, 7, 3, 2, 8, 9, 1, 0] rfl)
  · have h := gn_f h c1
    refine lv_lload hx hb dX7_sorts_112 (lv_at hl 7 rfl) ?_
    refine lv_goto (tgt := 119) hx hb dX7_sorts_114 (by decide) ?_
    refine lv_lstore (lv' := [(5, .long x8), (4, .int t0), (0, .ref (K.2.2.1 12)), (1, .int x1), (2, .int x2), (3, .int x3), (7, .int x7), (8, .long x8), (10, .int x10)]) hx hb dX7_sorts_119 hl (by decide) rfl (fun ls hl => ?_)
    refine lv_iconst (v := (0 : Int32)) hx hb dX7_sorts_121 (by decide) ?_
    refine lv_istore (lv' := [(11, .int (0 : Int32)), (5, .long x8), (4, .int t0), (0, .ref (K.2.2.1 12)), (1, .int x1), (2, .int x2), (3, .int x3), (7, .int x7), (8, .long x8), (10, .int x10)]) hx hb dX7_sorts_122 hl (by decide) rfl (fun ls hl => ?_)
    refine lv_iconst (v := (0 : Int32)) hx hb dX7_sorts_124 (by decide) ?_
    refine lv_istore (lv' := [(12, .int (0 : Int32)), (11, .int (0 : Int32)), (5, .long x8), (4, .int t0), (0, .ref (K.2.2.1 12)), (1, .int x1), (2, .int x2), (3, .int x3), (7, .int x7), (8, .long x8), (10, .int x10)]) hx hb dX7_sorts_125 hl (by decide) rfl (fun ls hl => ?_)
    exact w_X7_sorts_127 Cc hK hF hk40 z x1 x2 x3 t0 x8 x7 x8 (0 : Int32) (0 : Int32) S _ _ hP hD hS h ls (lv_sub hl [4, 5, 6, 7, 3, 2, 8, 9, 1, 0] rfl)
set_option maxRecDepth 100000 in
theorem w_X7_sorts_86 (Cc : Cx p s m args meth c cX7_sorts 13 RX7 wsX7_sorts (some .int)) (hK : va_K K.1 vwCl (tysOf K) s) (hF : SF K s) {r : Int32} {S' : MS} {k40 : Int32 → Int32 → Int32 → Int32 → Int64 → Int32 → MS → Option (Int32 × MS)} (hk40 : ∀ (x1 : Int32) (x2 : Int32) (x3 : Int32) (x4 : Int32) (x5 : Int64) (x7 : Int32) (S : MS) (H : Heap) (locs : List Loc), va_P K.1 vwCl (wd K C S o g) H → va_D (inA K) (wd K C S o g) → va_S (inA K) s.heap H locs → k40 x1 x2 x3 x4 x5 x7 S = some (r, S') → ∀ ls, lv_has ls 13 [(0, .ref (K.2.2.1 12)), (1, .int x1), (2, .int x2), (3, .int x3), (4, .int x4), (5, .long x5), (7, .int x7)] → W p l e rm_X7_sorts s m args below meth c H locs 0 0 (MQ below (qR K (some (.int r)) C S' o g) args s 0 0 (inA K)) (F0 m 40 ls [])) : ∀ (x1 : Int32) (x2 : Int32) (x3 : Int32) (x4 : Int32) (x5 : Int64) (x7 : Int32) (x8 : Int64) (S : MS) (H : Heap) (locs : List Loc), va_P K.1 vwCl (wd K C S o g) H → va_D (inA K) (wd K C S o g) → va_S (inA K) s.heap H locs → G_X7_sorts_86 z k40 x1 x2 x3 x4 x5 x7 x8 S = some (r, S') → ∀ ls, lv_has ls 13 [(0, .ref (K.2.2.1 12)), (1, .int x1), (2, .int x2), (3, .int x3), (4, .int x4), (5, .long x5), (7, .int x7), (8, .long x8)] → W p l e rm_X7_sorts s m args below meth c H locs 0 0 (MQ below (qR K (some (.int r)) C S' o g) args s 0 0 (inA K)) (F0 m 86 ls []) := by
  obtain ⟨hx, hb, hml, hown, hts, hr, hlk, hN⟩ := id Cc
  have hcl : 0 ≤ (rm_X7_sorts).cells := Nat.zero_le _
  have hsl : 0 ≤ (rm_X7_sorts).slots := Nat.zero_le _
  intro x1 x2 x3 x4 x5 x7 x8 S H locs hP hD hS h ls hl
  rw [G_X7_sorts_86] at h
  refine lv_iconst (v := (1 : Int32)) hx hb dX7_sorts_86 (by decide) ?_
  refine lv_goto (tgt := 91) hx hb dX7_sorts_87 (by decide) ?_
  refine lv_istore (lv' := [(10, .int (1 : Int32)), (0, .ref (K.2.2.1 12)), (1, .int x1), (2, .int x2), (3, .int x3), (4, .int x4), (5, .long x5), (7, .int x7), (8, .long x8)]) hx hb dX7_sorts_91 hl (by decide) rfl (fun ls hl => ?_)
  refine lv_iload hx hb dX7_sorts_93 (lv_at hl 0 rfl) ?_
  refine lv_if_eq (tgt := 103) hx hb dX7_sorts_95 (by decide) (fun c1 => ?_) (fun c1 => ?_)
  · have h := gn_t h c1
    refine lv_iload hx hb dX7_sorts_103 (lv_at hl 5 rfl) ?_
    exact w_X7_sorts_105 Cc hK hF hk40 x1 x2 x3 x5 x7 x8 (1 : Int32) x4 S _ _ hP hD hS h ls (lv_sub hl [1, 2, 3, 4, 6, 7, 8, 0] rfl)
  · have h := gn_f h c1
    refine lv_iload hx hb dX7_sorts_98 (lv_at hl 7 rfl) ?_
    refine lv_goto (tgt := 105) hx hb dX7_sorts_100 (by decide) ?_
    exact w_X7_sorts_105 Cc hK hF hk40 x1 x2 x3 x5 x7 x8 (1 : Int32) x7 S _ _ hP hD hS h ls (lv_sub hl [1, 2, 3, 4, 6, 7, 8, 0] rfl)
set_option maxRecDepth 100000 in
theorem w_X7_sorts_40 (Cc : Cx p s m args meth c cX7_sorts 13 RX7 wsX7_sorts (some .int)) (hK : va_K K.1 vwCl (tysOf K) s) (hF : SF K s) {r : Int32} {S' : MS} (n : Nat) : ∀ (x1 : Int32) (x2 : Int32) (x3 : Int32) (x4 : Int32) (x5 : Int64) (x7 : Int32) (S : MS) (H : Heap) (locs : List Loc), va_P K.1 vwCl (wd K C S o g) H → va_D (inA K) (wd K C S o g) → va_S (inA K) s.heap H locs → G_X7_sorts_40 z n x1 x2 x3 x4 x5 x7 S = some (r, S') → ∀ ls, lv_has ls 13 [(0, .ref (K.2.2.1 12)), (1, .int x1), (2, .int x2), (3, .int x3), (4, .int x4), (5, .long x5), (7, .int x7)] → W p l e rm_X7_sorts s m args below meth c H locs 0 0 (MQ below (qR K (some (.int r)) C S' o g) args s 0 0 (inA K)) (F0 m 40 ls []) := by
  obtain ⟨hx, hb, hml, hown, hts, hr, hlk, hN⟩ := id Cc
  have hcl : 0 ≤ (rm_X7_sorts).cells := Nat.zero_le _
  have hsl : 0 ≤ (rm_X7_sorts).slots := Nat.zero_le _
  induction n with
  | zero => intro x1 x2 x3 x4 x5 x7 S H locs hP hD hS h; cases h
  | succ n ih =>
    intro x1 x2 x3 x4 x5 x7 S H locs hP hD hS h ls hl
    rw [G_X7_sorts_40] at h
    refine lv_iload hx hb dX7_sorts_40 (lv_at hl 6 rfl) ?_
    refine lv_iload_n hx hb dX7_sorts_42 rfl (lv_at hl 1 rfl) ?_
    refine lv_icmp_ge (tgt := 189) hx hb dX7_sorts_43 (by decide) (fun c1 => ?_) (fun c1 => ?_)
    · have h := gn_t h c1
      refine lv_iload_n hx hb dX7_sorts_189 rfl (lv_at hl 2 rfl) ?_
      refine lv_if_ne (tgt := 197) hx hb dX7_sorts_190 (by decide) (fun c2 => ?_) (fun c2 => ?_)
      · have h := gn_f h c2
        refine lv_iload hx hb dX7_sorts_197 (lv_at hl 4 rfl) ?_
        obtain ⟨rfl, rfl⟩ := Prod.mk.inj (gn_some h)
        exact W.iret hx hb hr (fun t ht _ => ⟨rfl, by rw [ht]; exact hP, hD, hS.F ht⟩) hS.2.2 dX7_sorts_199 hlk
      · have h := gn_t h c2
        refine lv_iload_n hx hb dX7_sorts_193 rfl (lv_at hl 3 rfl) ?_
        refine lv_goto (tgt := 199) hx hb dX7_sorts_194 (by decide) ?_
        obtain ⟨rfl, rfl⟩ := Prod.mk.inj (gn_some h)
        exact W.iret hx hb hr (fun t ht _ => ⟨rfl, by rw [ht]; exact hP, hD, hS.F ht⟩) hS.2.2 dX7_sorts_199 hlk
    · have h := gn_f h c1
      refine lv_iload hx hb dX7_sorts_46 (lv_at hl 6 rfl) ?_
      refine lv_i2l hx hb dX7_sorts_48 rfl ?_
      refine lv_iload_n hx hb dX7_sorts_49 rfl (lv_at hl 1 rfl) ?_
      refine lv_i2l hx hb dX7_sorts_50 rfl ?_
      obtain ⟨r3, qr3, h⟩ := gn_bd h
      refine pc_S (rest := []) ⟨hx, hb, hml, hown, hts⟩ hN (c_X7_common l z _ _ r3 qr3) (va_cwS 2 hts gX7_sorts_X7_common rfl rfl rfl (by decide +kernel) ⟨(Nat.le_of_ble_eq_true rfl), (Nat.le_of_ble_eq_true rfl)⟩) rfl hl.1 rfl (Nat.le_of_ble_eq_true rfl) dX7_sorts_51 hcl hsl ?_
      refine lv_lconst (v := (1 : Int64)) hx hb dX7_sorts_54 (by decide) ?_
      refine ll_eq (tgt := 62) hx hb dX7_sorts_55 dX7_sorts_56 (by decide) (fun c4 => ?_) (fun c4 => ?_)
      · have h := gn_t h c4
        refine lv_iload hx hb dX7_sorts_62 (lv_at hl 6 rfl) ?_
        refine lv_i2l hx hb dX7_sorts_64 rfl ?_
        refine lv_iload_n hx hb dX7_sorts_65 rfl (lv_at hl 1 rfl) ?_
        refine lv_i2l hx hb dX7_sorts_66 rfl ?_
        obtain ⟨r5, qr5, h⟩ := gn_bd h
        refine pc_S (rest := []) ⟨hx, hb, hml, hown, hts⟩ hN (c_X7_twelve l z _ _ r5 qr5) (va_cwS 2 hts gX7_sorts_X7_twelve rfl rfl rfl (by decide +kernel) ⟨(Nat.le_of_ble_eq_true rfl), (Nat.le_of_ble_eq_true rfl)⟩) rfl hl.1 rfl (Nat.le_of_ble_eq_true rfl) dX7_sorts_67 hcl hsl ?_
        refine lv_lstore (lv' := [(8, .long r5), (0, .ref (K.2.2.1 12)), (1, .int x1), (2, .int x2), (3, .int x3), (4, .int x4), (5, .long x5), (7, .int x7)]) hx hb dX7_sorts_70 hl (by decide) rfl (fun ls hl => ?_)
        refine lv_iload hx hb dX7_sorts_72 (lv_at hl 5 rfl) ?_
        refine lv_iconst (v := (-1 : Int32)) hx hb dX7_sorts_74 (by decide) ?_
        refine lv_icmp_eq (tgt := 86) hx hb dX7_sorts_75 (by decide) (fun c6 => ?_) (fun c6 => ?_)
        · have h := gn_t h c6
          exact w_X7_sorts_86 Cc hK hF ih x1 x2 x3 x4 x5 x7 r5 S _ _ hP hD hS h ls (lv_sub hl [1, 2, 3, 4, 5, 6, 7, 0] rfl)
        · have h := gn_f h c6
          refine lv_lload hx hb dX7_sorts_78 (lv_at hl 0 rfl) ?_
          refine lv_lload hx hb dX7_sorts_80 (lv_at hl 6 rfl) ?_
          refine ll_le (tgt := 90) hx hb dX7_sorts_82 dX7_sorts_83 (by decide) (fun c7 => ?_) (fun c7 => ?_)
          · have h := gn_t h c7
            refine lv_iconst (v := (0 : Int32)) hx hb dX7_sorts_90 (by decide) ?_
            refine lv_istore (lv' := [(10, .int (0 : Int32)), (8, .long r5), (0, .ref (K.2.2.1 12)), (1, .int x1), (2, .int x2), (3, .int x3), (4, .int x4), (5, .long x5), (7, .int x7)]) hx hb dX7_sorts_91 hl (by decide) rfl (fun ls hl => ?_)
            refine lv_iload hx hb dX7_sorts_93 (lv_at hl 0 rfl) ?_
            refine lv_if_eq (tgt := 103) hx hb dX7_sorts_95 (by decide) (fun c8 => ?_) (fun c8 => ?_)
            · have h := gn_t h c8
              refine lv_iload hx hb dX7_sorts_103 (lv_at hl 6 rfl) ?_
              exact w_X7_sorts_105 Cc hK hF ih x1 x2 x3 x5 x7 r5 (0 : Int32) x4 S _ _ hP hD hS h ls (lv_sub hl [2, 3, 4, 5, 7, 8, 1, 0] rfl)
            · have h := gn_f h c8
              refine lv_iload hx hb dX7_sorts_98 (lv_at hl 8 rfl) ?_
              refine lv_goto (tgt := 105) hx hb dX7_sorts_100 (by decide) ?_
              exact w_X7_sorts_105 Cc hK hF ih x1 x2 x3 x5 x7 r5 (0 : Int32) x7 S _ _ hP hD hS h ls (lv_sub hl [2, 3, 4, 5, 7, 8, 1, 0] rfl)
          · have h := gn_f h c7
            exact w_X7_sorts_86 Cc hK hF ih x1 x2 x3 x4 x5 x7 r5 S _ _ hP hD hS h ls (lv_sub hl [1, 2, 3, 4, 5, 6, 7, 0] rfl)
      · have h := gn_f h c4
        refine lv_goto (tgt := 183) hx hb dX7_sorts_59 (by decide) ?_
        obtain ⟨v9, ev9, h⟩ := gn_nm h
        refine lv_iinc (v := v9) (lv' := [(7, .int v9), (0, .ref (K.2.2.1 12)), (1, .int x1), (2, .int x2), (3, .int x3), (4, .int x4), (5, .long x5)]) hx hb dX7_sorts_183 hl (k := 6) rfl (by rw [ev9]; rfl) (by decide) rfl (fun ls hl => ?_)
        refine lv_goto (tgt := 40) hx hb dX7_sorts_186 (by decide) ?_
        exact ih x1 x2 x3 x4 x5 v9 S _ _ hP hD hS h ls (lv_sub hl [1, 2, 3, 4, 5, 6, 0] rfl)
end
set_option maxRecDepth 100000 in
theorem c_X7_sorts (l : Launch) (z : Nat) (K : Ev) (C : CS) (o : Nat → Int64) (g : Gh) (a0 : Int32) (a1 : Int32) (S : MS) (r : Int32) (S' : MS) (h : F_X7_sorts z a0 a1 S = some (r, S')) : Met l yX7_sorts wsX7_sorts rm_X7_sorts (qH K [.ref (K.2.2.1 12), .int a0, .int a1] C S o g) (qR K (some (.int r)) C S' o g) 0 0 (inA K) := by
  refine Met.ofW (cc := cX7_sorts) (maxL := 13) (ret := (some .int)) (by decide) rfl ?_
  intro p e s m args below meth c s₁ B hml hv
  obtain ⟨rfl, hN, hP, hK, hD, hF⟩ := hv
  have hx := B.exec
  have hb := B.bytes
  have hr := B.returns
  have hts := atoms_spec (ws := wsX7_sorts) B.pre
  have hown : s.vm.findClass RX7 = some m.cls := findClass_of_methodNamed B.named
  have hlk := B.notSynchronized
  have hcl : 0 ≤ (rm_X7_sorts).cells := Nat.zero_le _
  have hsl : 0 ≤ (rm_X7_sorts).slots := Nat.zero_le _
  have Cc : Cx p s m _ meth c cX7_sorts 13 RX7 wsX7_sorts (some .int) := ⟨hx, hb, hml, hown, hts, hr, hlk, hN⟩
  have hS : va_S (inA K) s.heap s.heap [] := va_S.rf
  have hl := lv_entry ([.ref (K.2.2.1 12), .int a0, .int a1]) (n := 13) (Nat.le_of_ble_eq_true rfl)
  rw [lg_entry_eq]
  generalize (lg_sl ([.ref (K.2.2.1 12), .int a0, .int a1]) ++ List.replicate (13 - (lg_sl ([.ref (K.2.2.1 12), .int a0, .int a1])).length) Slot.unset).toArray = ls at hl ⊢
  have hl : lv_has ls 13 [(0, .ref (K.2.2.1 12)), (1, .int a0), (2, .int a1)] := hl
  rw [F_X7_sorts] at h
  refine lv_aload_n hx hb dX7_sorts_0 rfl (lv_at hl 0 rfl) ?_
  refine lv_iconst (v := (0 : Int32)) hx hb dX7_sorts_1 (by decide) ?_
  obtain ⟨S1, eS1, h⟩ := gn_nm h
  refine va_put (D := K.1) (ci := 6) (v := .int (0 : Int32)) (ty := .int) (C := RX7) (T := TX7) (N := 24) hx hb hts in_X7_sorts_X7 tyX7 tyX7_ok nmX7 hown hK hP hD hS 12 rfl rfl 0 (by decide) (hts (.fieldLink RX7 33 "SawSumsModel" "thrown" "I") (by decide +kernel)) (fun _ h9 => h9) rfl (by decide +kernel) rfl rfl (Nat.le_of_ble_eq_true rfl) dX7_sorts_2 (fun H locs hP hD hS => ?_)
  have hP : va_P K.1 vwCl (wd K C S1 o g) H := by rw [eS1]; exact hP
  have hD : va_D (inA K) (wd K C S1 o g) := by rw [eS1]; exact hD
  refine lv_iload_n hx hb dX7_sorts_5 rfl (lv_at hl 1 rfl) ?_
  refine lv_i2l hx hb dX7_sorts_6 rfl ?_
  refine lv_lconst (v := (1 : Int64)) hx hb dX7_sorts_7 (by decide) ?_
  refine lv_ldc2 hx hb hown (hts (.constantLong RX7 110 (500)) (by decide +kernel)) dX7_sorts_8 ?_
  obtain ⟨r2, qr2, h⟩ := gn_bd h
  refine pc_S (rest := []) ⟨hx, hb, hml, hown, hts⟩ hN (c_X7_isIn l z _ _ _ r2 qr2) (va_cwS 3 hts gX7_sorts_X7_isIn rfl rfl rfl (by decide +kernel) ⟨(Nat.le_of_ble_eq_true rfl), (Nat.le_of_ble_eq_true rfl)⟩) rfl hl.1 rfl (Nat.le_of_ble_eq_true rfl) dX7_sorts_11 hcl hsl ?_
  refine lv_if_eq (tgt := 27) hx hb dX7_sorts_14 (by decide) (fun c3 => ?_) (fun c3 => ?_)
  · have h := gn_t h c3
    refine lv_iconst (v := (-1 : Int32)) hx hb dX7_sorts_27 (by decide) ?_
    obtain ⟨rfl, rfl⟩ := Prod.mk.inj (gn_some h)
    exact W.iret hx hb hr (fun t ht _ => ⟨rfl, by rw [ht]; exact hP, hD, hS.F ht⟩) hS.2.2 dX7_sorts_28 hlk
  · have h := gn_f h c3
    refine lv_iload_n hx hb dX7_sorts_17 rfl (lv_at hl 2 rfl) ?_
    refine lv_i2l hx hb dX7_sorts_18 rfl ?_
    refine lv_lconst (v := (0 : Int64)) hx hb dX7_sorts_19 (by decide) ?_
    refine lv_lconst (v := (1 : Int64)) hx hb dX7_sorts_20 (by decide) ?_
    obtain ⟨r4, qr4, h⟩ := gn_bd h
    refine pc_S (rest := []) ⟨hx, hb, hml, hown, hts⟩ hN (c_X7_isIn l z _ _ _ r4 qr4) (va_cwS 3 hts gX7_sorts_X7_isIn rfl rfl rfl (by decide +kernel) ⟨(Nat.le_of_ble_eq_true rfl), (Nat.le_of_ble_eq_true rfl)⟩) rfl hl.1 rfl (Nat.le_of_ble_eq_true rfl) dX7_sorts_21 hcl hsl ?_
    refine lv_if_ne (tgt := 29) hx hb dX7_sorts_24 (by decide) (fun c5 => ?_) (fun c5 => ?_)
    · have h := gn_f h c5
      refine lv_iconst (v := (0 : Int32)) hx hb dX7_sorts_29 (by decide) ?_
      refine lv_istore_n (lv' := [(3, .int (0 : Int32)), (0, .ref (K.2.2.1 12)), (1, .int a0), (2, .int a1)]) hx hb dX7_sorts_30 rfl hl (by decide) rfl (fun ls hl => ?_)
      refine lv_iconst (v := (-1 : Int32)) hx hb dX7_sorts_31 (by decide) ?_
      refine lv_istore (lv' := [(4, .int (-1 : Int32)), (3, .int (0 : Int32)), (0, .ref (K.2.2.1 12)), (1, .int a0), (2, .int a1)]) hx hb dX7_sorts_32 hl (by decide) rfl (fun ls hl => ?_)
      refine lv_lconst (v := (0 : Int64)) hx hb dX7_sorts_34 (by decide) ?_
      refine lv_lstore (lv' := [(5, .long (0 : Int64)), (4, .int (-1 : Int32)), (3, .int (0 : Int32)), (0, .ref (K.2.2.1 12)), (1, .int a0), (2, .int a1)]) hx hb dX7_sorts_35 hl (by decide) rfl (fun ls hl => ?_)
      refine lv_iconst (v := (0 : Int32)) hx hb dX7_sorts_37 (by decide) ?_
      refine lv_istore (lv' := [(7, .int (0 : Int32)), (5, .long (0 : Int64)), (4, .int (-1 : Int32)), (3, .int (0 : Int32)), (0, .ref (K.2.2.1 12)), (1, .int a0), (2, .int a1)]) hx hb dX7_sorts_38 hl (by decide) rfl (fun ls hl => ?_)
      exact w_X7_sorts_40 Cc hK hF z a0 a1 (0 : Int32) (-1 : Int32) (0 : Int64) (0 : Int32) S1 _ _ hP hD hS h ls (lv_sub hl [4, 5, 6, 3, 2, 1, 0] rfl)
    · have h := gn_t h c5
      refine lv_iconst (v := (-1 : Int32)) hx hb dX7_sorts_27 (by decide) ?_
      obtain ⟨rfl, rfl⟩ := Prod.mk.inj (gn_some h)
      exact W.iret hx hb hr (fun t ht _ => ⟨rfl, by rw [ht]; exact hP, hD, hS.F ht⟩) hS.2.2 dX7_sorts_28 hlk
theorem in_X7_steps_X7 : ∀ w ∈ wsX70, w ∈ wsX7_steps := fun _ h => List.mem_cons_of_mem _ (List.mem_append_right _ h)
def rm_X7_steps : Room := { frames := 1, cells := 0, slots := 0, locals := 25 }
section
variable {p : Program} {l : Launch} {e : Env} {s : State} {m : MethodId} {args : Array Value} {below : List Frame} {meth : Method} {c : Code} {z : Nat} {K : Ev} {C : CS} {o : Nat → Int64} {g : Gh}
set_option maxRecDepth 100000 in
theorem w_X7_steps_68 (Cc : Cx p s m args meth c cX7_steps 8 RX7 wsX7_steps (some .long)) (hK : va_K K.1 vwCl (tysOf K) s) (hF : SF K s) {r : Int64} {S' : MS} (n : Nat) : ∀ (x1 : Int32) (x2 : Int32) (x3 : Int32) (x4 : Int32) (x5 : Int64) (x7 : Int32) (S : MS) (H : Heap) (locs : List Loc), va_P K.1 vwCl (wd K C S o g) H → va_D (inA K) (wd K C S o g) → va_S (inA K) s.heap H locs → G_X7_steps_68 z n x1 x2 x3 x4 x5 x7 S = some (r, S') → ∀ ls, lv_has ls 8 [(1, .int x1), (2, .int x2), (3, .int x3), (4, .int x4), (5, .long x5), (7, .int x7)] → W p l e rm_X7_steps s m args below meth c H locs 0 0 (MQ below (qR K (some (.long r)) C S' o g) args s 0 0 (inA K)) (F0 m 68 ls []) := by
  obtain ⟨hx, hb, hml, hown, hts, hr, hlk, hN⟩ := id Cc
  have hcl : 0 ≤ (rm_X7_steps).cells := Nat.zero_le _
  have hsl : 0 ≤ (rm_X7_steps).slots := Nat.zero_le _
  induction n with
  | zero => intro x1 x2 x3 x4 x5 x7 S H locs hP hD hS h; cases h
  | succ n ih =>
    intro x1 x2 x3 x4 x5 x7 S H locs hP hD hS h ls hl
    rw [G_X7_steps_68] at h
    refine lv_iload hx hb dX7_steps_68 (lv_at hl 5 rfl) ?_
    refine lv_iload hx hb dX7_steps_70 (lv_at hl 3 rfl) ?_
    refine lv_icmp_ge (tgt := 100) hx hb dX7_steps_72 (by decide) (fun c1 => ?_) (fun c1 => ?_)
    · have h := gn_t h c1
      refine lv_lload hx hb dX7_steps_100 (lv_at hl 4 rfl) ?_
      obtain ⟨rfl, rfl⟩ := Prod.mk.inj (gn_some h)
      exact W.lret hx hb hr (fun t ht _ => ⟨rfl, by rw [ht]; exact hP, hD, hS.F ht⟩) hS.2.2 dX7_steps_102 hlk
    · have h := gn_f h c1
      refine lv_lload hx hb dX7_steps_75 (lv_at hl 4 rfl) ?_
      refine lv_iload_n hx hb dX7_steps_77 rfl (lv_at hl 0 rfl) ?_
      refine lv_i2l hx hb dX7_steps_78 rfl ?_
      refine lv_iload hx hb dX7_steps_79 (lv_at hl 5 rfl) ?_
      refine lv_i2l hx hb dX7_steps_81 rfl ?_
      refine lv_lmul hx hb dX7_steps_82 ?_
      refine lv_iload_n hx hb dX7_steps_83 rfl (lv_at hl 1 rfl) ?_
      refine lv_i2l hx hb dX7_steps_84 rfl ?_
      refine lv_ladd hx hb dX7_steps_85 ?_
      refine lv_iload_n hx hb dX7_steps_86 rfl (lv_at hl 2 rfl) ?_
      refine lv_i2l hx hb dX7_steps_87 rfl ?_
      obtain ⟨r2, qr2, h⟩ := gn_bd h
      refine pc_S (rest := [.long x5]) ⟨hx, hb, hml, hown, hts⟩ hN (c_X7_down l z _ _ r2 qr2) (va_cwS 2 hts gX7_steps_X7_down rfl rfl rfl (by decide +kernel) ⟨(Nat.le_of_ble_eq_true rfl), (Nat.le_of_ble_eq_true rfl)⟩) rfl hl.1 rfl (Nat.le_of_ble_eq_true rfl) dX7_steps_88 hcl hsl ?_
      refine lv_ladd hx hb dX7_steps_91 ?_
      obtain ⟨v3, ev3, h⟩ := gn_nm h
      refine ln_l ev3 ?_
      refine lv_lstore (lv' := [(5, .long v3), (1, .int x1), (2, .int x2), (3, .int x3), (4, .int x4), (7, .int x7)]) hx hb dX7_steps_92 hl (by decide) rfl (fun ls hl => ?_)
      obtain ⟨v4, ev4, h⟩ := gn_nm h
      refine lv_iinc (v := v4) (lv' := [(7, .int v4), (5, .long v3), (1, .int x1), (2, .int x2), (3, .int x3), (4, .int x4)]) hx hb dX7_steps_94 hl (k := 5) rfl (by rw [ev4]; rfl) (by decide) rfl (fun ls hl => ?_)
      refine lv_goto (tgt := 68) hx hb dX7_steps_97 (by decide) ?_
      exact ih x1 x2 x3 x4 v3 v4 S _ _ hP hD hS h ls (lv_sub hl [2, 3, 4, 5, 1, 0] rfl)
end
set_option maxRecDepth 100000 in
theorem c_X7_steps (l : Launch) (z : Nat) (K : Ev) (C : CS) (o : Nat → Int64) (g : Gh) (a0 : Int32) (a1 : Int32) (a2 : Int32) (a3 : Int32) (S : MS) (r : Int64) (S' : MS) (h : F_X7_steps z a0 a1 a2 a3 S = some (r, S')) : Met l yX7_steps wsX7_steps rm_X7_steps (qH K [.ref (K.2.2.1 12), .int a0, .int a1, .int a2, .int a3] C S o g) (qR K (some (.long r)) C S' o g) 0 0 (inA K) := by
  refine Met.ofW (cc := cX7_steps) (maxL := 8) (ret := (some .long)) (by decide) rfl ?_
  intro p e s m args below meth c s₁ B hml hv
  obtain ⟨rfl, hN, hP, hK, hD, hF⟩ := hv
  have hx := B.exec
  have hb := B.bytes
  have hr := B.returns
  have hts := atoms_spec (ws := wsX7_steps) B.pre
  have hown : s.vm.findClass RX7 = some m.cls := findClass_of_methodNamed B.named
  have hlk := B.notSynchronized
  have hcl : 0 ≤ (rm_X7_steps).cells := Nat.zero_le _
  have hsl : 0 ≤ (rm_X7_steps).slots := Nat.zero_le _
  have Cc : Cx p s m _ meth c cX7_steps 8 RX7 wsX7_steps (some .long) := ⟨hx, hb, hml, hown, hts, hr, hlk, hN⟩
  have hS : va_S (inA K) s.heap s.heap [] := va_S.rf
  have hl := lv_entry ([.ref (K.2.2.1 12), .int a0, .int a1, .int a2, .int a3]) (n := 8) (Nat.le_of_ble_eq_true rfl)
  rw [lg_entry_eq]
  generalize (lg_sl ([.ref (K.2.2.1 12), .int a0, .int a1, .int a2, .int a3]) ++ List.replicate (8 - (lg_sl ([.ref (K.2.2.1 12), .int a0, .int a1, .int a2, .int a3])).length) Slot.unset).toArray = ls at hl ⊢
  have hl : lv_has ls 8 [(0, .ref (K.2.2.1 12)), (1, .int a0), (2, .int a1), (3, .int a2), (4, .int a3)] := hl
  rw [F_X7_steps] at h
  refine lv_aload_n hx hb dX7_steps_0 rfl (lv_at hl 0 rfl) ?_
  refine lv_iconst (v := (0 : Int32)) hx hb dX7_steps_1 (by decide) ?_
  obtain ⟨S1, eS1, h⟩ := gn_nm h
  refine va_put (D := K.1) (ci := 6) (v := .int (0 : Int32)) (ty := .int) (C := RX7) (T := TX7) (N := 24) hx hb hts in_X7_steps_X7 tyX7 tyX7_ok nmX7 hown hK hP hD hS 12 rfl rfl 0 (by decide) (hts (.fieldLink RX7 33 "SawSumsModel" "thrown" "I") (by decide +kernel)) (fun _ h9 => h9) rfl (by decide +kernel) rfl rfl (Nat.le_of_ble_eq_true rfl) dX7_steps_2 (fun H locs hP hD hS => ?_)
  have hP : va_P K.1 vwCl (wd K C S1 o g) H := by rw [eS1]; exact hP
  have hD : va_D (inA K) (wd K C S1 o g) := by rw [eS1]; exact hD
  refine lv_iload_n hx hb dX7_steps_5 rfl (lv_at hl 1 rfl) ?_
  refine lv_i2l hx hb dX7_steps_6 rfl ?_
  refine lv_ldc2 hx hb hown (hts (.constantLong RX7 116 (-1000000)) (by decide +kernel)) dX7_steps_7 ?_
  refine lv_ldc2 hx hb hown (hts (.constantLong RX7 118 (1000000)) (by decide +kernel)) dX7_steps_10 ?_
  obtain ⟨r2, qr2, h⟩ := gn_bd h
  refine pc_S (rest := []) ⟨hx, hb, hml, hown, hts⟩ hN (c_X7_isIn l z _ _ _ r2 qr2) (va_cwS 3 hts gX7_steps_X7_isIn rfl rfl rfl (by decide +kernel) ⟨(Nat.le_of_ble_eq_true rfl), (Nat.le_of_ble_eq_true rfl)⟩) rfl hl.1 rfl (Nat.le_of_ble_eq_true rfl) dX7_steps_13 hcl hsl ?_
  refine lv_if_eq (tgt := 58) hx hb dX7_steps_16 (by decide) (fun c3 => ?_) (fun c3 => ?_)
  · have h := gn_t h c3
    refine lv_ldc2 hx hb hown (hts (.constantLong RX7 76 (-4000000000000000000)) (by decide +kernel)) dX7_steps_58 ?_
    obtain ⟨rfl, rfl⟩ := Prod.mk.inj (gn_some h)
    exact W.lret hx hb hr (fun t ht _ => ⟨rfl, by rw [ht]; exact hP, hD, hS.F ht⟩) hS.2.2 dX7_steps_61 hlk
  · have h := gn_f h c3
    refine lv_iload_n hx hb dX7_steps_19 rfl (lv_at hl 2 rfl) ?_
    refine lv_i2l hx hb dX7_steps_20 rfl ?_
    refine lv_ldc2 hx hb hown (hts (.constantLong RX7 116 (-1000000)) (by decide +kernel)) dX7_steps_21 ?_
    refine lv_ldc2 hx hb hown (hts (.constantLong RX7 118 (1000000)) (by decide +kernel)) dX7_steps_24 ?_
    obtain ⟨r4, qr4, h⟩ := gn_bd h
    refine pc_S (rest := []) ⟨hx, hb, hml, hown, hts⟩ hN (c_X7_isIn l z _ _ _ r4 qr4) (va_cwS 3 hts gX7_steps_X7_isIn rfl rfl rfl (by decide +kernel) ⟨(Nat.le_of_ble_eq_true rfl), (Nat.le_of_ble_eq_true rfl)⟩) rfl hl.1 rfl (Nat.le_of_ble_eq_true rfl) dX7_steps_27 hcl hsl ?_
    refine lv_if_eq (tgt := 58) hx hb dX7_steps_30 (by decide) (fun c5 => ?_) (fun c5 => ?_)
    · have h := gn_t h c5
      refine lv_ldc2 hx hb hown (hts (.constantLong RX7 76 (-4000000000000000000)) (by decide +kernel)) dX7_steps_58 ?_
      obtain ⟨rfl, rfl⟩ := Prod.mk.inj (gn_some h)
      exact W.lret hx hb hr (fun t ht _ => ⟨rfl, by rw [ht]; exact hP, hD, hS.F ht⟩) hS.2.2 dX7_steps_61 hlk
    · have h := gn_f h c5
      refine lv_iload_n hx hb dX7_steps_33 rfl (lv_at hl 3 rfl) ?_
      refine lv_i2l hx hb dX7_steps_34 rfl ?_
      refine lv_lconst (v := (1 : Int64)) hx hb dX7_steps_35 (by decide) ?_
      refine lv_ldc2 hx hb hown (hts (.constantLong RX7 118 (1000000)) (by decide +kernel)) dX7_steps_36 ?_
      obtain ⟨r6, qr6, h⟩ := gn_bd h
      refine pc_S (rest := []) ⟨hx, hb, hml, hown, hts⟩ hN (c_X7_isIn l z _ _ _ r6 qr6) (va_cwS 3 hts gX7_steps_X7_isIn rfl rfl rfl (by decide +kernel) ⟨(Nat.le_of_ble_eq_true rfl), (Nat.le_of_ble_eq_true rfl)⟩) rfl hl.1 rfl (Nat.le_of_ble_eq_true rfl) dX7_steps_39 hcl hsl ?_
      refine lv_if_eq (tgt := 58) hx hb dX7_steps_42 (by decide) (fun c7 => ?_) (fun c7 => ?_)
      · have h := gn_t h c7
        refine lv_ldc2 hx hb hown (hts (.constantLong RX7 76 (-4000000000000000000)) (by decide +kernel)) dX7_steps_58 ?_
        obtain ⟨rfl, rfl⟩ := Prod.mk.inj (gn_some h)
        exact W.lret hx hb hr (fun t ht _ => ⟨rfl, by rw [ht]; exact hP, hD, hS.F ht⟩) hS.2.2 dX7_steps_61 hlk
      · have h := gn_f h c7
        refine lv_iload hx hb dX7_steps_45 (lv_at hl 4 rfl) ?_
        refine lv_i2l hx hb dX7_steps_47 rfl ?_
        refine lv_lconst (v := (0 : Int64)) hx hb dX7_steps_48 (by decide) ?_
        refine lv_ldc2 hx hb hown (hts (.constantLong RX7 120 (100000)) (by decide +kernel)) dX7_steps_49 ?_
        obtain ⟨r8, qr8, h⟩ := gn_bd h
        refine pc_S (rest := []) ⟨hx, hb, hml, hown, hts⟩ hN (c_X7_isIn l z _ _ _ r8 qr8) (va_cwS 3 hts gX7_steps_X7_isIn rfl rfl rfl (by decide +kernel) ⟨(Nat.le_of_ble_eq_true rfl), (Nat.le_of_ble_eq_true rfl)⟩) rfl hl.1 rfl (Nat.le_of_ble_eq_true rfl) dX7_steps_52 hcl hsl ?_
        refine lv_if_ne (tgt := 62) hx hb dX7_steps_55 (by decide) (fun c9 => ?_) (fun c9 => ?_)
        · have h := gn_f h c9
          refine lv_lconst (v := (0 : Int64)) hx hb dX7_steps_62 (by decide) ?_
          refine lv_lstore (lv' := [(5, .long (0 : Int64)), (0, .ref (K.2.2.1 12)), (1, .int a0), (2, .int a1), (3, .int a2), (4, .int a3)]) hx hb dX7_steps_63 hl (by decide) rfl (fun ls hl => ?_)
          refine lv_iconst (v := (0 : Int32)) hx hb dX7_steps_65 (by decide) ?_
          refine lv_istore (lv' := [(7, .int (0 : Int32)), (5, .long (0 : Int64)), (0, .ref (K.2.2.1 12)), (1, .int a0), (2, .int a1), (3, .int a2), (4, .int a3)]) hx hb dX7_steps_66 hl (by decide) rfl (fun ls hl => ?_)
          exact w_X7_steps_68 Cc hK hF z a0 a1 a2 a3 (0 : Int64) (0 : Int32) S1 _ _ hP hD hS h ls (lv_sub hl [3, 4, 5, 6, 1, 0] rfl)
        · have h := gn_t h c9
          refine lv_ldc2 hx hb hown (hts (.constantLong RX7 76 (-4000000000000000000)) (by decide +kernel)) dX7_steps_58 ?_
          obtain ⟨rfl, rfl⟩ := Prod.mk.inj (gn_some h)
          exact W.lret hx hb hr (fun t ht _ => ⟨rfl, by rw [ht]; exact hP, hD, hS.F ht⟩) hS.2.2 dX7_steps_61 hlk
theorem in_X7_triangle_X7 : ∀ w ∈ wsX70, w ∈ wsX7_triangle := fun _ h => List.mem_cons_of_mem _ (List.mem_append_right _ h)
def rm_X7_triangle : Room := { frames := 2, cells := 0, slots := 0, locals := 68 }
section
variable {p : Program} {l : Launch} {e : Env} {s : State} {m : MethodId} {args : Array Value} {below : List Frame} {meth : Method} {c : Code} {z : Nat} {K : Ev} {C : CS} {o : Nat → Int64} {g : Gh}
end
set_option maxRecDepth 100000 in
theorem c_X7_triangle (l : Launch) (z : Nat) (K : Ev) (C : CS) (o : Nat → Int64) (g : Gh) (a0 : Int32) (a1 : Int32) (a2 : Int32) (S : MS) (r : Int64) (S' : MS) (h : F_X7_triangle z a0 a1 a2 S = some (r, S')) : Met l yX7_triangle wsX7_triangle rm_X7_triangle (qH K [.ref (K.2.2.1 12), .int a0, .int a1, .int a2] C S o g) (qR K (some (.long r)) C S' o g) 0 0 (inA K) := by
  refine Met.ofW (cc := cX7_triangle) (maxL := 4) (ret := (some .long)) (by decide) rfl ?_
  intro p e s m args below meth c s₁ B hml hv
  obtain ⟨rfl, hN, hP, hK, hD, hF⟩ := hv
  have hx := B.exec
  have hb := B.bytes
  have hr := B.returns
  have hts := atoms_spec (ws := wsX7_triangle) B.pre
  have hown : s.vm.findClass RX7 = some m.cls := findClass_of_methodNamed B.named
  have hlk := B.notSynchronized
  have hcl : 0 ≤ (rm_X7_triangle).cells := Nat.zero_le _
  have hsl : 0 ≤ (rm_X7_triangle).slots := Nat.zero_le _
  have Cc : Cx p s m _ meth c cX7_triangle 4 RX7 wsX7_triangle (some .long) := ⟨hx, hb, hml, hown, hts, hr, hlk, hN⟩
  have hS : va_S (inA K) s.heap s.heap [] := va_S.rf
  have hl := lv_entry ([.ref (K.2.2.1 12), .int a0, .int a1, .int a2]) (n := 4) (Nat.le_of_ble_eq_true rfl)
  rw [lg_entry_eq]
  generalize (lg_sl ([.ref (K.2.2.1 12), .int a0, .int a1, .int a2]) ++ List.replicate (4 - (lg_sl ([.ref (K.2.2.1 12), .int a0, .int a1, .int a2])).length) Slot.unset).toArray = ls at hl ⊢
  have hl : lv_has ls 4 [(0, .ref (K.2.2.1 12)), (1, .int a0), (2, .int a1), (3, .int a2)] := hl
  rw [F_X7_triangle] at h
  refine lv_aload_n hx hb dX7_triangle_0 rfl (lv_at hl 0 rfl) ?_
  refine lv_iconst (v := (0 : Int32)) hx hb dX7_triangle_1 (by decide) ?_
  obtain ⟨S1, eS1, h⟩ := gn_nm h
  refine va_put (D := K.1) (ci := 6) (v := .int (0 : Int32)) (ty := .int) (C := RX7) (T := TX7) (N := 24) hx hb hts in_X7_triangle_X7 tyX7 tyX7_ok nmX7 hown hK hP hD hS 12 rfl rfl 0 (by decide) (hts (.fieldLink RX7 33 "SawSumsModel" "thrown" "I") (by decide +kernel)) (fun _ h9 => h9) rfl (by decide +kernel) rfl rfl (Nat.le_of_ble_eq_true rfl) dX7_triangle_2 (fun H locs hP hD hS => ?_)
  have hP : va_P K.1 vwCl (wd K C S1 o g) H := by rw [eS1]; exact hP
  have hD : va_D (inA K) (wd K C S1 o g) := by rw [eS1]; exact hD
  refine lv_iload_n hx hb dX7_triangle_5 rfl (lv_at hl 1 rfl) ?_
  refine lv_iload_n hx hb dX7_triangle_6 rfl (lv_at hl 2 rfl) ?_
  refine lv_iload_n hx hb dX7_triangle_7 rfl (lv_at hl 3 rfl) ?_
  obtain ⟨r2, qr2, h⟩ := gn_bd h
  refine pc_S (rest := []) ⟨hx, hb, hml, hown, hts⟩ hN (c_X7_isTriangle l z _ _ _ r2 qr2) (va_cwS 3 hts gX7_triangle_X7_isTriangle rfl rfl rfl (by decide +kernel) ⟨(Nat.le_of_ble_eq_true rfl), (Nat.le_of_ble_eq_true rfl)⟩) rfl hl.1 rfl (Nat.le_of_ble_eq_true rfl) dX7_triangle_8 hcl hsl ?_
  refine lv_if_eq (tgt := 26) hx hb dX7_triangle_11 (by decide) (fun c3 => ?_) (fun c3 => ?_)
  · have h := gn_t h c3
    refine lv_ldc2 hx hb hown (hts (.constantLong RX7 76 (-4000000000000000000)) (by decide +kernel)) dX7_triangle_26 ?_
    obtain ⟨rfl, rfl⟩ := Prod.mk.inj (gn_some h)
    exact W.lret hx hb hr (fun t ht _ => ⟨rfl, by rw [ht]; exact hP, hD, hS.F ht⟩) hS.2.2 dX7_triangle_29 hlk
  · have h := gn_f h c3
    refine lv_iload_n hx hb dX7_triangle_14 rfl (lv_at hl 1 rfl) ?_
    refine lv_i2l hx hb dX7_triangle_15 rfl ?_
    refine lv_iload_n hx hb dX7_triangle_16 rfl (lv_at hl 2 rfl) ?_
    refine lv_i2l hx hb dX7_triangle_17 rfl ?_
    refine lv_iload_n hx hb dX7_triangle_18 rfl (lv_at hl 3 rfl) ?_
    refine lv_i2l hx hb dX7_triangle_19 rfl ?_
    obtain ⟨r4, qr4, h⟩ := gn_bd h
    refine pc_S (rest := []) ⟨hx, hb, hml, hown, hts⟩ hN (c_X7_below l z _ _ _ r4 qr4) (va_cwS 3 hts gX7_triangle_X7_below rfl rfl rfl (by decide +kernel) ⟨(Nat.le_of_ble_eq_true rfl), (Nat.le_of_ble_eq_true rfl)⟩) rfl hl.1 rfl (Nat.le_of_ble_eq_true rfl) dX7_triangle_20 hcl hsl ?_
    refine lv_goto (tgt := 29) hx hb dX7_triangle_23 (by decide) ?_
    obtain ⟨rfl, rfl⟩ := Prod.mk.inj (gn_some h)
    exact W.lret hx hb hr (fun t ht _ => ⟨rfl, by rw [ht]; exact hP, hD, hS.F ht⟩) hS.2.2 dX7_triangle_29 hlk
theorem in_X7_inside_X7 : ∀ w ∈ wsX70, w ∈ wsX7_inside := fun _ h => List.mem_cons_of_mem _ (List.mem_append_right _ h)
def rm_X7_inside : Room := { frames := 2, cells := 0, slots := 0, locals := 68 }
section
variable {p : Program} {l : Launch} {e : Env} {s : State} {m : MethodId} {args : Array Value} {below : List Frame} {meth : Method} {c : Code} {z : Nat} {K : Ev} {C : CS} {o : Nat → Int64} {g : Gh}
end
set_option maxRecDepth 100000 in
theorem c_X7_inside (l : Launch) (z : Nat) (K : Ev) (C : CS) (o : Nat → Int64) (g : Gh) (a0 : Int32) (a1 : Int32) (a2 : Int32) (S : MS) (r : Int64) (S' : MS) (h : F_X7_inside z a0 a1 a2 S = some (r, S')) : Met l yX7_inside wsX7_inside rm_X7_inside (qH K [.ref (K.2.2.1 12), .int a0, .int a1, .int a2] C S o g) (qR K (some (.long r)) C S' o g) 0 0 (inA K) := by
  refine Met.ofW (cc := cX7_inside) (maxL := 4) (ret := (some .long)) (by decide) rfl ?_
  intro p e s m args below meth c s₁ B hml hv
  obtain ⟨rfl, hN, hP, hK, hD, hF⟩ := hv
  have hx := B.exec
  have hb := B.bytes
  have hr := B.returns
  have hts := atoms_spec (ws := wsX7_inside) B.pre
  have hown : s.vm.findClass RX7 = some m.cls := findClass_of_methodNamed B.named
  have hlk := B.notSynchronized
  have hcl : 0 ≤ (rm_X7_inside).cells := Nat.zero_le _
  have hsl : 0 ≤ (rm_X7_inside).slots := Nat.zero_le _
  have Cc : Cx p s m _ meth c cX7_inside 4 RX7 wsX7_inside (some .long) := ⟨hx, hb, hml, hown, hts, hr, hlk, hN⟩
  have hS : va_S (inA K) s.heap s.heap [] := va_S.rf
  have hl := lv_entry ([.ref (K.2.2.1 12), .int a0, .int a1, .int a2]) (n := 4) (Nat.le_of_ble_eq_true rfl)
  rw [lg_entry_eq]
  generalize (lg_sl ([.ref (K.2.2.1 12), .int a0, .int a1, .int a2]) ++ List.replicate (4 - (lg_sl ([.ref (K.2.2.1 12), .int a0, .int a1, .int a2])).length) Slot.unset).toArray = ls at hl ⊢
  have hl : lv_has ls 4 [(0, .ref (K.2.2.1 12)), (1, .int a0), (2, .int a1), (3, .int a2)] := hl
  rw [F_X7_inside] at h
  refine lv_aload_n hx hb dX7_inside_0 rfl (lv_at hl 0 rfl) ?_
  refine lv_iconst (v := (0 : Int32)) hx hb dX7_inside_1 (by decide) ?_
  obtain ⟨S1, eS1, h⟩ := gn_nm h
  refine va_put (D := K.1) (ci := 6) (v := .int (0 : Int32)) (ty := .int) (C := RX7) (T := TX7) (N := 24) hx hb hts in_X7_inside_X7 tyX7 tyX7_ok nmX7 hown hK hP hD hS 12 rfl rfl 0 (by decide) (hts (.fieldLink RX7 33 "SawSumsModel" "thrown" "I") (by decide +kernel)) (fun _ h9 => h9) rfl (by decide +kernel) rfl rfl (Nat.le_of_ble_eq_true rfl) dX7_inside_2 (fun H locs hP hD hS => ?_)
  have hP : va_P K.1 vwCl (wd K C S1 o g) H := by rw [eS1]; exact hP
  have hD : va_D (inA K) (wd K C S1 o g) := by rw [eS1]; exact hD
  refine lv_iload_n hx hb dX7_inside_5 rfl (lv_at hl 1 rfl) ?_
  refine lv_iload_n hx hb dX7_inside_6 rfl (lv_at hl 2 rfl) ?_
  refine lv_iload_n hx hb dX7_inside_7 rfl (lv_at hl 3 rfl) ?_
  obtain ⟨r2, qr2, h⟩ := gn_bd h
  refine pc_S (rest := []) ⟨hx, hb, hml, hown, hts⟩ hN (c_X7_isTriangle l z _ _ _ r2 qr2) (va_cwS 3 hts gX7_inside_X7_isTriangle rfl rfl rfl (by decide +kernel) ⟨(Nat.le_of_ble_eq_true rfl), (Nat.le_of_ble_eq_true rfl)⟩) rfl hl.1 rfl (Nat.le_of_ble_eq_true rfl) dX7_inside_8 hcl hsl ?_
  refine lv_if_eq (tgt := 34) hx hb dX7_inside_11 (by decide) (fun c3 => ?_) (fun c3 => ?_)
  · have h := gn_t h c3
    refine lv_ldc2 hx hb hown (hts (.constantLong RX7 76 (-4000000000000000000)) (by decide +kernel)) dX7_inside_34 ?_
    obtain ⟨rfl, rfl⟩ := Prod.mk.inj (gn_some h)
    exact W.lret hx hb hr (fun t ht _ => ⟨rfl, by rw [ht]; exact hP, hD, hS.F ht⟩) hS.2.2 dX7_inside_37 hlk
  · have h := gn_f h c3
    refine lv_iload_n hx hb dX7_inside_14 rfl (lv_at hl 1 rfl) ?_
    refine lv_i2l hx hb dX7_inside_15 rfl ?_
    refine lv_iload_n hx hb dX7_inside_16 rfl (lv_at hl 2 rfl) ?_
    refine lv_i2l hx hb dX7_inside_17 rfl ?_
    refine lv_iload_n hx hb dX7_inside_18 rfl (lv_at hl 3 rfl) ?_
    refine lv_i2l hx hb dX7_inside_19 rfl ?_
    refine lv_lconst (v := (1 : Int64)) hx hb dX7_inside_20 (by decide) ?_
    refine lv_lsub hx hb dX7_inside_21 ?_
    refine lv_iload_n hx hb dX7_inside_22 rfl (lv_at hl 1 rfl) ?_
    refine lv_i2l hx hb dX7_inside_23 rfl ?_
    refine lv_lsub hx hb dX7_inside_24 ?_
    refine lv_iload_n hx hb dX7_inside_25 rfl (lv_at hl 2 rfl) ?_
    refine lv_i2l hx hb dX7_inside_26 rfl ?_
    refine lv_lsub hx hb dX7_inside_27 ?_
    obtain ⟨r4, qr4, h⟩ := gn_bd h
    refine pc_S (rest := []) ⟨hx, hb, hml, hown, hts⟩ hN (c_X7_below l z _ _ _ r4 qr4) (va_cwS 3 hts gX7_inside_X7_below rfl rfl rfl (by decide +kernel) ⟨(Nat.le_of_ble_eq_true rfl), (Nat.le_of_ble_eq_true rfl)⟩) rfl hl.1 rfl (Nat.le_of_ble_eq_true rfl) dX7_inside_28 hcl hsl ?_
    refine lv_goto (tgt := 37) hx hb dX7_inside_31 (by decide) ?_
    obtain ⟨rfl, rfl⟩ := Prod.mk.inj (gn_some h)
    exact W.lret hx hb hr (fun t ht _ => ⟨rfl, by rw [ht]; exact hP, hD, hS.F ht⟩) hS.2.2 dX7_inside_37 hlk
theorem in_X7_pyramid_X7 : ∀ w ∈ wsX70, w ∈ wsX7_pyramid := fun _ h => List.mem_cons_of_mem _ (List.mem_append_right _ h)
def rm_X7_pyramid : Room := { frames := 1, cells := 0, slots := 0, locals := 25 }
section
variable {p : Program} {l : Launch} {e : Env} {s : State} {m : MethodId} {args : Array Value} {below : List Frame} {meth : Method} {c : Code} {z : Nat} {K : Ev} {C : CS} {o : Nat → Int64} {g : Gh}
set_option maxRecDepth 100000 in
theorem w_X7_pyramid_73 (Cc : Cx p s m args meth c cX7_pyramid 10 RX7 wsX7_pyramid (some .long)) (hK : va_K K.1 vwCl (tysOf K) s) (hF : SF K s) {r : Int64} {S' : MS} {k51 : Int32 → Int32 → Int32 → Int64 → Int32 → MS → Option (Int64 × MS)} (hk51 : ∀ (x1 : Int32) (x2 : Int32) (x3 : Int32) (x4 : Int64) (x6 : Int32) (S : MS) (H : Heap) (locs : List Loc), va_P K.1 vwCl (wd K C S o g) H → va_D (inA K) (wd K C S o g) → va_S (inA K) s.heap H locs → k51 x1 x2 x3 x4 x6 S = some (r, S') → ∀ ls, lv_has ls 10 [(1, .int x1), (2, .int x2), (3, .int x3), (4, .long x4), (6, .int x6)] → W p l e rm_X7_pyramid s m args below meth c H locs 0 0 (MQ below (qR K (some (.long r)) C S' o g) args s 0 0 (inA K)) (F0 m 51 ls [])) (n : Nat) : ∀ (x1 : Int32) (x2 : Int32) (x3 : Int32) (x4 : Int64) (x6 : Int32) (x7 : Int64) (x9 : Int32) (S : MS) (H : Heap) (locs : List Loc), va_P K.1 vwCl (wd K C S o g) H → va_D (inA K) (wd K C S o g) → va_S (inA K) s.heap H locs → G_X7_pyramid_73 z k51 n x1 x2 x3 x4 x6 x7 x9 S = some (r, S') → ∀ ls, lv_has ls 10 [(1, .int x1), (2, .int x2), (3, .int x3), (4, .long x4), (6, .int x6), (7, .long x7), (9, .int x9)] → W p l e rm_X7_pyramid s m args below meth c H locs 0 0 (MQ below (qR K (some (.long r)) C S' o g) args s 0 0 (inA K)) (F0 m 73 ls []) := by
  obtain ⟨hx, hb, hml, hown, hts, hr, hlk, hN⟩ := id Cc
  have hcl : 0 ≤ (rm_X7_pyramid).cells := Nat.zero_le _
  have hsl : 0 ≤ (rm_X7_pyramid).slots := Nat.zero_le _
  induction n with
  | zero => intro x1 x2 x3 x4 x6 x7 x9 S H locs hP hD hS h; cases h
  | succ n ih =>
    intro x1 x2 x3 x4 x6 x7 x9 S H locs hP hD hS h ls hl
    rw [G_X7_pyramid_73] at h
    refine lv_iload hx hb dX7_pyramid_73 (lv_at hl 6 rfl) ?_
    refine lv_i2l hx hb dX7_pyramid_75 rfl ?_
    refine lv_iload_n hx hb dX7_pyramid_76 rfl (lv_at hl 1 rfl) ?_
    refine lv_i2l hx hb dX7_pyramid_77 rfl ?_
    refine lv_lmul hx hb dX7_pyramid_78 ?_
    refine lv_iload_n hx hb dX7_pyramid_79 rfl (lv_at hl 2 rfl) ?_
    refine lv_i2l hx hb dX7_pyramid_80 rfl ?_
    refine lv_lmul hx hb dX7_pyramid_81 ?_
    refine lv_lload hx hb dX7_pyramid_82 (lv_at hl 5 rfl) ?_
    refine ll_gt (tgt := 119) hx hb dX7_pyramid_84 dX7_pyramid_85 (by decide) (fun c1 => ?_) (fun c1 => ?_)
    · have h := gn_t h c1
      obtain ⟨v2, ev2, h⟩ := gn_nm h
      refine lv_iinc (v := v2) (lv' := [(6, .int v2), (1, .int x1), (2, .int x2), (3, .int x3), (4, .long x4), (7, .long x7), (9, .int x9)]) hx hb dX7_pyramid_119 hl (k := 4) rfl (by rw [ev2]; rfl) (by decide) rfl (fun ls hl => ?_)
      refine lv_goto (tgt := 51) hx hb dX7_pyramid_122 (by decide) ?_
      exact hk51 x1 x2 x3 x4 v2 S _ _ hP hD hS h ls (lv_sub hl [1, 2, 3, 4, 0] rfl)
    · have h := gn_f h c1
      refine lv_lload hx hb dX7_pyramid_88 (lv_at hl 3 rfl) ?_
      refine lv_lload hx hb dX7_pyramid_90 (lv_at hl 5 rfl) ?_
      refine lv_iload hx hb dX7_pyramid_92 (lv_at hl 6 rfl) ?_
      refine lv_i2l hx hb dX7_pyramid_94 rfl ?_
      refine lv_iload_n hx hb dX7_pyramid_95 rfl (lv_at hl 1 rfl) ?_
      refine lv_i2l hx hb dX7_pyramid_96 rfl ?_
      refine lv_lmul hx hb dX7_pyramid_97 ?_
      refine lv_iload_n hx hb dX7_pyramid_98 rfl (lv_at hl 2 rfl) ?_
      refine lv_i2l hx hb dX7_pyramid_99 rfl ?_
      refine lv_lmul hx hb dX7_pyramid_100 ?_
      refine lv_lsub hx hb dX7_pyramid_101 ?_
      refine lv_iload_n hx hb dX7_pyramid_102 rfl (lv_at hl 0 rfl) ?_
      refine lv_i2l hx hb dX7_pyramid_103 rfl ?_
      refine lv_iload_n hx hb dX7_pyramid_104 rfl (lv_at hl 2 rfl) ?_
      refine lv_i2l hx hb dX7_pyramid_105 rfl ?_
      refine lv_lmul hx hb dX7_pyramid_106 ?_
      obtain ⟨n3, h⟩ := gn_nz h
      refine lv_ldiv hx hb dX7_pyramid_107 n3 ?_
      refine lv_lconst (v := (1 : Int64)) hx hb dX7_pyramid_108 (by decide) ?_
      refine lv_ladd hx hb dX7_pyramid_109 ?_
      refine lv_ladd hx hb dX7_pyramid_110 ?_
      obtain ⟨v4, ev4, h⟩ := gn_nm h
      refine ln_l ev4 ?_
      refine lv_lstore (lv' := [(4, .long v4), (1, .int x1), (2, .int x2), (3, .int x3), (6, .int x6), (7, .long x7), (9, .int x9)]) hx hb dX7_pyramid_111 hl (by decide) rfl (fun ls hl => ?_)
      obtain ⟨v5, ev5, h⟩ := gn_nm h
      refine lv_iinc (v := v5) (lv' := [(9, .int v5), (4, .long v4), (1, .int x1), (2, .int x2), (3, .int x3), (6, .int x6), (7, .long x7)]) hx hb dX7_pyramid_113 hl (k := 6) rfl (by rw [ev5]; rfl) (by decide) rfl (fun ls hl => ?_)
      refine lv_goto (tgt := 73) hx hb dX7_pyramid_116 (by decide) ?_
      exact ih x1 x2 x3 v4 x6 x7 v5 S _ _ hP hD hS h ls (lv_sub hl [2, 3, 4, 1, 5, 6, 0] rfl)
set_option maxRecDepth 100000 in
theorem w_X7_pyramid_51 (Cc : Cx p s m args meth c cX7_pyramid 10 RX7 wsX7_pyramid (some .long)) (hK : va_K K.1 vwCl (tysOf K) s) (hF : SF K s) {r : Int64} {S' : MS} (n : Nat) : ∀ (x1 : Int32) (x2 : Int32) (x3 : Int32) (x4 : Int64) (x6 : Int32) (S : MS) (H : Heap) (locs : List Loc), va_P K.1 vwCl (wd K C S o g) H → va_D (inA K) (wd K C S o g) → va_S (inA K) s.heap H locs → G_X7_pyramid_51 z n x1 x2 x3 x4 x6 S = some (r, S') → ∀ ls, lv_has ls 10 [(1, .int x1), (2, .int x2), (3, .int x3), (4, .long x4), (6, .int x6)] → W p l e rm_X7_pyramid s m args below meth c H locs 0 0 (MQ below (qR K (some (.long r)) C S' o g) args s 0 0 (inA K)) (F0 m 51 ls []) := by
  obtain ⟨hx, hb, hml, hown, hts, hr, hlk, hN⟩ := id Cc
  have hcl : 0 ≤ (rm_X7_pyramid).cells := Nat.zero_le _
  have hsl : 0 ≤ (rm_X7_pyramid).slots := Nat.zero_le _
  induction n with
  | zero => intro x1 x2 x3 x4 x6 S H locs hP hD hS h; cases h
  | succ n ih =>
    intro x1 x2 x3 x4 x6 S H locs hP hD hS h ls hl
    rw [G_X7_pyramid_51] at h
    refine lv_iload hx hb dX7_pyramid_51 (lv_at hl 4 rfl) ?_
    refine lv_iload_n hx hb dX7_pyramid_53 rfl (lv_at hl 2 rfl) ?_
    refine lv_icmp_gt (tgt := 125) hx hb dX7_pyramid_54 (by decide) (fun c1 => ?_) (fun c1 => ?_)
    · have h := gn_t h c1
      refine lv_lload hx hb dX7_pyramid_125 (lv_at hl 3 rfl) ?_
      obtain ⟨rfl, rfl⟩ := Prod.mk.inj (gn_some h)
      exact W.lret hx hb hr (fun t ht _ => ⟨rfl, by rw [ht]; exact hP, hD, hS.F ht⟩) hS.2.2 dX7_pyramid_127 hlk
    · have h := gn_f h c1
      refine lv_iload_n hx hb dX7_pyramid_57 rfl (lv_at hl 2 rfl) ?_
      refine lv_iload hx hb dX7_pyramid_58 (lv_at hl 4 rfl) ?_
      refine lv_isub hx hb dX7_pyramid_60 ?_
      refine lv_i2l hx hb dX7_pyramid_61 rfl ?_
      refine lv_iload_n hx hb dX7_pyramid_62 rfl (lv_at hl 0 rfl) ?_
      refine lv_i2l hx hb dX7_pyramid_63 rfl ?_
      refine lv_lmul hx hb dX7_pyramid_64 ?_
      refine lv_iload_n hx hb dX7_pyramid_65 rfl (lv_at hl 1 rfl) ?_
      refine lv_i2l hx hb dX7_pyramid_66 rfl ?_
      refine lv_lmul hx hb dX7_pyramid_67 ?_
      obtain ⟨v2, ev2, h⟩ := gn_nm h
      refine ln_l ev2 ?_
      refine lv_lstore (lv' := [(7, .long v2), (1, .int x1), (2, .int x2), (3, .int x3), (4, .long x4), (6, .int x6)]) hx hb dX7_pyramid_68 hl (by decide) rfl (fun ls hl => ?_)
      refine lv_iconst (v := (0 : Int32)) hx hb dX7_pyramid_70 (by decide) ?_
      refine lv_istore (lv' := [(9, .int (0 : Int32)), (7, .long v2), (1, .int x1), (2, .int x2), (3, .int x3), (4, .long x4), (6, .int x6)]) hx hb dX7_pyramid_71 hl (by decide) rfl (fun ls hl => ?_)
      exact w_X7_pyramid_73 Cc hK hF ih z x1 x2 x3 x4 x6 v2 (0 : Int32) S _ _ hP hD hS h ls (lv_sub hl [2, 3, 4, 5, 6, 1, 0] rfl)
end
set_option maxRecDepth 100000 in
theorem c_X7_pyramid (l : Launch) (z : Nat) (K : Ev) (C : CS) (o : Nat → Int64) (g : Gh) (a0 : Int32) (a1 : Int32) (a2 : Int32) (S : MS) (r : Int64) (S' : MS) (h : F_X7_pyramid z a0 a1 a2 S = some (r, S')) : Met l yX7_pyramid wsX7_pyramid rm_X7_pyramid (qH K [.ref (K.2.2.1 12), .int a0, .int a1, .int a2] C S o g) (qR K (some (.long r)) C S' o g) 0 0 (inA K) := by
  refine Met.ofW (cc := cX7_pyramid) (maxL := 10) (ret := (some .long)) (by decide) rfl ?_
  intro p e s m args below meth c s₁ B hml hv
  obtain ⟨rfl, hN, hP, hK, hD, hF⟩ := hv
  have hx := B.exec
  have hb := B.bytes
  have hr := B.returns
  have hts := atoms_spec (ws := wsX7_pyramid) B.pre
  have hown : s.vm.findClass RX7 = some m.cls := findClass_of_methodNamed B.named
  have hlk := B.notSynchronized
  have hcl : 0 ≤ (rm_X7_pyramid).cells := Nat.zero_le _
  have hsl : 0 ≤ (rm_X7_pyramid).slots := Nat.zero_le _
  have Cc : Cx p s m _ meth c cX7_pyramid 10 RX7 wsX7_pyramid (some .long) := ⟨hx, hb, hml, hown, hts, hr, hlk, hN⟩
  have hS : va_S (inA K) s.heap s.heap [] := va_S.rf
  have hl := lv_entry ([.ref (K.2.2.1 12), .int a0, .int a1, .int a2]) (n := 10) (Nat.le_of_ble_eq_true rfl)
  rw [lg_entry_eq]
  generalize (lg_sl ([.ref (K.2.2.1 12), .int a0, .int a1, .int a2]) ++ List.replicate (10 - (lg_sl ([.ref (K.2.2.1 12), .int a0, .int a1, .int a2])).length) Slot.unset).toArray = ls at hl ⊢
  have hl : lv_has ls 10 [(0, .ref (K.2.2.1 12)), (1, .int a0), (2, .int a1), (3, .int a2)] := hl
  rw [F_X7_pyramid] at h
  refine lv_aload_n hx hb dX7_pyramid_0 rfl (lv_at hl 0 rfl) ?_
  refine lv_iconst (v := (0 : Int32)) hx hb dX7_pyramid_1 (by decide) ?_
  obtain ⟨S1, eS1, h⟩ := gn_nm h
  refine va_put (D := K.1) (ci := 6) (v := .int (0 : Int32)) (ty := .int) (C := RX7) (T := TX7) (N := 24) hx hb hts in_X7_pyramid_X7 tyX7 tyX7_ok nmX7 hown hK hP hD hS 12 rfl rfl 0 (by decide) (hts (.fieldLink RX7 33 "SawSumsModel" "thrown" "I") (by decide +kernel)) (fun _ h9 => h9) rfl (by decide +kernel) rfl rfl (Nat.le_of_ble_eq_true rfl) dX7_pyramid_2 (fun H locs hP hD hS => ?_)
  have hP : va_P K.1 vwCl (wd K C S1 o g) H := by rw [eS1]; exact hP
  have hD : va_D (inA K) (wd K C S1 o g) := by rw [eS1]; exact hD
  refine lv_iload_n hx hb dX7_pyramid_5 rfl (lv_at hl 1 rfl) ?_
  refine lv_i2l hx hb dX7_pyramid_6 rfl ?_
  refine lv_lconst (v := (1 : Int64)) hx hb dX7_pyramid_7 (by decide) ?_
  refine lv_ldc2 hx hb hown (hts (.constantLong RX7 134 (300)) (by decide +kernel)) dX7_pyramid_8 ?_
  obtain ⟨r2, qr2, h⟩ := gn_bd h
  refine pc_S (rest := []) ⟨hx, hb, hml, hown, hts⟩ hN (c_X7_isIn l z _ _ _ r2 qr2) (va_cwS 3 hts gX7_pyramid_X7_isIn rfl rfl rfl (by decide +kernel) ⟨(Nat.le_of_ble_eq_true rfl), (Nat.le_of_ble_eq_true rfl)⟩) rfl hl.1 rfl (Nat.le_of_ble_eq_true rfl) dX7_pyramid_11 hcl hsl ?_
  refine lv_if_eq (tgt := 41) hx hb dX7_pyramid_14 (by decide) (fun c3 => ?_) (fun c3 => ?_)
  · have h := gn_t h c3
    refine lv_ldc2 hx hb hown (hts (.constantLong RX7 76 (-4000000000000000000)) (by decide +kernel)) dX7_pyramid_41 ?_
    obtain ⟨rfl, rfl⟩ := Prod.mk.inj (gn_some h)
    exact W.lret hx hb hr (fun t ht _ => ⟨rfl, by rw [ht]; exact hP, hD, hS.F ht⟩) hS.2.2 dX7_pyramid_44 hlk
  · have h := gn_f h c3
    refine lv_iload_n hx hb dX7_pyramid_17 rfl (lv_at hl 2 rfl) ?_
    refine lv_i2l hx hb dX7_pyramid_18 rfl ?_
    refine lv_lconst (v := (1 : Int64)) hx hb dX7_pyramid_19 (by decide) ?_
    refine lv_ldc2 hx hb hown (hts (.constantLong RX7 134 (300)) (by decide +kernel)) dX7_pyramid_20 ?_
    obtain ⟨r4, qr4, h⟩ := gn_bd h
    refine pc_S (rest := []) ⟨hx, hb, hml, hown, hts⟩ hN (c_X7_isIn l z _ _ _ r4 qr4) (va_cwS 3 hts gX7_pyramid_X7_isIn rfl rfl rfl (by decide +kernel) ⟨(Nat.le_of_ble_eq_true rfl), (Nat.le_of_ble_eq_true rfl)⟩) rfl hl.1 rfl (Nat.le_of_ble_eq_true rfl) dX7_pyramid_23 hcl hsl ?_
    refine lv_if_eq (tgt := 41) hx hb dX7_pyramid_26 (by decide) (fun c5 => ?_) (fun c5 => ?_)
    · have h := gn_t h c5
      refine lv_ldc2 hx hb hown (hts (.constantLong RX7 76 (-4000000000000000000)) (by decide +kernel)) dX7_pyramid_41 ?_
      obtain ⟨rfl, rfl⟩ := Prod.mk.inj (gn_some h)
      exact W.lret hx hb hr (fun t ht _ => ⟨rfl, by rw [ht]; exact hP, hD, hS.F ht⟩) hS.2.2 dX7_pyramid_44 hlk
    · have h := gn_f h c5
      refine lv_iload_n hx hb dX7_pyramid_29 rfl (lv_at hl 3 rfl) ?_
      refine lv_i2l hx hb dX7_pyramid_30 rfl ?_
      refine lv_lconst (v := (1 : Int64)) hx hb dX7_pyramid_31 (by decide) ?_
      refine lv_ldc2 hx hb hown (hts (.constantLong RX7 134 (300)) (by decide +kernel)) dX7_pyramid_32 ?_
      obtain ⟨r6, qr6, h⟩ := gn_bd h
      refine pc_S (rest := []) ⟨hx, hb, hml, hown, hts⟩ hN (c_X7_isIn l z _ _ _ r6 qr6) (va_cwS 3 hts gX7_pyramid_X7_isIn rfl rfl rfl (by decide +kernel) ⟨(Nat.le_of_ble_eq_true rfl), (Nat.le_of_ble_eq_true rfl)⟩) rfl hl.1 rfl (Nat.le_of_ble_eq_true rfl) dX7_pyramid_35 hcl hsl ?_
      refine lv_if_ne (tgt := 45) hx hb dX7_pyramid_38 (by decide) (fun c7 => ?_) (fun c7 => ?_)
      · have h := gn_f h c7
        refine lv_lconst (v := (0 : Int64)) hx hb dX7_pyramid_45 (by decide) ?_
        refine lv_lstore (lv' := [(4, .long (0 : Int64)), (0, .ref (K.2.2.1 12)), (1, .int a0), (2, .int a1), (3, .int a2)]) hx hb dX7_pyramid_46 hl (by decide) rfl (fun ls hl => ?_)
        refine lv_iconst (v := (0 : Int32)) hx hb dX7_pyramid_48 (by decide) ?_
        refine lv_istore (lv' := [(6, .int (0 : Int32)), (4, .long (0 : Int64)), (0, .ref (K.2.2.1 12)), (1, .int a0), (2, .int a1), (3, .int a2)]) hx hb dX7_pyramid_49 hl (by decide) rfl (fun ls hl => ?_)
        exact w_X7_pyramid_51 Cc hK hF z a0 a1 a2 (0 : Int64) (0 : Int32) S1 _ _ hP hD hS h ls (lv_sub hl [3, 4, 5, 1, 0] rfl)
      · have h := gn_t h c7
        refine lv_ldc2 hx hb hown (hts (.constantLong RX7 76 (-4000000000000000000)) (by decide +kernel)) dX7_pyramid_41 ?_
        obtain ⟨rfl, rfl⟩ := Prod.mk.inj (gn_some h)
        exact W.lret hx hb hr (fun t ht _ => ⟨rfl, by rw [ht]; exact hP, hD, hS.F ht⟩) hS.2.2 dX7_pyramid_44 hlk
