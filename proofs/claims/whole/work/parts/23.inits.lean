/-! constructors -/
def tysC (cy : Nat → ClassId) : List (ClassId × FieldType) := [(cy 0, .long), (cy 1, .byte), (cy 2, .int)]
def qI (D : va_G) (cy : Nat → ClassId) (bs : Nat) (av : List Value) (w : va_W) : Array Value → State → Prop := fun v U => v = av.toArray ∧ NW U ∧ va_P D vwCl w U.heap ∧ va_K D vwCl (tysC cy) U ∧ va_D (fun q => bs ≤ q) w
def qJ (D : va_G) (bs : Nat) (B : va_W → Prop) : Array Value → State → Outcome → State → Prop := fun _ st oc t => ∃ w : va_W, B w ∧ oc = .returned none ∧ va_P D vwCl w t.heap ∧ va_D (fun q => bs ≤ q) w ∧ va_F (fun q => bs ≤ q) st t
theorem qI.blind (D : va_G) (cy : Nat → ClassId) (bs : Nat) (av : List Value) (w : va_W) : FrameBlind (qI D cy bs av w) := fun a U gg mk h => ⟨h.1, NW.same rfl h.2.1, h.2.2.1, va_K.moved (u := U) (U := U.calling gg mk a) (Vm.Alike.refl U.vm) h.2.2.2.1, h.2.2.2.2⟩
theorem xg {X Y : va_W} (i : Nat) {e : Nat × va_E} (h : Y[i]? = some e) : (X ++ Y)[X.length + i]? = some e := by
  rw [List.getElem?_append_right (by omega), Nat.add_sub_cancel_left]; exact h
theorem xs {X Y : va_W} (i : Nat) (e : Nat × va_E) : (X ++ Y).set (X.length + i) e = X ++ Y.set i e := by
  rw [List.set_append_right _ _ (by omega), Nat.add_sub_cancel_left]
section INITS
variable {p : Program} {l : Launch} {e : Env} {R : Room} {s : State} {m : MethodId} {args : Array Value} {below : List Frame} {meth : Method} {c : Code} {H : Heap} {locs : List Loc} {cells slots : Nat} {Q : State → Prop}
variable {cc : ByteArray} {pc nL : Nat} {ls : Array Slot} {rest st0 : List Value} {own : String} {Ts : List Cond}
theorem ji_I {y : MethodName} {bytes : ByteArray} {maxL n index mc ms : Nat} {ws : List Cond} {rm : Room} {av : List Value} {b : Addr} {D : va_G} {cy : Nat → ClassId} {bs : Nat} {w : va_W} {B : va_W → Prop}
    (S : CallFix p m c cc nL s args Ts own) (N : NW s) (hK : va_K D vwCl (tysC cy) s) (hP : va_P D vwCl w H) (hD : va_D (fun q => bs ≤ q) w) (hS : va_S (fun q => bs ≤ q) s.heap H locs)
    (hM : Met l y ws rm (qI D cy bs (.ref b :: av) w) (qJ D bs B) mc ms (fun q => bs ≤ q)) (cw : CallB R s args own index y bytes maxL none ws rm mc ms n ∧ y.name = "<init>" ∧ (Cond.instanceMethod y).before args s = true)
    (hn : av.length = n) (hsize : ls.size = nL) (hst : st0 = av.reverse ++ .ref b :: rest) (hW : (rest.map fun v => v.category).sum ≤ 8) (hdg : decode cc pc = .ok (.invokespecial index, 3)) (hf : cells + mc ≤ R.cells ∧ slots + ms ≤ R.slots)
    (kk : ∀ (w1 : va_W) (H1 : Heap) (locs1 : List Loc), B w1 → va_P D vwCl w1 H1 → va_D (fun q => bs ≤ q) w1 → va_S (fun q => bs ≤ q) s.heap H1 locs1 → W p l e R s m args below meth c H1 locs1 (cells + mc) (slots + ms) Q (F0 m (pc + 3) ls rest)) : W p l e R s m args below meth c H locs cells slots Q (F0 m pc ls st0) := by
  have hr := va_runI (H := H) (locs := locs) (cells := cells) (slots := slots) (below := below) (e := e) (meth := meth) (g := F0 m pc ls st0) (rest := rest) S hM cw ⟨qI.blind D cy bs _ w, fun U hU hw => ⟨rfl, NW.warm hw N, by rw [hU]; exact hP, va_K.moved hw.alike hK, hD⟩⟩ rfl hn hsize hst (lv_room hW) hdg hf
  intro T hT X
  obtain ⟨v, st₀, t, T', L, h0, X', hL, e1, e2, ⟨w1, hB, hv, hP1, hD1, hz, hk⟩, st⟩ := hr T hT X
  cases hv
  rw [h0] at hz hk
  obtain ⟨t2, a1, b1⟩ := kk w1 T'.heap (locs ++ L) hB (by rw [e1]; exact hP1) hD1 ⟨Nat.le_trans hS.1 (by rw [e1]; exact hz), fun q h1 h2 => by rw [e1, hk q (Nat.lt_of_lt_of_le h1 hS.1) h2]; exact hS.2.1 q h1 h2, fun q hq => by
      rcases List.mem_append.mp hq with h | h
      · exact hS.2.2 q h
      · exact hL q h⟩ T' rfl X'
  exact ⟨t2, st t2 a1, b1⟩
end INITS
theorem f01 : F_X1_init 2 0 1 = some (0, 1) := by decide +kernel
set_option maxRecDepth 100000 in
theorem c_X1_init1 (l : Launch) (D : va_G) (cy : Nat → ClassId) (bs : Nat) (X : va_W) (b : Nat) (a0 a1 : Int64) (v : Int64 × Int64) (h : F_X1_init 2 a0 a1 = some v) : Met l yX1_init wsX1_init rm_X1_init (qI D cy bs [.ref b, .long a0, .long a1] (X ++ [(b, .inr (1, [.long 0, .long 0]))])) (qJ D bs (fun w => w = X ++ [(b, .inr (1, [.long v.1, .long v.2]))])) 0 0 (fun q => bs ≤ q) := by
  refine Met.ofW (cc := cX1_init) (maxL := 7) (ret := none) (by decide) rfl ?_
  intro p e s m args below meth c s₁ B hml hv
  obtain ⟨rfl, hN, hP, hK, hD⟩ := hv
  have hx := B.exec
  have hb := B.bytes
  have hr := B.returns
  have hts := atoms_spec (ws := wsX1_init) B.pre
  have hown : s.vm.findClass RX1 = some m.cls := findClass_of_methodNamed B.named
  have hlk := B.notSynchronized
  have hin : meth.name = "<init>" := (name_of_methodNamed B.named B.method).1
  have hcl : 0 ≤ (rm_X1_init).cells := Nat.zero_le _
  have hsl : 0 ≤ (rm_X1_init).slots := Nat.zero_le _
  have hS : va_S (fun q => bs ≤ q) s.heap s.heap [] := va_S.rf
  have hl := lv_entry ([.ref b, .long a0, .long a1]) (n := 7) (Nat.le_of_ble_eq_true rfl)
  rw [lg_entry_eq]
  generalize (lg_sl ([.ref b, .long a0, .long a1]) ++ List.replicate (7 - (lg_sl ([.ref b, .long a0, .long a1])).length) Slot.unset).toArray = ls at hl ⊢
  have hl : lv_has ls 7 [(0, .ref b), (1, .long a0), (3, .long a1)] := hl
  rw [F_X1_init] at h
  refine lv_aload_n hx hb dX1_init_0 rfl (lv_at hl 0 rfl) ?_
  refine W.objInit hx hb hown (hts (.methodLink RX1 1 objectInit) (by decide +kernel)) (hts (.instanceMethod objectInit) (by decide +kernel)) (hts _ (List.mem_cons_of_mem _ (List.mem_append_left _ (List.mem_of_getElem? (i := 2) rfl)))) rfl (by rw [hml]; exact hl.1) rfl dX1_init_1 (Nat.le_of_ble_eq_true rfl) (Nat.le_of_ble_eq_true rfl) ?_
  refine W.eq (g2 := F0 m 4 ls []) rfl ?_
  refine lv_lload_n hx hb dX1_init_4 rfl (lv_at hl 1 rfl) ?_
  refine lv_lload_n hx hb dX1_init_5 rfl (lv_at hl 2 rfl) ?_
  obtain ⟨r1, qr1, h⟩ := gn_bd h
  refine pc_S (rest := []) ⟨hx, hb, hml, hown, hts⟩ hN (c_X5_divisor l 2 _ _ r1 qr1) (va_cwS 2 hts gX1_init_X5_divisor rfl rfl rfl (by decide +kernel) ⟨(Nat.le_of_ble_eq_true rfl), (Nat.le_of_ble_eq_true rfl)⟩) rfl hl.1 rfl (Nat.le_of_ble_eq_true rfl) dX1_init_6 hcl hsl ?_
  refine lv_lstore (lv' := [(5, .long r1), (0, .ref b), (1, .long a0), (3, .long a1)]) hx hb dX1_init_9 hl (by decide) rfl (fun ls hl => ?_)
  obtain ⟨n1, h⟩ := gn_nz h
  obtain rfl := gn_some h
  refine lv_aload_n hx hb dX1_init_11 rfl (lv_at hl 1 rfl) ?_
  refine lv_lload_n hx hb dX1_init_12 rfl (lv_at hl 2 rfl) ?_
  refine lv_lload hx hb dX1_init_13 (lv_at hl 0 rfl) ?_
  refine lv_ldiv hx hb dX1_init_15 n1 ?_
  refine va_putF (D := D) (ci := 1) (v := .long (a0 / r1)) (ty := .long) (C := RX1) (T := TX1) (N := 2) hx hb hts in_X1_init_X1 tyX1 tyX1_ok nmX1 hown hK hP hD hS (X.length + 0) (xg 0 rfl) rfl 0 (by decide) (hts (.fieldLink RX1 13 "SawSums$Fraction" "upper" "J") (by decide +kernel)) (fun _ h9 => h9) rfl hin rfl (by decide +kernel) rfl rfl (Nat.le_of_ble_eq_true rfl) dX1_init_16 (fun H locs hP hD hS => ?_)
  rw [xs] at hP hD
  have hP : va_P D vwCl (X ++ [(b, .inr (1, [.long (a0 / r1), .long 0]))]) H := hP
  have hD : va_D (fun q => bs ≤ q) (X ++ [(b, .inr (1, [.long (a0 / r1), .long 0]))]) := hD
  refine lv_aload_n hx hb dX1_init_19 rfl (lv_at hl 1 rfl) ?_
  refine lv_lload_n hx hb dX1_init_20 rfl (lv_at hl 3 rfl) ?_
  refine lv_lload hx hb dX1_init_21 (lv_at hl 0 rfl) ?_
  refine lv_ldiv hx hb dX1_init_23 n1 ?_
  refine va_putF (D := D) (ci := 1) (v := .long (a1 / r1)) (ty := .long) (C := RX1) (T := TX1) (N := 2) hx hb hts in_X1_init_X1 tyX1 tyX1_ok nmX1 hown hK hP hD hS (X.length + 0) (xg 0 rfl) rfl 1 (by decide) (hts (.fieldLink RX1 19 "SawSums$Fraction" "lower" "J") (by decide +kernel)) (fun _ h9 => h9) rfl hin rfl (by decide +kernel) rfl rfl (Nat.le_of_ble_eq_true rfl) dX1_init_24 (fun H locs hP hD hS => ?_)
  rw [xs] at hP hD
  exact W.vret hx hb hr (fun t ht _ => ⟨_, rfl, rfl, by rw [ht]; exact hP, hD, hS.F ht⟩) hS.2.2 dX1_init_27 hlk
theorem in_X2_init_X2 : ∀ w ∈ wsX20, w ∈ wsX2_init := fun _ h => List.mem_cons_of_mem _ (List.mem_append_right _ h)
def rm_X2_init : Room := { frames := 1, cells := 0, slots := 0, locals := 12 }
set_option maxRecDepth 100000 in
theorem c_X2_init (l : Launch) (D : va_G) (cy : Nat → ClassId) (bs : Nat) (X : va_W) (b : Nat) : Met l yX2_init wsX2_init rm_X2_init (qI D cy bs [.ref b] (X ++ [(b, .inr (2, [.int 0, .int 0, .int 0, .int 0]))])) (qJ D bs (fun w => w = X ++ [(b, .inr (2, [.int (1), .int (0), .int (0), .int (1)]))])) 0 0 (fun q => bs ≤ q) := by
  refine Met.ofW (cc := cX2_init) (maxL := 1) (ret := none) (by decide) rfl ?_
  intro p e s m args below meth c s₁ B hml hv
  obtain ⟨rfl, hN, hP, hK, hD⟩ := hv
  have hx := B.exec
  have hb := B.bytes
  have hr := B.returns
  have hts := atoms_spec (ws := wsX2_init) B.pre
  have hown : s.vm.findClass RX2 = some m.cls := findClass_of_methodNamed B.named
  have hlk := B.notSynchronized
  have hin : meth.name = "<init>" := (name_of_methodNamed B.named B.method).1
  have hbs : bs ≤ s.heap.size := Nat.le_of_lt (Nat.lt_of_le_of_lt (hD.2 (X.length + 0) _ (xg 0 rfl)) ((hP (X.length + 0) _ (xg 0 rfl)).lt))
  have hA : ∀ q : Nat, s.heap.size ≤ q → bs ≤ q := fun q h => Nat.le_trans hbs h
  have hS : va_S (fun q => bs ≤ q) s.heap s.heap [] := va_S.rf
  have hl := lv_entry ([.ref b]) (n := 1) (Nat.le_of_ble_eq_true rfl)
  rw [lg_entry_eq]
  generalize (lg_sl ([.ref b]) ++ List.replicate (1 - (lg_sl ([.ref b])).length) Slot.unset).toArray = ls at hl ⊢
  have hl : lv_has ls 1 [(0, .ref b)] := hl
  refine lv_aload_n hx hb dX2_init_0 rfl (lv_at hl 0 rfl) ?_
  refine W.objInit hx hb hown (hts (.methodLink RX2 3 objectInit) (by decide +kernel)) (hts (.instanceMethod objectInit) (by decide +kernel)) (hts (.code objectInit ⟨#[0xb1]⟩ 1 none) (by decide +kernel)) rfl (by rw [hml]; exact hl.1) rfl dX2_init_1 (Nat.le_of_ble_eq_true rfl) (Nat.le_of_ble_eq_true rfl) ?_
  refine W.eq (g2 := F0 m 4 ls []) rfl ?_
  refine lv_aload_n hx hb dX2_init_4 rfl (lv_at hl 0 rfl) ?_
  refine lv_iconst (v := (1 : Int32)) hx hb dX2_init_5 (by decide) ?_
  refine va_put (D := D) (ci := 2) (v := .int (1)) (ty := .int) (C := RX2) (T := TX2) (N := 4) hx hb hts in_X2_init_X2 tyX2 tyX2_ok nmX2 hown hK hP hD hS (X.length + 0) (xg 0 rfl) rfl 0 (by decide) (hts (.fieldLink RX2 9 "SawSums$Matrix" "a" "I") (by decide +kernel)) (fun _ h9 => h9) rfl (by decide +kernel) rfl rfl (Nat.le_of_ble_eq_true rfl) dX2_init_6 (fun H locs hP hD hS => ?_)
  rw [xs] at hP hD
  have hP : va_P D vwCl (X ++ [(b, .inr (2, [.int (1), .int 0, .int 0, .int 0]))]) H := hP
  have hD : va_D (fun q => bs ≤ q) (X ++ [(b, .inr (2, [.int (1), .int 0, .int 0, .int 0]))]) := hD
  refine lv_aload_n hx hb dX2_init_9 rfl (lv_at hl 0 rfl) ?_
  refine lv_iconst (v := (0 : Int32)) hx hb dX2_init_10 (by decide) ?_
  refine va_put (D := D) (ci := 2) (v := .int (0)) (ty := .int) (C := RX2) (T := TX2) (N := 4) hx hb hts in_X2_init_X2 tyX2 tyX2_ok nmX2 hown hK hP hD hS (X.length + 0) (xg 0 rfl) rfl 1 (by decide) (hts (.fieldLink RX2 15 "SawSums$Matrix" "b" "I") (by decide +kernel)) (fun _ h9 => h9) rfl (by decide +kernel) rfl rfl (Nat.le_of_ble_eq_true rfl) dX2_init_11 (fun H locs hP hD hS => ?_)
  rw [xs] at hP hD
  have hP : va_P D vwCl (X ++ [(b, .inr (2, [.int (1), .int (0), .int 0, .int 0]))]) H := hP
  have hD : va_D (fun q => bs ≤ q) (X ++ [(b, .inr (2, [.int (1), .int (0), .int 0, .int 0]))]) := hD
  refine lv_aload_n hx hb dX2_init_14 rfl (lv_at hl 0 rfl) ?_
  refine lv_iconst (v := (0 : Int32)) hx hb dX2_init_15 (by decide) ?_
  refine va_put (D := D) (ci := 2) (v := .int (0)) (ty := .int) (C := RX2) (T := TX2) (N := 4) hx hb hts in_X2_init_X2 tyX2 tyX2_ok nmX2 hown hK hP hD hS (X.length + 0) (xg 0 rfl) rfl 2 (by decide) (hts (.fieldLink RX2 18 "SawSums$Matrix" "c" "I") (by decide +kernel)) (fun _ h9 => h9) rfl (by decide +kernel) rfl rfl (Nat.le_of_ble_eq_true rfl) dX2_init_16 (fun H locs hP hD hS => ?_)
  rw [xs] at hP hD
  have hP : va_P D vwCl (X ++ [(b, .inr (2, [.int (1), .int (0), .int (0), .int 0]))]) H := hP
  have hD : va_D (fun q => bs ≤ q) (X ++ [(b, .inr (2, [.int (1), .int (0), .int (0), .int 0]))]) := hD
  refine lv_aload_n hx hb dX2_init_19 rfl (lv_at hl 0 rfl) ?_
  refine lv_iconst (v := (1 : Int32)) hx hb dX2_init_20 (by decide) ?_
  refine va_put (D := D) (ci := 2) (v := .int (1)) (ty := .int) (C := RX2) (T := TX2) (N := 4) hx hb hts in_X2_init_X2 tyX2 tyX2_ok nmX2 hown hK hP hD hS (X.length + 0) (xg 0 rfl) rfl 3 (by decide) (hts (.fieldLink RX2 21 "SawSums$Matrix" "d" "I") (by decide +kernel)) (fun _ h9 => h9) rfl (by decide +kernel) rfl rfl (Nat.le_of_ble_eq_true rfl) dX2_init_21 (fun H locs hP hD hS => ?_)
  rw [xs] at hP hD
  have hP : va_P D vwCl (X ++ [(b, .inr (2, [.int (1), .int (0), .int (0), .int (1)]))]) H := hP
  have hD : va_D (fun q => bs ≤ q) (X ++ [(b, .inr (2, [.int (1), .int (0), .int (0), .int (1)]))]) := hD
  exact W.vret hx hb hr (fun t ht _ => ⟨_, rfl, rfl, by rw [ht]; exact hP, hD, hS.F ht⟩) hS.2.2 dX2_init_24 hlk
theorem in_X0_init_X0 : ∀ w ∈ wsX00, w ∈ wsX0_init := fun _ h => List.mem_cons_of_mem _ (List.mem_append_right _ h)
def rm_X0_init : Room := { frames := 1, cells := 2, slots := 1000, locals := 12 }
set_option maxRecDepth 100000 in
theorem c_X0_init (l : Launch) (D : va_G) (cy : Nat → ClassId) (bs : Nat) (X : va_W) (b : Nat) : Met l yX0_init wsX0_init rm_X0_init (qI D cy bs [.ref b] (X ++ [(b, .inr (0, [.null, .null, .int 0]))])) (qJ D bs (fun w => ∃ (q1 q2 : Nat), w = X ++ [(b, .inr (0, [.ref q1, .ref q2, .int (0)])), (q1, .inl (cy 2, 500, .inl (fun _ => 0))), (q2, .inl (cy 0, 500, .inr (.inl (fun _ => 0))))])) 2 1000 (fun q => bs ≤ q) := by
  refine Met.ofW (cc := cX0_init) (maxL := 1) (ret := none) (by decide) rfl ?_
  intro p e s m args below meth c s₁ B hml hv
  obtain ⟨rfl, hN, hP, hK, hD⟩ := hv
  have hx := B.exec
  have hb := B.bytes
  have hr := B.returns
  have hts := atoms_spec (ws := wsX0_init) B.pre
  have hown : s.vm.findClass RX0 = some m.cls := findClass_of_methodNamed B.named
  have hlk := B.notSynchronized
  have hin : meth.name = "<init>" := (name_of_methodNamed B.named B.method).1
  have hbs : bs ≤ s.heap.size := Nat.le_of_lt (Nat.lt_of_le_of_lt (hD.2 (X.length + 0) _ (xg 0 rfl)) ((hP (X.length + 0) _ (xg 0 rfl)).lt))
  have hA : ∀ q : Nat, s.heap.size ≤ q → bs ≤ q := fun q h => Nat.le_trans hbs h
  have hS : va_S (fun q => bs ≤ q) s.heap s.heap [] := va_S.rf
  have hl := lv_entry ([.ref b]) (n := 1) (Nat.le_of_ble_eq_true rfl)
  rw [lg_entry_eq]
  generalize (lg_sl ([.ref b]) ++ List.replicate (1 - (lg_sl ([.ref b])).length) Slot.unset).toArray = ls at hl ⊢
  have hl : lv_has ls 1 [(0, .ref b)] := hl
  refine lv_aload_n hx hb dX0_init_0 rfl (lv_at hl 0 rfl) ?_
  refine W.objInit hx hb hown (hts (.methodLink RX0 3 objectInit) (by decide +kernel)) (hts (.instanceMethod objectInit) (by decide +kernel)) (hts (.code objectInit ⟨#[0xb1]⟩ 1 none) (by decide +kernel)) rfl (by rw [hml]; exact hl.1) rfl dX0_init_1 (Nat.le_of_ble_eq_true rfl) (Nat.le_of_ble_eq_true rfl) ?_
  refine W.eq (g2 := F0 m 4 ls []) rfl ?_
  refine lv_aload_n hx hb dX0_init_4 rfl (lv_at hl 0 rfl) ?_
  refine lv_sipush (v := (500 : Int32)) hx hb dX0_init_5 (by decide) ?_
  refine va_newa (atype := .int) hx hb (hts (.arrayClass .int) (by decide +kernel)) rfl hK hP hD hS hA (a0 := (500, .inl (fun _ => 0))) (fun _ => rfl) (by decide) (by decide) (Nat.le_of_ble_eq_true rfl) (Nat.le_of_ble_eq_true rfl) (Nat.le_of_ble_eq_true rfl) dX0_init_8 (fun q1 cA H hK1 hP hD hS => ?_)
  have ec : cA = cy 2 := Option.some.inj ((va_nm_int (hK1.2 3 _ rfl).2).symm.trans (va_nm_int (hK.2 2 _ rfl).2))
  subst ec
  rw [List.append_assoc] at hP hD
  have hP : va_P D vwCl (X ++ [(b, .inr (0, [.null, .null, .int 0])), (q1, .inl (cy 2, 500, .inl (fun _ => 0)))]) H := hP
  have hD : va_D (fun q => bs ≤ q) (X ++ [(b, .inr (0, [.null, .null, .int 0])), (q1, .inl (cy 2, 500, .inl (fun _ => 0)))]) := hD
  refine W.widen (k := 1) (n := 500) (Nat.le_of_ble_eq_true rfl) (Nat.le_of_ble_eq_true rfl) ?_
  refine va_putF (D := D) (ci := 0) (v := .ref q1) (ty := .array .int) (C := RX0) (T := TX0) (N := 3) hx hb hts in_X0_init_X0 tyX0 tyX0_ok nmX0 hown hK hP hD hS (X.length + 0) (xg 0 rfl) rfl 0 (by decide) (hts (.fieldLink RX0 9 "SawSums$Classes" "numbers" "[I") (by decide +kernel)) (fun _ h9 => h9) rfl hin rfl (by decide +kernel) rfl rfl (Nat.le_of_ble_eq_true rfl) dX0_init_10 (fun H locs hP hD hS => ?_)
  rw [xs] at hP hD
  have hP : va_P D vwCl (X ++ [(b, .inr (0, [.ref q1, .null, .int 0])), (q1, .inl (cy 2, 500, .inl (fun _ => 0)))]) H := hP
  have hD : va_D (fun q => bs ≤ q) (X ++ [(b, .inr (0, [.ref q1, .null, .int 0])), (q1, .inl (cy 2, 500, .inl (fun _ => 0)))]) := hD
  refine lv_aload_n hx hb dX0_init_13 rfl (lv_at hl 0 rfl) ?_
  refine lv_sipush (v := (500 : Int32)) hx hb dX0_init_14 (by decide) ?_
  refine va_newa (atype := .long) hx hb (hts (.arrayClass .long) (by decide +kernel)) rfl hK hP hD hS hA (a0 := (500, .inr (.inl (fun _ => 0)))) (fun _ => rfl) (by decide) (by decide) (Nat.le_of_ble_eq_true rfl) (Nat.le_of_ble_eq_true rfl) (Nat.le_of_ble_eq_true rfl) dX0_init_17 (fun q2 cA H hK1 hP hD hS => ?_)
  have ec : cA = cy 0 := Option.some.inj ((va_nm_long (hK1.2 3 _ rfl).2).symm.trans (va_nm_long (hK.2 0 _ rfl).2))
  subst ec
  rw [List.append_assoc] at hP hD
  have hP : va_P D vwCl (X ++ [(b, .inr (0, [.ref q1, .null, .int 0])), (q1, .inl (cy 2, 500, .inl (fun _ => 0))), (q2, .inl (cy 0, 500, .inr (.inl (fun _ => 0))))]) H := hP
  have hD : va_D (fun q => bs ≤ q) (X ++ [(b, .inr (0, [.ref q1, .null, .int 0])), (q1, .inl (cy 2, 500, .inl (fun _ => 0))), (q2, .inl (cy 0, 500, .inr (.inl (fun _ => 0))))]) := hD
  refine W.widen (k := 2) (n := 1000) (Nat.le_of_ble_eq_true rfl) (Nat.le_of_ble_eq_true rfl) ?_
  refine va_putF (D := D) (ci := 0) (v := .ref q2) (ty := .array .long) (C := RX0) (T := TX0) (N := 3) hx hb hts in_X0_init_X0 tyX0 tyX0_ok nmX0 hown hK hP hD hS (X.length + 0) (xg 0 rfl) rfl 1 (by decide) (hts (.fieldLink RX0 15 "SawSums$Classes" "sizes" "[J") (by decide +kernel)) (fun _ h9 => h9) rfl hin rfl (by decide +kernel) rfl rfl (Nat.le_of_ble_eq_true rfl) dX0_init_19 (fun H locs hP hD hS => ?_)
  rw [xs] at hP hD
  have hP : va_P D vwCl (X ++ [(b, .inr (0, [.ref q1, .ref q2, .int 0])), (q1, .inl (cy 2, 500, .inl (fun _ => 0))), (q2, .inl (cy 0, 500, .inr (.inl (fun _ => 0))))]) H := hP
  have hD : va_D (fun q => bs ≤ q) (X ++ [(b, .inr (0, [.ref q1, .ref q2, .int 0])), (q1, .inl (cy 2, 500, .inl (fun _ => 0))), (q2, .inl (cy 0, 500, .inr (.inl (fun _ => 0))))]) := hD
  refine lv_aload_n hx hb dX0_init_22 rfl (lv_at hl 0 rfl) ?_
  refine lv_iconst (v := (0 : Int32)) hx hb dX0_init_23 (by decide) ?_
  refine va_put (D := D) (ci := 0) (v := .int (0)) (ty := .int) (C := RX0) (T := TX0) (N := 3) hx hb hts in_X0_init_X0 tyX0 tyX0_ok nmX0 hown hK hP hD hS (X.length + 0) (xg 0 rfl) rfl 2 (by decide) (hts (.fieldLink RX0 19 "SawSums$Classes" "many" "I") (by decide +kernel)) (fun _ h9 => h9) rfl (by decide +kernel) rfl rfl (Nat.le_of_ble_eq_true rfl) dX0_init_24 (fun H locs hP hD hS => ?_)
  rw [xs] at hP hD
  have hP : va_P D vwCl (X ++ [(b, .inr (0, [.ref q1, .ref q2, .int (0)])), (q1, .inl (cy 2, 500, .inl (fun _ => 0))), (q2, .inl (cy 0, 500, .inr (.inl (fun _ => 0))))]) H := hP
  have hD : va_D (fun q => bs ≤ q) (X ++ [(b, .inr (0, [.ref q1, .ref q2, .int (0)])), (q1, .inl (cy 2, 500, .inl (fun _ => 0))), (q2, .inl (cy 0, 500, .inr (.inl (fun _ => 0))))]) := hD
  exact W.vret hx hb hr (fun t ht _ => ⟨_, ⟨q1, q2, rfl⟩, rfl, by rw [ht]; exact hP, hD, hS.F ht⟩) hS.2.2 dX0_init_27 hlk
theorem in_X4_init_X4 : ∀ w ∈ wsX40, w ∈ wsX4_init := fun _ h => List.mem_cons_of_mem _ (List.mem_append_right _ h)
def rm_X4_init : Room := { frames := 1, cells := 3, slots := 903, locals := 12 }
set_option maxRecDepth 100000 in
theorem c_X4_init (l : Launch) (D : va_G) (cy : Nat → ClassId) (bs : Nat) (X : va_W) (b t : Nat) : Met l yX4_init wsX4_init rm_X4_init (qI D cy bs [.ref b, .ref t] (X ++ [(b, .inr (4, [.null, .null, .null, .null, .int 0, .int 0]))])) (qJ D bs (fun w => ∃ (q1 q2 q3 : Nat), w = X ++ [(b, .inr (4, [.ref t, .ref q1, .ref q2, .ref q3, .int (0), .int (0)])), (q1, .inl (cy 2, 301, .inl (fun _ => 0))), (q2, .inl (cy 2, 301, .inl (fun _ => 0))), (q3, .inl (cy 2, 301, .inl (fun _ => 0)))])) 3 903 (fun q => bs ≤ q) := by
  refine Met.ofW (cc := cX4_init) (maxL := 2) (ret := none) (by decide) rfl ?_
  intro p e s m args below meth c s₁ B hml hv
  obtain ⟨rfl, hN, hP, hK, hD⟩ := hv
  have hx := B.exec
  have hb := B.bytes
  have hr := B.returns
  have hts := atoms_spec (ws := wsX4_init) B.pre
  have hown : s.vm.findClass RX4 = some m.cls := findClass_of_methodNamed B.named
  have hlk := B.notSynchronized
  have hin : meth.name = "<init>" := (name_of_methodNamed B.named B.method).1
  have hbs : bs ≤ s.heap.size := Nat.le_of_lt (Nat.lt_of_le_of_lt (hD.2 (X.length + 0) _ (xg 0 rfl)) ((hP (X.length + 0) _ (xg 0 rfl)).lt))
  have hA : ∀ q : Nat, s.heap.size ≤ q → bs ≤ q := fun q h => Nat.le_trans hbs h
  have hS : va_S (fun q => bs ≤ q) s.heap s.heap [] := va_S.rf
  have hl := lv_entry ([.ref b, .ref t]) (n := 2) (Nat.le_of_ble_eq_true rfl)
  rw [lg_entry_eq]
  generalize (lg_sl ([.ref b, .ref t]) ++ List.replicate (2 - (lg_sl ([.ref b, .ref t])).length) Slot.unset).toArray = ls at hl ⊢
  have hl : lv_has ls 2 [(0, .ref b), (1, .ref t)] := hl
  refine lv_aload_n hx hb dX4_init_0 rfl (lv_at hl 0 rfl) ?_
  refine W.objInit hx hb hown (hts (.methodLink RX4 3 objectInit) (by decide +kernel)) (hts (.instanceMethod objectInit) (by decide +kernel)) (hts (.code objectInit ⟨#[0xb1]⟩ 1 none) (by decide +kernel)) rfl (by rw [hml]; exact hl.1) rfl dX4_init_1 (Nat.le_of_ble_eq_true rfl) (Nat.le_of_ble_eq_true rfl) ?_
  refine W.eq (g2 := F0 m 4 ls []) rfl ?_
  refine lv_aload_n hx hb dX4_init_4 rfl (lv_at hl 0 rfl) ?_
  refine lv_aload_n hx hb dX4_init_5 rfl (lv_at hl 1 rfl) ?_
  refine va_putF (D := D) (ci := 4) (v := .ref t) (ty := .array .byte) (C := RX4) (T := TX4) (N := 6) hx hb hts in_X4_init_X4 tyX4 tyX4_ok nmX4 hown hK hP hD hS (X.length + 0) (xg 0 rfl) rfl 0 (by decide) (hts (.fieldLink RX4 9 "SawSums$Tokens" "bytes" "[B") (by decide +kernel)) (fun _ h9 => h9) rfl hin rfl (by decide +kernel) rfl rfl (Nat.le_of_ble_eq_true rfl) dX4_init_6 (fun H locs hP hD hS => ?_)
  rw [xs] at hP hD
  have hP : va_P D vwCl (X ++ [(b, .inr (4, [.ref t, .null, .null, .null, .int 0, .int 0]))]) H := hP
  have hD : va_D (fun q => bs ≤ q) (X ++ [(b, .inr (4, [.ref t, .null, .null, .null, .int 0, .int 0]))]) := hD
  refine lv_aload_n hx hb dX4_init_9 rfl (lv_at hl 0 rfl) ?_
  refine lv_sipush (v := (301 : Int32)) hx hb dX4_init_10 (by decide) ?_
  refine va_newa (atype := .int) hx hb (hts (.arrayClass .int) (by decide +kernel)) rfl hK hP hD hS hA (a0 := (301, .inl (fun _ => 0))) (fun _ => rfl) (by decide) (by decide) (Nat.le_of_ble_eq_true rfl) (Nat.le_of_ble_eq_true rfl) (Nat.le_of_ble_eq_true rfl) dX4_init_13 (fun q1 cA H hK1 hP hD hS => ?_)
  have ec : cA = cy 2 := Option.some.inj ((va_nm_int (hK1.2 3 _ rfl).2).symm.trans (va_nm_int (hK.2 2 _ rfl).2))
  subst ec
  rw [List.append_assoc] at hP hD
  have hP : va_P D vwCl (X ++ [(b, .inr (4, [.ref t, .null, .null, .null, .int 0, .int 0])), (q1, .inl (cy 2, 301, .inl (fun _ => 0)))]) H := hP
  have hD : va_D (fun q => bs ≤ q) (X ++ [(b, .inr (4, [.ref t, .null, .null, .null, .int 0, .int 0])), (q1, .inl (cy 2, 301, .inl (fun _ => 0)))]) := hD
  refine W.widen (k := 1) (n := 301) (Nat.le_of_ble_eq_true rfl) (Nat.le_of_ble_eq_true rfl) ?_
  refine va_putF (D := D) (ci := 4) (v := .ref q1) (ty := .array .int) (C := RX4) (T := TX4) (N := 6) hx hb hts in_X4_init_X4 tyX4 tyX4_ok nmX4 hown hK hP hD hS (X.length + 0) (xg 0 rfl) rfl 1 (by decide) (hts (.fieldLink RX4 15 "SawSums$Tokens" "kinds" "[I") (by decide +kernel)) (fun _ h9 => h9) rfl hin rfl (by decide +kernel) rfl rfl (Nat.le_of_ble_eq_true rfl) dX4_init_15 (fun H locs hP hD hS => ?_)
  rw [xs] at hP hD
  have hP : va_P D vwCl (X ++ [(b, .inr (4, [.ref t, .ref q1, .null, .null, .int 0, .int 0])), (q1, .inl (cy 2, 301, .inl (fun _ => 0)))]) H := hP
  have hD : va_D (fun q => bs ≤ q) (X ++ [(b, .inr (4, [.ref t, .ref q1, .null, .null, .int 0, .int 0])), (q1, .inl (cy 2, 301, .inl (fun _ => 0)))]) := hD
  refine lv_aload_n hx hb dX4_init_18 rfl (lv_at hl 0 rfl) ?_
  refine lv_sipush (v := (301 : Int32)) hx hb dX4_init_19 (by decide) ?_
  refine va_newa (atype := .int) hx hb (hts (.arrayClass .int) (by decide +kernel)) rfl hK hP hD hS hA (a0 := (301, .inl (fun _ => 0))) (fun _ => rfl) (by decide) (by decide) (Nat.le_of_ble_eq_true rfl) (Nat.le_of_ble_eq_true rfl) (Nat.le_of_ble_eq_true rfl) dX4_init_22 (fun q2 cA H hK1 hP hD hS => ?_)
  have ec : cA = cy 2 := Option.some.inj ((va_nm_int (hK1.2 3 _ rfl).2).symm.trans (va_nm_int (hK.2 2 _ rfl).2))
  subst ec
  rw [List.append_assoc] at hP hD
  have hP : va_P D vwCl (X ++ [(b, .inr (4, [.ref t, .ref q1, .null, .null, .int 0, .int 0])), (q1, .inl (cy 2, 301, .inl (fun _ => 0))), (q2, .inl (cy 2, 301, .inl (fun _ => 0)))]) H := hP
  have hD : va_D (fun q => bs ≤ q) (X ++ [(b, .inr (4, [.ref t, .ref q1, .null, .null, .int 0, .int 0])), (q1, .inl (cy 2, 301, .inl (fun _ => 0))), (q2, .inl (cy 2, 301, .inl (fun _ => 0)))]) := hD
  refine W.widen (k := 2) (n := 602) (Nat.le_of_ble_eq_true rfl) (Nat.le_of_ble_eq_true rfl) ?_
  refine va_putF (D := D) (ci := 4) (v := .ref q2) (ty := .array .int) (C := RX4) (T := TX4) (N := 6) hx hb hts in_X4_init_X4 tyX4 tyX4_ok nmX4 hown hK hP hD hS (X.length + 0) (xg 0 rfl) rfl 2 (by decide) (hts (.fieldLink RX4 19 "SawSums$Tokens" "places" "[I") (by decide +kernel)) (fun _ h9 => h9) rfl hin rfl (by decide +kernel) rfl rfl (Nat.le_of_ble_eq_true rfl) dX4_init_24 (fun H locs hP hD hS => ?_)
  rw [xs] at hP hD
  have hP : va_P D vwCl (X ++ [(b, .inr (4, [.ref t, .ref q1, .ref q2, .null, .int 0, .int 0])), (q1, .inl (cy 2, 301, .inl (fun _ => 0))), (q2, .inl (cy 2, 301, .inl (fun _ => 0)))]) H := hP
  have hD : va_D (fun q => bs ≤ q) (X ++ [(b, .inr (4, [.ref t, .ref q1, .ref q2, .null, .int 0, .int 0])), (q1, .inl (cy 2, 301, .inl (fun _ => 0))), (q2, .inl (cy 2, 301, .inl (fun _ => 0)))]) := hD
  refine lv_aload_n hx hb dX4_init_27 rfl (lv_at hl 0 rfl) ?_
  refine lv_sipush (v := (301 : Int32)) hx hb dX4_init_28 (by decide) ?_
  refine va_newa (atype := .int) hx hb (hts (.arrayClass .int) (by decide +kernel)) rfl hK hP hD hS hA (a0 := (301, .inl (fun _ => 0))) (fun _ => rfl) (by decide) (by decide) (Nat.le_of_ble_eq_true rfl) (Nat.le_of_ble_eq_true rfl) (Nat.le_of_ble_eq_true rfl) dX4_init_31 (fun q3 cA H hK1 hP hD hS => ?_)
  have ec : cA = cy 2 := Option.some.inj ((va_nm_int (hK1.2 3 _ rfl).2).symm.trans (va_nm_int (hK.2 2 _ rfl).2))
  subst ec
  rw [List.append_assoc] at hP hD
  have hP : va_P D vwCl (X ++ [(b, .inr (4, [.ref t, .ref q1, .ref q2, .null, .int 0, .int 0])), (q1, .inl (cy 2, 301, .inl (fun _ => 0))), (q2, .inl (cy 2, 301, .inl (fun _ => 0))), (q3, .inl (cy 2, 301, .inl (fun _ => 0)))]) H := hP
  have hD : va_D (fun q => bs ≤ q) (X ++ [(b, .inr (4, [.ref t, .ref q1, .ref q2, .null, .int 0, .int 0])), (q1, .inl (cy 2, 301, .inl (fun _ => 0))), (q2, .inl (cy 2, 301, .inl (fun _ => 0))), (q3, .inl (cy 2, 301, .inl (fun _ => 0)))]) := hD
  refine W.widen (k := 3) (n := 903) (Nat.le_of_ble_eq_true rfl) (Nat.le_of_ble_eq_true rfl) ?_
  refine va_putF (D := D) (ci := 4) (v := .ref q3) (ty := .array .int) (C := RX4) (T := TX4) (N := 6) hx hb hts in_X4_init_X4 tyX4 tyX4_ok nmX4 hown hK hP hD hS (X.length + 0) (xg 0 rfl) rfl 3 (by decide) (hts (.fieldLink RX4 22 "SawSums$Tokens" "numbers" "[I") (by decide +kernel)) (fun _ h9 => h9) rfl hin rfl (by decide +kernel) rfl rfl (Nat.le_of_ble_eq_true rfl) dX4_init_33 (fun H locs hP hD hS => ?_)
  rw [xs] at hP hD
  have hP : va_P D vwCl (X ++ [(b, .inr (4, [.ref t, .ref q1, .ref q2, .ref q3, .int 0, .int 0])), (q1, .inl (cy 2, 301, .inl (fun _ => 0))), (q2, .inl (cy 2, 301, .inl (fun _ => 0))), (q3, .inl (cy 2, 301, .inl (fun _ => 0)))]) H := hP
  have hD : va_D (fun q => bs ≤ q) (X ++ [(b, .inr (4, [.ref t, .ref q1, .ref q2, .ref q3, .int 0, .int 0])), (q1, .inl (cy 2, 301, .inl (fun _ => 0))), (q2, .inl (cy 2, 301, .inl (fun _ => 0))), (q3, .inl (cy 2, 301, .inl (fun _ => 0)))]) := hD
  refine lv_aload_n hx hb dX4_init_36 rfl (lv_at hl 0 rfl) ?_
  refine lv_iconst (v := (0 : Int32)) hx hb dX4_init_37 (by decide) ?_
  refine va_put (D := D) (ci := 4) (v := .int (0)) (ty := .int) (C := RX4) (T := TX4) (N := 6) hx hb hts in_X4_init_X4 tyX4 tyX4_ok nmX4 hown hK hP hD hS (X.length + 0) (xg 0 rfl) rfl 4 (by decide) (hts (.fieldLink RX4 25 "SawSums$Tokens" "length" "I") (by decide +kernel)) (fun _ h9 => h9) rfl (by decide +kernel) rfl rfl (Nat.le_of_ble_eq_true rfl) dX4_init_38 (fun H locs hP hD hS => ?_)
  rw [xs] at hP hD
  have hP : va_P D vwCl (X ++ [(b, .inr (4, [.ref t, .ref q1, .ref q2, .ref q3, .int (0), .int 0])), (q1, .inl (cy 2, 301, .inl (fun _ => 0))), (q2, .inl (cy 2, 301, .inl (fun _ => 0))), (q3, .inl (cy 2, 301, .inl (fun _ => 0)))]) H := hP
  have hD : va_D (fun q => bs ≤ q) (X ++ [(b, .inr (4, [.ref t, .ref q1, .ref q2, .ref q3, .int (0), .int 0])), (q1, .inl (cy 2, 301, .inl (fun _ => 0))), (q2, .inl (cy 2, 301, .inl (fun _ => 0))), (q3, .inl (cy 2, 301, .inl (fun _ => 0)))]) := hD
  refine lv_aload_n hx hb dX4_init_41 rfl (lv_at hl 0 rfl) ?_
  refine lv_iconst (v := (0 : Int32)) hx hb dX4_init_42 (by decide) ?_
  refine va_put (D := D) (ci := 4) (v := .int (0)) (ty := .int) (C := RX4) (T := TX4) (N := 6) hx hb hts in_X4_init_X4 tyX4 tyX4_ok nmX4 hown hK hP hD hS (X.length + 0) (xg 0 rfl) rfl 5 (by decide) (hts (.fieldLink RX4 29 "SawSums$Tokens" "many" "I") (by decide +kernel)) (fun _ h9 => h9) rfl (by decide +kernel) rfl rfl (Nat.le_of_ble_eq_true rfl) dX4_init_43 (fun H locs hP hD hS => ?_)
  rw [xs] at hP hD
  have hP : va_P D vwCl (X ++ [(b, .inr (4, [.ref t, .ref q1, .ref q2, .ref q3, .int (0), .int (0)])), (q1, .inl (cy 2, 301, .inl (fun _ => 0))), (q2, .inl (cy 2, 301, .inl (fun _ => 0))), (q3, .inl (cy 2, 301, .inl (fun _ => 0)))]) H := hP
  have hD : va_D (fun q => bs ≤ q) (X ++ [(b, .inr (4, [.ref t, .ref q1, .ref q2, .ref q3, .int (0), .int (0)])), (q1, .inl (cy 2, 301, .inl (fun _ => 0))), (q2, .inl (cy 2, 301, .inl (fun _ => 0))), (q3, .inl (cy 2, 301, .inl (fun _ => 0)))]) := hD
  exact W.vret hx hb hr (fun t ht _ => ⟨_, ⟨q1, q2, q3, rfl⟩, rfl, by rw [ht]; exact hP, hD, hS.F ht⟩) hS.2.2 dX4_init_46 hlk
theorem in_X3_init_X1 : ∀ w ∈ wsX10, w ∈ wsX3_init := fun _ h => List.mem_cons_of_mem _ (List.mem_append_right _ h)
theorem in_X3_init_X3 : ∀ w ∈ wsX30, w ∈ wsX3_init := fun _ h => List.mem_cons_of_mem _ (List.mem_append_left _ (List.mem_append_right _ h))
theorem in_X3_init_X4 : ∀ w ∈ wsX40, w ∈ wsX3_init := fun _ h => List.mem_cons_of_mem _ (List.mem_append_left _ (List.mem_append_left _ (List.mem_append_right _ h)))
def rm_X3_init : Room := { frames := 3, cells := 5, slots := 911, locals := 86 }
set_option maxRecDepth 100000 in
theorem c_X3_init (l : Launch) (D : va_G) (cy : Nat → ClassId) (bs : Nat) (X : va_W) (b t mx : Nat) : Met l yX3_init wsX3_init rm_X3_init (qI D cy bs [.ref b, .ref t, .ref mx] (X ++ [(b, .inr (3, [.null, .null, .null, .int 0, .int 0, .int 0, .int 0, .int 0]))])) (qJ D bs (fun w => ∃ (q1 q2 q3 q4 q5 : Nat), w = X ++ [(b, .inr (3, [.ref q1, .ref mx, .ref q5, .int (0), .int (-1), .int (0), .int (0), .int (0)])), (q1, .inr (4, [.ref t, .ref q2, .ref q3, .ref q4, .int (0), .int (0)])), (q2, .inl (cy 2, 301, .inl (fun _ => 0))), (q3, .inl (cy 2, 301, .inl (fun _ => 0))), (q4, .inl (cy 2, 301, .inl (fun _ => 0))), (q5, .inr (1, [.long 0, .long 1]))])) 5 911 (fun q => bs ≤ q) := by
  refine Met.ofW (cc := cX3_init) (maxL := 3) (ret := none) (by decide) rfl ?_
  intro p e s m args below meth c s₁ B hml hv
  obtain ⟨rfl, hN, hP, hK, hD⟩ := hv
  have hx := B.exec
  have hb := B.bytes
  have hr := B.returns
  have hts := atoms_spec (ws := wsX3_init) B.pre
  have hown : s.vm.findClass RX3 = some m.cls := findClass_of_methodNamed B.named
  have hlk := B.notSynchronized
  have hin : meth.name = "<init>" := (name_of_methodNamed B.named B.method).1
  have hbs : bs ≤ s.heap.size := Nat.le_of_lt (Nat.lt_of_le_of_lt (hD.2 (X.length + 0) _ (xg 0 rfl)) ((hP (X.length + 0) _ (xg 0 rfl)).lt))
  have hA : ∀ q : Nat, s.heap.size ≤ q → bs ≤ q := fun q h => Nat.le_trans hbs h
  have hS : va_S (fun q => bs ≤ q) s.heap s.heap [] := va_S.rf
  have hl := lv_entry ([.ref b, .ref t, .ref mx]) (n := 3) (Nat.le_of_ble_eq_true rfl)
  rw [lg_entry_eq]
  generalize (lg_sl ([.ref b, .ref t, .ref mx]) ++ List.replicate (3 - (lg_sl ([.ref b, .ref t, .ref mx])).length) Slot.unset).toArray = ls at hl ⊢
  have hl : lv_has ls 3 [(0, .ref b), (1, .ref t), (2, .ref mx)] := hl
  refine lv_aload_n hx hb dX3_init_0 rfl (lv_at hl 0 rfl) ?_
  refine W.objInit hx hb hown (hts (.methodLink RX3 3 objectInit) (by decide +kernel)) (hts (.instanceMethod objectInit) (by decide +kernel)) (hts (.code objectInit ⟨#[0xb1]⟩ 1 none) (by decide +kernel)) rfl (by rw [hml]; exact hl.1) rfl dX3_init_1 (Nat.le_of_ble_eq_true rfl) (Nat.le_of_ble_eq_true rfl) ?_
  refine W.eq (g2 := F0 m 4 ls []) rfl ?_
  refine lv_aload_n hx hb dX3_init_4 rfl (lv_at hl 0 rfl) ?_
  refine va_new (ci := 4) (fs := [.null, .null, .null, .null, .int 0, .int 0]) (C := RX4) (T := TX4) (N := 6) hx hb hts in_X3_init_X4 tyX4 tyX4_ok hown (hts (.classLink RX3 9 RX4) (by decide +kernel)) (hts (.instantiable RX4 6) (by decide +kernel)) (hts (.initialized RX4) (by decide +kernel)) hK hP hD hS hA rfl (fun j hj => by rcases (show j = 0 ∨ j = 1 ∨ j = 2 ∨ j = 3 ∨ j = 4 ∨ j = 5 by omega) with rfl | rfl | rfl | rfl | rfl | rfl <;> rfl) (Nat.le_of_ble_eq_true rfl) (Nat.le_of_ble_eq_true rfl) dX3_init_5 (fun q1 H hP hD hS => ?_)
  rw [List.append_assoc] at hP hD
  have hP : va_P D vwCl (X ++ [(b, .inr (3, [.null, .null, .null, .int 0, .int 0, .int 0, .int 0, .int 0])), (q1, .inr (4, [.null, .null, .null, .null, .int 0, .int 0]))]) H := hP
  have hD : va_D (fun q => bs ≤ q) (X ++ [(b, .inr (3, [.null, .null, .null, .int 0, .int 0, .int 0, .int 0, .int 0])), (q1, .inr (4, [.null, .null, .null, .null, .int 0, .int 0]))]) := hD
  refine W.widen (k := 1) (n := 6) (Nat.le_of_ble_eq_true rfl) (Nat.le_of_ble_eq_true rfl) ?_
  refine lv_dup hx hb dX3_init_8 rfl ?_
  refine lv_aload_n hx hb dX3_init_9 rfl (lv_at hl 1 rfl) ?_
  have hP2 : va_P D vwCl ((X ++ [(b, .inr (3, [.null, .null, .null, .int 0, .int 0, .int 0, .int 0, .int 0]))]) ++ [(q1, .inr (4, [.null, .null, .null, .null, .int 0, .int 0]))]) H := by rw [List.append_assoc]; exact hP
  have hD2 : va_D (fun q => bs ≤ q) ((X ++ [(b, .inr (3, [.null, .null, .null, .int 0, .int 0, .int 0, .int 0, .int 0]))]) ++ [(q1, .inr (4, [.null, .null, .null, .null, .int 0, .int 0]))]) := by rw [List.append_assoc]; exact hD
  refine ji_I (rest := [.ref q1, .ref b]) ⟨hx, hb, hml, hown, hts⟩ hN hK hP2 hD2 hS (c_X4_init l D cy bs (X ++ [(b, .inr (3, [.null, .null, .null, .int 0, .int 0, .int 0, .int 0, .int 0]))]) q1 t) (cwI 1 hts gX3_init_X4_init rfl rfl rfl (hts (.initialized RX4) (by decide +kernel)) (hts (.methodLink RX3 11 yX4_init) (by decide +kernel)) (hts (.instanceMethod yX4_init) (by decide +kernel)) rfl (by decide +kernel) ⟨(Nat.le_of_ble_eq_true rfl), (Nat.le_of_ble_eq_true rfl)⟩) rfl hl.1 rfl (Nat.le_of_ble_eq_true rfl) dX3_init_10 ⟨(Nat.le_of_ble_eq_true rfl), (Nat.le_of_ble_eq_true rfl)⟩ (fun w1 H locs hB hP hD hS => ?_)
  obtain ⟨q2, q3, q4, rfl⟩ := hB
  rw [List.append_assoc] at hP hD
  have hP : va_P D vwCl (X ++ [(b, .inr (3, [.null, .null, .null, .int 0, .int 0, .int 0, .int 0, .int 0])), (q1, .inr (4, [.ref t, .ref q2, .ref q3, .ref q4, .int (0), .int (0)])), (q2, .inl (cy 2, 301, .inl (fun _ => 0))), (q3, .inl (cy 2, 301, .inl (fun _ => 0))), (q4, .inl (cy 2, 301, .inl (fun _ => 0)))]) H := hP
  have hD : va_D (fun q => bs ≤ q) (X ++ [(b, .inr (3, [.null, .null, .null, .int 0, .int 0, .int 0, .int 0, .int 0])), (q1, .inr (4, [.ref t, .ref q2, .ref q3, .ref q4, .int (0), .int (0)])), (q2, .inl (cy 2, 301, .inl (fun _ => 0))), (q3, .inl (cy 2, 301, .inl (fun _ => 0))), (q4, .inl (cy 2, 301, .inl (fun _ => 0)))]) := hD
  refine W.widen (k := 4) (n := 909) (Nat.le_of_ble_eq_true rfl) (Nat.le_of_ble_eq_true rfl) ?_
  refine va_putF (D := D) (ci := 3) (v := .ref q1) (ty := .object "SawSums$Tokens") (C := RX3) (T := TX3) (N := 8) hx hb hts in_X3_init_X3 tyX3 tyX3_ok nmX3 hown hK hP hD hS (X.length + 0) (xg 0 rfl) rfl 0 (by decide) (hts (.fieldLink RX3 14 "SawSums$Reader" "tokens" "LSawSums$Tokens;") (by decide +kernel)) (fun _ h9 => h9) rfl hin rfl (by decide +kernel) rfl rfl (Nat.le_of_ble_eq_true rfl) dX3_init_13 (fun H locs hP hD hS => ?_)
  rw [xs] at hP hD
  have hP : va_P D vwCl (X ++ [(b, .inr (3, [.ref q1, .null, .null, .int 0, .int 0, .int 0, .int 0, .int 0])), (q1, .inr (4, [.ref t, .ref q2, .ref q3, .ref q4, .int (0), .int (0)])), (q2, .inl (cy 2, 301, .inl (fun _ => 0))), (q3, .inl (cy 2, 301, .inl (fun _ => 0))), (q4, .inl (cy 2, 301, .inl (fun _ => 0)))]) H := hP
  have hD : va_D (fun q => bs ≤ q) (X ++ [(b, .inr (3, [.ref q1, .null, .null, .int 0, .int 0, .int 0, .int 0, .int 0])), (q1, .inr (4, [.ref t, .ref q2, .ref q3, .ref q4, .int (0), .int (0)])), (q2, .inl (cy 2, 301, .inl (fun _ => 0))), (q3, .inl (cy 2, 301, .inl (fun _ => 0))), (q4, .inl (cy 2, 301, .inl (fun _ => 0)))]) := hD
  refine lv_aload_n hx hb dX3_init_16 rfl (lv_at hl 0 rfl) ?_
  refine lv_aload_n hx hb dX3_init_17 rfl (lv_at hl 2 rfl) ?_
  refine va_putF (D := D) (ci := 3) (v := .ref mx) (ty := .object "SawSums$Matrix") (C := RX3) (T := TX3) (N := 8) hx hb hts in_X3_init_X3 tyX3 tyX3_ok nmX3 hown hK hP hD hS (X.length + 0) (xg 0 rfl) rfl 1 (by decide) (hts (.fieldLink RX3 20 "SawSums$Reader" "matrix" "LSawSums$Matrix;") (by decide +kernel)) (fun _ h9 => h9) rfl hin rfl (by decide +kernel) rfl rfl (Nat.le_of_ble_eq_true rfl) dX3_init_18 (fun H locs hP hD hS => ?_)
  rw [xs] at hP hD
  have hP : va_P D vwCl (X ++ [(b, .inr (3, [.ref q1, .ref mx, .null, .int 0, .int 0, .int 0, .int 0, .int 0])), (q1, .inr (4, [.ref t, .ref q2, .ref q3, .ref q4, .int (0), .int (0)])), (q2, .inl (cy 2, 301, .inl (fun _ => 0))), (q3, .inl (cy 2, 301, .inl (fun _ => 0))), (q4, .inl (cy 2, 301, .inl (fun _ => 0)))]) H := hP
  have hD : va_D (fun q => bs ≤ q) (X ++ [(b, .inr (3, [.ref q1, .ref mx, .null, .int 0, .int 0, .int 0, .int 0, .int 0])), (q1, .inr (4, [.ref t, .ref q2, .ref q3, .ref q4, .int (0), .int (0)])), (q2, .inl (cy 2, 301, .inl (fun _ => 0))), (q3, .inl (cy 2, 301, .inl (fun _ => 0))), (q4, .inl (cy 2, 301, .inl (fun _ => 0)))]) := hD
  refine lv_aload_n hx hb dX3_init_21 rfl (lv_at hl 0 rfl) ?_
  refine va_new (ci := 1) (fs := [.long 0, .long 0]) (C := RX1) (T := TX1) (N := 2) hx hb hts in_X3_init_X1 tyX1 tyX1_ok hown (hts (.classLink RX3 24 RX1) (by decide +kernel)) (hts (.instantiable RX1 2) (by decide +kernel)) (hts (.initialized RX1) (by decide +kernel)) hK hP hD hS hA rfl (fun j hj => by rcases (show j = 0 ∨ j = 1 by omega) with rfl | rfl <;> rfl) (Nat.le_of_ble_eq_true rfl) (Nat.le_of_ble_eq_true rfl) dX3_init_22 (fun q5 H hP hD hS => ?_)
  rw [List.append_assoc] at hP hD
  have hP : va_P D vwCl (X ++ [(b, .inr (3, [.ref q1, .ref mx, .null, .int 0, .int 0, .int 0, .int 0, .int 0])), (q1, .inr (4, [.ref t, .ref q2, .ref q3, .ref q4, .int (0), .int (0)])), (q2, .inl (cy 2, 301, .inl (fun _ => 0))), (q3, .inl (cy 2, 301, .inl (fun _ => 0))), (q4, .inl (cy 2, 301, .inl (fun _ => 0))), (q5, .inr (1, [.long 0, .long 0]))]) H := hP
  have hD : va_D (fun q => bs ≤ q) (X ++ [(b, .inr (3, [.ref q1, .ref mx, .null, .int 0, .int 0, .int 0, .int 0, .int 0])), (q1, .inr (4, [.ref t, .ref q2, .ref q3, .ref q4, .int (0), .int (0)])), (q2, .inl (cy 2, 301, .inl (fun _ => 0))), (q3, .inl (cy 2, 301, .inl (fun _ => 0))), (q4, .inl (cy 2, 301, .inl (fun _ => 0))), (q5, .inr (1, [.long 0, .long 0]))]) := hD
  refine W.widen (k := 5) (n := 911) (Nat.le_of_ble_eq_true rfl) (Nat.le_of_ble_eq_true rfl) ?_
  refine lv_dup hx hb dX3_init_25 rfl ?_
  refine lv_lconst (v := (0 : Int64)) hx hb dX3_init_26 (by decide) ?_
  refine lv_lconst (v := (1 : Int64)) hx hb dX3_init_27 (by decide) ?_
  have hP2 : va_P D vwCl ((X ++ [(b, .inr (3, [.ref q1, .ref mx, .null, .int 0, .int 0, .int 0, .int 0, .int 0])), (q1, .inr (4, [.ref t, .ref q2, .ref q3, .ref q4, .int (0), .int (0)])), (q2, .inl (cy 2, 301, .inl (fun _ => 0))), (q3, .inl (cy 2, 301, .inl (fun _ => 0))), (q4, .inl (cy 2, 301, .inl (fun _ => 0)))]) ++ [(q5, .inr (1, [.long 0, .long 0]))]) H := by rw [List.append_assoc]; exact hP
  have hD2 : va_D (fun q => bs ≤ q) ((X ++ [(b, .inr (3, [.ref q1, .ref mx, .null, .int 0, .int 0, .int 0, .int 0, .int 0])), (q1, .inr (4, [.ref t, .ref q2, .ref q3, .ref q4, .int (0), .int (0)])), (q2, .inl (cy 2, 301, .inl (fun _ => 0))), (q3, .inl (cy 2, 301, .inl (fun _ => 0))), (q4, .inl (cy 2, 301, .inl (fun _ => 0)))]) ++ [(q5, .inr (1, [.long 0, .long 0]))]) := by rw [List.append_assoc]; exact hD
  refine ji_I (rest := [.ref q5, .ref b]) ⟨hx, hb, hml, hown, hts⟩ hN hK hP2 hD2 hS (c_X1_init1 l D cy bs (X ++ [(b, .inr (3, [.ref q1, .ref mx, .null, .int 0, .int 0, .int 0, .int 0, .int 0])), (q1, .inr (4, [.ref t, .ref q2, .ref q3, .ref q4, .int (0), .int (0)])), (q2, .inl (cy 2, 301, .inl (fun _ => 0))), (q3, .inl (cy 2, 301, .inl (fun _ => 0))), (q4, .inl (cy 2, 301, .inl (fun _ => 0)))]) q5 0 1 (0, 1) f01) (cwI 2 hts gX3_init_X1_init rfl rfl rfl (hts (.initialized RX1) (by decide +kernel)) (hts (.methodLink RX3 26 yX1_init) (by decide +kernel)) (hts (.instanceMethod yX1_init) (by decide +kernel)) rfl (by decide +kernel) ⟨(Nat.le_of_ble_eq_true rfl), (Nat.le_of_ble_eq_true rfl)⟩) rfl hl.1 rfl (Nat.le_of_ble_eq_true rfl) dX3_init_28 ⟨(Nat.le_of_ble_eq_true rfl), (Nat.le_of_ble_eq_true rfl)⟩ (fun w1 H locs hB hP hD hS => ?_)
  obtain ⟨rfl⟩ := hB
  rw [List.append_assoc] at hP hD
  have hP : va_P D vwCl (X ++ [(b, .inr (3, [.ref q1, .ref mx, .null, .int 0, .int 0, .int 0, .int 0, .int 0])), (q1, .inr (4, [.ref t, .ref q2, .ref q3, .ref q4, .int (0), .int (0)])), (q2, .inl (cy 2, 301, .inl (fun _ => 0))), (q3, .inl (cy 2, 301, .inl (fun _ => 0))), (q4, .inl (cy 2, 301, .inl (fun _ => 0))), (q5, .inr (1, [.long 0, .long 1]))]) H := hP
  have hD : va_D (fun q => bs ≤ q) (X ++ [(b, .inr (3, [.ref q1, .ref mx, .null, .int 0, .int 0, .int 0, .int 0, .int 0])), (q1, .inr (4, [.ref t, .ref q2, .ref q3, .ref q4, .int (0), .int (0)])), (q2, .inl (cy 2, 301, .inl (fun _ => 0))), (q3, .inl (cy 2, 301, .inl (fun _ => 0))), (q4, .inl (cy 2, 301, .inl (fun _ => 0))), (q5, .inr (1, [.long 0, .long 1]))]) := hD
  refine W.widen (k := 5) (n := 911) (Nat.le_of_ble_eq_true rfl) (Nat.le_of_ble_eq_true rfl) ?_
  refine va_putF (D := D) (ci := 3) (v := .ref q5) (ty := .object "SawSums$Fraction") (C := RX3) (T := TX3) (N := 8) hx hb hts in_X3_init_X3 tyX3 tyX3_ok nmX3 hown hK hP hD hS (X.length + 0) (xg 0 rfl) rfl 2 (by decide) (hts (.fieldLink RX3 29 "SawSums$Reader" "zero" "LSawSums$Fraction;") (by decide +kernel)) (fun _ h9 => h9) rfl hin rfl (by decide +kernel) rfl rfl (Nat.le_of_ble_eq_true rfl) dX3_init_31 (fun H locs hP hD hS => ?_)
  rw [xs] at hP hD
  have hP : va_P D vwCl (X ++ [(b, .inr (3, [.ref q1, .ref mx, .ref q5, .int 0, .int 0, .int 0, .int 0, .int 0])), (q1, .inr (4, [.ref t, .ref q2, .ref q3, .ref q4, .int (0), .int (0)])), (q2, .inl (cy 2, 301, .inl (fun _ => 0))), (q3, .inl (cy 2, 301, .inl (fun _ => 0))), (q4, .inl (cy 2, 301, .inl (fun _ => 0))), (q5, .inr (1, [.long 0, .long 1]))]) H := hP
  have hD : va_D (fun q => bs ≤ q) (X ++ [(b, .inr (3, [.ref q1, .ref mx, .ref q5, .int 0, .int 0, .int 0, .int 0, .int 0])), (q1, .inr (4, [.ref t, .ref q2, .ref q3, .ref q4, .int (0), .int (0)])), (q2, .inl (cy 2, 301, .inl (fun _ => 0))), (q3, .inl (cy 2, 301, .inl (fun _ => 0))), (q4, .inl (cy 2, 301, .inl (fun _ => 0))), (q5, .inr (1, [.long 0, .long 1]))]) := hD
  refine lv_aload_n hx hb dX3_init_34 rfl (lv_at hl 0 rfl) ?_
  refine lv_iconst (v := (0 : Int32)) hx hb dX3_init_35 (by decide) ?_
  refine va_put (D := D) (ci := 3) (v := .int (0)) (ty := .int) (C := RX3) (T := TX3) (N := 8) hx hb hts in_X3_init_X3 tyX3 tyX3_ok nmX3 hown hK hP hD hS (X.length + 0) (xg 0 rfl) rfl 3 (by decide) (hts (.fieldLink RX3 33 "SawSums$Reader" "at" "I") (by decide +kernel)) (fun _ h9 => h9) rfl (by decide +kernel) rfl rfl (Nat.le_of_ble_eq_true rfl) dX3_init_36 (fun H locs hP hD hS => ?_)
  rw [xs] at hP hD
  have hP : va_P D vwCl (X ++ [(b, .inr (3, [.ref q1, .ref mx, .ref q5, .int (0), .int 0, .int 0, .int 0, .int 0])), (q1, .inr (4, [.ref t, .ref q2, .ref q3, .ref q4, .int (0), .int (0)])), (q2, .inl (cy 2, 301, .inl (fun _ => 0))), (q3, .inl (cy 2, 301, .inl (fun _ => 0))), (q4, .inl (cy 2, 301, .inl (fun _ => 0))), (q5, .inr (1, [.long 0, .long 1]))]) H := hP
  have hD : va_D (fun q => bs ≤ q) (X ++ [(b, .inr (3, [.ref q1, .ref mx, .ref q5, .int (0), .int 0, .int 0, .int 0, .int 0])), (q1, .inr (4, [.ref t, .ref q2, .ref q3, .ref q4, .int (0), .int (0)])), (q2, .inl (cy 2, 301, .inl (fun _ => 0))), (q3, .inl (cy 2, 301, .inl (fun _ => 0))), (q4, .inl (cy 2, 301, .inl (fun _ => 0))), (q5, .inr (1, [.long 0, .long 1]))]) := hD
  refine lv_aload_n hx hb dX3_init_39 rfl (lv_at hl 0 rfl) ?_
  refine lv_iconst (v := (-1 : Int32)) hx hb dX3_init_40 (by decide) ?_
  refine va_put (D := D) (ci := 3) (v := .int (-1)) (ty := .int) (C := RX3) (T := TX3) (N := 8) hx hb hts in_X3_init_X3 tyX3 tyX3_ok nmX3 hown hK hP hD hS (X.length + 0) (xg 0 rfl) rfl 4 (by decide) (hts (.fieldLink RX3 37 "SawSums$Reader" "token" "I") (by decide +kernel)) (fun _ h9 => h9) rfl (by decide +kernel) rfl rfl (Nat.le_of_ble_eq_true rfl) dX3_init_41 (fun H locs hP hD hS => ?_)
  rw [xs] at hP hD
  have hP : va_P D vwCl (X ++ [(b, .inr (3, [.ref q1, .ref mx, .ref q5, .int (0), .int (-1), .int 0, .int 0, .int 0])), (q1, .inr (4, [.ref t, .ref q2, .ref q3, .ref q4, .int (0), .int (0)])), (q2, .inl (cy 2, 301, .inl (fun _ => 0))), (q3, .inl (cy 2, 301, .inl (fun _ => 0))), (q4, .inl (cy 2, 301, .inl (fun _ => 0))), (q5, .inr (1, [.long 0, .long 1]))]) H := hP
  have hD : va_D (fun q => bs ≤ q) (X ++ [(b, .inr (3, [.ref q1, .ref mx, .ref q5, .int (0), .int (-1), .int 0, .int 0, .int 0])), (q1, .inr (4, [.ref t, .ref q2, .ref q3, .ref q4, .int (0), .int (0)])), (q2, .inl (cy 2, 301, .inl (fun _ => 0))), (q3, .inl (cy 2, 301, .inl (fun _ => 0))), (q4, .inl (cy 2, 301, .inl (fun _ => 0))), (q5, .inr (1, [.long 0, .long 1]))]) := hD
  refine lv_aload_n hx hb dX3_init_44 rfl (lv_at hl 0 rfl) ?_
  refine lv_iconst (v := (0 : Int32)) hx hb dX3_init_45 (by decide) ?_
  refine va_put (D := D) (ci := 3) (v := .int (0)) (ty := .int) (C := RX3) (T := TX3) (N := 8) hx hb hts in_X3_init_X3 tyX3 tyX3_ok nmX3 hown hK hP hD hS (X.length + 0) (xg 0 rfl) rfl 5 (by decide) (hts (.fieldLink RX3 40 "SawSums$Reader" "refused" "I") (by decide +kernel)) (fun _ h9 => h9) rfl (by decide +kernel) rfl rfl (Nat.le_of_ble_eq_true rfl) dX3_init_46 (fun H locs hP hD hS => ?_)
  rw [xs] at hP hD
  have hP : va_P D vwCl (X ++ [(b, .inr (3, [.ref q1, .ref mx, .ref q5, .int (0), .int (-1), .int (0), .int 0, .int 0])), (q1, .inr (4, [.ref t, .ref q2, .ref q3, .ref q4, .int (0), .int (0)])), (q2, .inl (cy 2, 301, .inl (fun _ => 0))), (q3, .inl (cy 2, 301, .inl (fun _ => 0))), (q4, .inl (cy 2, 301, .inl (fun _ => 0))), (q5, .inr (1, [.long 0, .long 1]))]) H := hP
  have hD : va_D (fun q => bs ≤ q) (X ++ [(b, .inr (3, [.ref q1, .ref mx, .ref q5, .int (0), .int (-1), .int (0), .int 0, .int 0])), (q1, .inr (4, [.ref t, .ref q2, .ref q3, .ref q4, .int (0), .int (0)])), (q2, .inl (cy 2, 301, .inl (fun _ => 0))), (q3, .inl (cy 2, 301, .inl (fun _ => 0))), (q4, .inl (cy 2, 301, .inl (fun _ => 0))), (q5, .inr (1, [.long 0, .long 1]))]) := hD
  refine lv_aload_n hx hb dX3_init_49 rfl (lv_at hl 0 rfl) ?_
  refine lv_iconst (v := (0 : Int32)) hx hb dX3_init_50 (by decide) ?_
  refine va_put (D := D) (ci := 3) (v := .int (0)) (ty := .int) (C := RX3) (T := TX3) (N := 8) hx hb hts in_X3_init_X3 tyX3 tyX3_ok nmX3 hown hK hP hD hS (X.length + 0) (xg 0 rfl) rfl 6 (by decide) (hts (.fieldLink RX3 43 "SawSums$Reader" "exceeded" "I") (by decide +kernel)) (fun _ h9 => h9) rfl (by decide +kernel) rfl rfl (Nat.le_of_ble_eq_true rfl) dX3_init_51 (fun H locs hP hD hS => ?_)
  rw [xs] at hP hD
  have hP : va_P D vwCl (X ++ [(b, .inr (3, [.ref q1, .ref mx, .ref q5, .int (0), .int (-1), .int (0), .int (0), .int 0])), (q1, .inr (4, [.ref t, .ref q2, .ref q3, .ref q4, .int (0), .int (0)])), (q2, .inl (cy 2, 301, .inl (fun _ => 0))), (q3, .inl (cy 2, 301, .inl (fun _ => 0))), (q4, .inl (cy 2, 301, .inl (fun _ => 0))), (q5, .inr (1, [.long 0, .long 1]))]) H := hP
  have hD : va_D (fun q => bs ≤ q) (X ++ [(b, .inr (3, [.ref q1, .ref mx, .ref q5, .int (0), .int (-1), .int (0), .int (0), .int 0])), (q1, .inr (4, [.ref t, .ref q2, .ref q3, .ref q4, .int (0), .int (0)])), (q2, .inl (cy 2, 301, .inl (fun _ => 0))), (q3, .inl (cy 2, 301, .inl (fun _ => 0))), (q4, .inl (cy 2, 301, .inl (fun _ => 0))), (q5, .inr (1, [.long 0, .long 1]))]) := hD
  refine lv_aload_n hx hb dX3_init_54 rfl (lv_at hl 0 rfl) ?_
  refine lv_iconst (v := (0 : Int32)) hx hb dX3_init_55 (by decide) ?_
  refine va_put (D := D) (ci := 3) (v := .int (0)) (ty := .int) (C := RX3) (T := TX3) (N := 8) hx hb hts in_X3_init_X3 tyX3 tyX3_ok nmX3 hown hK hP hD hS (X.length + 0) (xg 0 rfl) rfl 7 (by decide) (hts (.fieldLink RX3 46 "SawSums$Reader" "sawSums" "I") (by decide +kernel)) (fun _ h9 => h9) rfl (by decide +kernel) rfl rfl (Nat.le_of_ble_eq_true rfl) dX3_init_56 (fun H locs hP hD hS => ?_)
  rw [xs] at hP hD
  have hP : va_P D vwCl (X ++ [(b, .inr (3, [.ref q1, .ref mx, .ref q5, .int (0), .int (-1), .int (0), .int (0), .int (0)])), (q1, .inr (4, [.ref t, .ref q2, .ref q3, .ref q4, .int (0), .int (0)])), (q2, .inl (cy 2, 301, .inl (fun _ => 0))), (q3, .inl (cy 2, 301, .inl (fun _ => 0))), (q4, .inl (cy 2, 301, .inl (fun _ => 0))), (q5, .inr (1, [.long 0, .long 1]))]) H := hP
  have hD : va_D (fun q => bs ≤ q) (X ++ [(b, .inr (3, [.ref q1, .ref mx, .ref q5, .int (0), .int (-1), .int (0), .int (0), .int (0)])), (q1, .inr (4, [.ref t, .ref q2, .ref q3, .ref q4, .int (0), .int (0)])), (q2, .inl (cy 2, 301, .inl (fun _ => 0))), (q3, .inl (cy 2, 301, .inl (fun _ => 0))), (q4, .inl (cy 2, 301, .inl (fun _ => 0))), (q5, .inr (1, [.long 0, .long 1]))]) := hD
  exact W.vret hx hb hr (fun t ht _ => ⟨_, ⟨q1, q2, q3, q4, q5, rfl⟩, rfl, by rw [ht]; exact hP, hD, hS.F ht⟩) hS.2.2 dX3_init_59 hlk
theorem in_X6_init_X0 : ∀ w ∈ wsX00, w ∈ wsX6_init := fun _ h => List.mem_cons_of_mem _ (List.mem_append_left _ (List.mem_append_left _ (List.mem_append_left _ (List.mem_append_right _ h))))
theorem in_X6_init_X1 : ∀ w ∈ wsX10, w ∈ wsX6_init := fun _ h => List.mem_cons_of_mem _ (List.mem_append_left _ (List.mem_append_right _ h))
theorem in_X6_init_X2 : ∀ w ∈ wsX20, w ∈ wsX6_init := fun _ h => List.mem_cons_of_mem _ (List.mem_append_left _ (List.mem_append_left _ (List.mem_append_left _ (List.mem_append_left _ (List.mem_append_left _ (List.mem_append_right _ h))))))
theorem in_X6_init_X3 : ∀ w ∈ wsX30, w ∈ wsX6_init := fun _ h => List.mem_cons_of_mem _ (List.mem_append_left _ (List.mem_append_left _ (List.mem_append_right _ h)))
theorem in_X6_init_X6 : ∀ w ∈ wsX60, w ∈ wsX6_init := fun _ h => List.mem_cons_of_mem _ (List.mem_append_left _ (List.mem_append_left _ (List.mem_append_left _ (List.mem_append_left _ (List.mem_append_right _ h)))))
def rm_X6_init : Room := { frames := 4, cells := 13, slots := 2728, locals := 108 }
set_option maxRecDepth 100000 in
theorem c_X6_init (l : Launch) (D : va_G) (cy : Nat → ClassId) (bs : Nat) (X : va_W) (b : Nat) : Met l yX6_init wsX6_init rm_X6_init (qI D cy bs [.ref b] (X ++ [(b, .inr (5, [.null, .null, .null, .null, .null, .int 0, .null, .int 0, .int 0]))])) (qJ D bs (fun w => ∃ (q1 q2 q3 q4 q5 q6 q7 q8 q9 q10 q11 q12 q13 : Nat), w = X ++ [(b, .inr (5, [.ref q1, .ref q2, .ref q5, .ref q6, .ref q7, .int (0), .ref q13, .int (0), .int (0)])), (q1, .inr (2, [.int (1), .int (0), .int (0), .int (1)])), (q2, .inr (0, [.ref q3, .ref q4, .int (0)])), (q3, .inl (cy 2, 500, .inl (fun _ => 0))), (q4, .inl (cy 0, 500, .inr (.inl (fun _ => 0)))), (q5, .inl (cy 0, 500, .inr (.inl (fun _ => 0)))), (q6, .inl (cy 1, 300, .inl (fun _ => 0))), (q7, .inr (3, [.ref q8, .ref q1, .ref q12, .int (0), .int (-1), .int (0), .int (0), .int (0)])), (q8, .inr (4, [.ref q6, .ref q9, .ref q10, .ref q11, .int (0), .int (0)])), (q9, .inl (cy 2, 301, .inl (fun _ => 0))), (q10, .inl (cy 2, 301, .inl (fun _ => 0))), (q11, .inl (cy 2, 301, .inl (fun _ => 0))), (q12, .inr (1, [.long 0, .long 1])), (q13, .inr (1, [.long 0, .long 1]))])) 13 2728 (fun q => bs ≤ q) := by
  refine Met.ofW (cc := cX6_init) (maxL := 1) (ret := none) (by decide) rfl ?_
  intro p e s m args below meth c s₁ B hml hv
  obtain ⟨rfl, hN, hP, hK, hD⟩ := hv
  have hx := B.exec
  have hb := B.bytes
  have hr := B.returns
  have hts := atoms_spec (ws := wsX6_init) B.pre
  have hown : s.vm.findClass RX6 = some m.cls := findClass_of_methodNamed B.named
  have hlk := B.notSynchronized
  have hin : meth.name = "<init>" := (name_of_methodNamed B.named B.method).1
  have hbs : bs ≤ s.heap.size := Nat.le_of_lt (Nat.lt_of_le_of_lt (hD.2 (X.length + 0) _ (xg 0 rfl)) ((hP (X.length + 0) _ (xg 0 rfl)).lt))
  have hA : ∀ q : Nat, s.heap.size ≤ q → bs ≤ q := fun q h => Nat.le_trans hbs h
  have hS : va_S (fun q => bs ≤ q) s.heap s.heap [] := va_S.rf
  have hl := lv_entry ([.ref b]) (n := 1) (Nat.le_of_ble_eq_true rfl)
  rw [lg_entry_eq]
  generalize (lg_sl ([.ref b]) ++ List.replicate (1 - (lg_sl ([.ref b])).length) Slot.unset).toArray = ls at hl ⊢
  have hl : lv_has ls 1 [(0, .ref b)] := hl
  refine lv_aload_n hx hb dX6_init_0 rfl (lv_at hl 0 rfl) ?_
  refine W.objInit hx hb hown (hts (.methodLink RX6 1 objectInit) (by decide +kernel)) (hts (.instanceMethod objectInit) (by decide +kernel)) (hts (.code objectInit ⟨#[0xb1]⟩ 1 none) (by decide +kernel)) rfl (by rw [hml]; exact hl.1) rfl dX6_init_1 (Nat.le_of_ble_eq_true rfl) (Nat.le_of_ble_eq_true rfl) ?_
  refine W.eq (g2 := F0 m 4 ls []) rfl ?_
  refine lv_aload_n hx hb dX6_init_4 rfl (lv_at hl 0 rfl) ?_
  refine va_new (ci := 2) (fs := [.int 0, .int 0, .int 0, .int 0]) (C := RX2) (T := TX2) (N := 4) hx hb hts in_X6_init_X2 tyX2 tyX2_ok hown (hts (.classLink RX6 7 RX2) (by decide +kernel)) (hts (.instantiable RX2 4) (by decide +kernel)) (hts (.initialized RX2) (by decide +kernel)) hK hP hD hS hA rfl (fun j hj => by rcases (show j = 0 ∨ j = 1 ∨ j = 2 ∨ j = 3 by omega) with rfl | rfl | rfl | rfl <;> rfl) (Nat.le_of_ble_eq_true rfl) (Nat.le_of_ble_eq_true rfl) dX6_init_5 (fun q1 H hP hD hS => ?_)
  rw [List.append_assoc] at hP hD
  have hP : va_P D vwCl (X ++ [(b, .inr (5, [.null, .null, .null, .null, .null, .int 0, .null, .int 0, .int 0])), (q1, .inr (2, [.int 0, .int 0, .int 0, .int 0]))]) H := hP
  have hD : va_D (fun q => bs ≤ q) (X ++ [(b, .inr (5, [.null, .null, .null, .null, .null, .int 0, .null, .int 0, .int 0])), (q1, .inr (2, [.int 0, .int 0, .int 0, .int 0]))]) := hD
  refine W.widen (k := 1) (n := 4) (Nat.le_of_ble_eq_true rfl) (Nat.le_of_ble_eq_true rfl) ?_
  refine lv_dup hx hb dX6_init_8 rfl ?_
  have hP2 : va_P D vwCl ((X ++ [(b, .inr (5, [.null, .null, .null, .null, .null, .int 0, .null, .int 0, .int 0]))]) ++ [(q1, .inr (2, [.int 0, .int 0, .int 0, .int 0]))]) H := by rw [List.append_assoc]; exact hP
  have hD2 : va_D (fun q => bs ≤ q) ((X ++ [(b, .inr (5, [.null, .null, .null, .null, .null, .int 0, .null, .int 0, .int 0]))]) ++ [(q1, .inr (2, [.int 0, .int 0, .int 0, .int 0]))]) := by rw [List.append_assoc]; exact hD
  refine ji_I (rest := [.ref q1, .ref b]) ⟨hx, hb, hml, hown, hts⟩ hN hK hP2 hD2 hS (c_X2_init l D cy bs (X ++ [(b, .inr (5, [.null, .null, .null, .null, .null, .int 0, .null, .int 0, .int 0]))]) q1 ) (cwI 0 hts gX6_init_X2_init rfl rfl rfl (hts (.initialized RX2) (by decide +kernel)) (hts (.methodLink RX6 9 yX2_init) (by decide +kernel)) (hts (.instanceMethod yX2_init) (by decide +kernel)) rfl (by decide +kernel) ⟨(Nat.le_of_ble_eq_true rfl), (Nat.le_of_ble_eq_true rfl)⟩) rfl hl.1 rfl (Nat.le_of_ble_eq_true rfl) dX6_init_9 ⟨(Nat.le_of_ble_eq_true rfl), (Nat.le_of_ble_eq_true rfl)⟩ (fun w1 H locs hB hP hD hS => ?_)
  obtain ⟨rfl⟩ := hB
  rw [List.append_assoc] at hP hD
  have hP : va_P D vwCl (X ++ [(b, .inr (5, [.null, .null, .null, .null, .null, .int 0, .null, .int 0, .int 0])), (q1, .inr (2, [.int (1), .int (0), .int (0), .int (1)]))]) H := hP
  have hD : va_D (fun q => bs ≤ q) (X ++ [(b, .inr (5, [.null, .null, .null, .null, .null, .int 0, .null, .int 0, .int 0])), (q1, .inr (2, [.int (1), .int (0), .int (0), .int (1)]))]) := hD
  refine W.widen (k := 1) (n := 4) (Nat.le_of_ble_eq_true rfl) (Nat.le_of_ble_eq_true rfl) ?_
  refine va_putF (D := D) (ci := 5) (v := .ref q1) (ty := .object "SawSums$Matrix") (C := RX6) (T := TX6) (N := 9) hx hb hts in_X6_init_X6 tyX6 tyX6_ok nmX6 hown hK hP hD hS (X.length + 0) (xg 0 rfl) rfl 0 (by decide) (hts (.fieldLink RX6 10 "SawSums" "matrix" "LSawSums$Matrix;") (by decide +kernel)) (fun _ h9 => h9) rfl hin rfl (by decide +kernel) rfl rfl (Nat.le_of_ble_eq_true rfl) dX6_init_12 (fun H locs hP hD hS => ?_)
  rw [xs] at hP hD
  have hP : va_P D vwCl (X ++ [(b, .inr (5, [.ref q1, .null, .null, .null, .null, .int 0, .null, .int 0, .int 0])), (q1, .inr (2, [.int (1), .int (0), .int (0), .int (1)]))]) H := hP
  have hD : va_D (fun q => bs ≤ q) (X ++ [(b, .inr (5, [.ref q1, .null, .null, .null, .null, .int 0, .null, .int 0, .int 0])), (q1, .inr (2, [.int (1), .int (0), .int (0), .int (1)]))]) := hD
  refine lv_aload_n hx hb dX6_init_15 rfl (lv_at hl 0 rfl) ?_
  refine va_new (ci := 0) (fs := [.null, .null, .int 0]) (C := RX0) (T := TX0) (N := 3) hx hb hts in_X6_init_X0 tyX0 tyX0_ok hown (hts (.classLink RX6 16 RX0) (by decide +kernel)) (hts (.instantiable RX0 3) (by decide +kernel)) (hts (.initialized RX0) (by decide +kernel)) hK hP hD hS hA rfl (fun j hj => by rcases (show j = 0 ∨ j = 1 ∨ j = 2 by omega) with rfl | rfl | rfl <;> rfl) (Nat.le_of_ble_eq_true rfl) (Nat.le_of_ble_eq_true rfl) dX6_init_16 (fun q2 H hP hD hS => ?_)
  rw [List.append_assoc] at hP hD
  have hP : va_P D vwCl (X ++ [(b, .inr (5, [.ref q1, .null, .null, .null, .null, .int 0, .null, .int 0, .int 0])), (q1, .inr (2, [.int (1), .int (0), .int (0), .int (1)])), (q2, .inr (0, [.null, .null, .int 0]))]) H := hP
  have hD : va_D (fun q => bs ≤ q) (X ++ [(b, .inr (5, [.ref q1, .null, .null, .null, .null, .int 0, .null, .int 0, .int 0])), (q1, .inr (2, [.int (1), .int (0), .int (0), .int (1)])), (q2, .inr (0, [.null, .null, .int 0]))]) := hD
  refine W.widen (k := 2) (n := 7) (Nat.le_of_ble_eq_true rfl) (Nat.le_of_ble_eq_true rfl) ?_
  refine lv_dup hx hb dX6_init_19 rfl ?_
  have hP2 : va_P D vwCl ((X ++ [(b, .inr (5, [.ref q1, .null, .null, .null, .null, .int 0, .null, .int 0, .int 0])), (q1, .inr (2, [.int (1), .int (0), .int (0), .int (1)]))]) ++ [(q2, .inr (0, [.null, .null, .int 0]))]) H := by rw [List.append_assoc]; exact hP
  have hD2 : va_D (fun q => bs ≤ q) ((X ++ [(b, .inr (5, [.ref q1, .null, .null, .null, .null, .int 0, .null, .int 0, .int 0])), (q1, .inr (2, [.int (1), .int (0), .int (0), .int (1)]))]) ++ [(q2, .inr (0, [.null, .null, .int 0]))]) := by rw [List.append_assoc]; exact hD
  refine ji_I (rest := [.ref q2, .ref b]) ⟨hx, hb, hml, hown, hts⟩ hN hK hP2 hD2 hS (c_X0_init l D cy bs (X ++ [(b, .inr (5, [.ref q1, .null, .null, .null, .null, .int 0, .null, .int 0, .int 0])), (q1, .inr (2, [.int (1), .int (0), .int (0), .int (1)]))]) q2 ) (cwI 0 hts gX6_init_X0_init rfl rfl rfl (hts (.initialized RX0) (by decide +kernel)) (hts (.methodLink RX6 18 yX0_init) (by decide +kernel)) (hts (.instanceMethod yX0_init) (by decide +kernel)) rfl (by decide +kernel) ⟨(Nat.le_of_ble_eq_true rfl), (Nat.le_of_ble_eq_true rfl)⟩) rfl hl.1 rfl (Nat.le_of_ble_eq_true rfl) dX6_init_20 ⟨(Nat.le_of_ble_eq_true rfl), (Nat.le_of_ble_eq_true rfl)⟩ (fun w1 H locs hB hP hD hS => ?_)
  obtain ⟨q3, q4, rfl⟩ := hB
  rw [List.append_assoc] at hP hD
  have hP : va_P D vwCl (X ++ [(b, .inr (5, [.ref q1, .null, .null, .null, .null, .int 0, .null, .int 0, .int 0])), (q1, .inr (2, [.int (1), .int (0), .int (0), .int (1)])), (q2, .inr (0, [.ref q3, .ref q4, .int (0)])), (q3, .inl (cy 2, 500, .inl (fun _ => 0))), (q4, .inl (cy 0, 500, .inr (.inl (fun _ => 0))))]) H := hP
  have hD : va_D (fun q => bs ≤ q) (X ++ [(b, .inr (5, [.ref q1, .null, .null, .null, .null, .int 0, .null, .int 0, .int 0])), (q1, .inr (2, [.int (1), .int (0), .int (0), .int (1)])), (q2, .inr (0, [.ref q3, .ref q4, .int (0)])), (q3, .inl (cy 2, 500, .inl (fun _ => 0))), (q4, .inl (cy 0, 500, .inr (.inl (fun _ => 0))))]) := hD
  refine W.widen (k := 4) (n := 1007) (Nat.le_of_ble_eq_true rfl) (Nat.le_of_ble_eq_true rfl) ?_
  refine va_putF (D := D) (ci := 5) (v := .ref q2) (ty := .object "SawSums$Classes") (C := RX6) (T := TX6) (N := 9) hx hb hts in_X6_init_X6 tyX6 tyX6_ok nmX6 hown hK hP hD hS (X.length + 0) (xg 0 rfl) rfl 1 (by decide) (hts (.fieldLink RX6 19 "SawSums" "classes" "LSawSums$Classes;") (by decide +kernel)) (fun _ h9 => h9) rfl hin rfl (by decide +kernel) rfl rfl (Nat.le_of_ble_eq_true rfl) dX6_init_23 (fun H locs hP hD hS => ?_)
  rw [xs] at hP hD
  have hP : va_P D vwCl (X ++ [(b, .inr (5, [.ref q1, .ref q2, .null, .null, .null, .int 0, .null, .int 0, .int 0])), (q1, .inr (2, [.int (1), .int (0), .int (0), .int (1)])), (q2, .inr (0, [.ref q3, .ref q4, .int (0)])), (q3, .inl (cy 2, 500, .inl (fun _ => 0))), (q4, .inl (cy 0, 500, .inr (.inl (fun _ => 0))))]) H := hP
  have hD : va_D (fun q => bs ≤ q) (X ++ [(b, .inr (5, [.ref q1, .ref q2, .null, .null, .null, .int 0, .null, .int 0, .int 0])), (q1, .inr (2, [.int (1), .int (0), .int (0), .int (1)])), (q2, .inr (0, [.ref q3, .ref q4, .int (0)])), (q3, .inl (cy 2, 500, .inl (fun _ => 0))), (q4, .inl (cy 0, 500, .inr (.inl (fun _ => 0))))]) := hD
  refine lv_aload_n hx hb dX6_init_26 rfl (lv_at hl 0 rfl) ?_
  refine lv_sipush (v := (500 : Int32)) hx hb dX6_init_27 (by decide) ?_
  refine va_newa (atype := .long) hx hb (hts (.arrayClass .long) (by decide +kernel)) rfl hK hP hD hS hA (a0 := (500, .inr (.inl (fun _ => 0)))) (fun _ => rfl) (by decide) (by decide) (Nat.le_of_ble_eq_true rfl) (Nat.le_of_ble_eq_true rfl) (Nat.le_of_ble_eq_true rfl) dX6_init_30 (fun q5 cA H hK1 hP hD hS => ?_)
  have ec : cA = cy 0 := Option.some.inj ((va_nm_long (hK1.2 3 _ rfl).2).symm.trans (va_nm_long (hK.2 0 _ rfl).2))
  subst ec
  rw [List.append_assoc] at hP hD
  have hP : va_P D vwCl (X ++ [(b, .inr (5, [.ref q1, .ref q2, .null, .null, .null, .int 0, .null, .int 0, .int 0])), (q1, .inr (2, [.int (1), .int (0), .int (0), .int (1)])), (q2, .inr (0, [.ref q3, .ref q4, .int (0)])), (q3, .inl (cy 2, 500, .inl (fun _ => 0))), (q4, .inl (cy 0, 500, .inr (.inl (fun _ => 0)))), (q5, .inl (cy 0, 500, .inr (.inl (fun _ => 0))))]) H := hP
  have hD : va_D (fun q => bs ≤ q) (X ++ [(b, .inr (5, [.ref q1, .ref q2, .null, .null, .null, .int 0, .null, .int 0, .int 0])), (q1, .inr (2, [.int (1), .int (0), .int (0), .int (1)])), (q2, .inr (0, [.ref q3, .ref q4, .int (0)])), (q3, .inl (cy 2, 500, .inl (fun _ => 0))), (q4, .inl (cy 0, 500, .inr (.inl (fun _ => 0)))), (q5, .inl (cy 0, 500, .inr (.inl (fun _ => 0))))]) := hD
  refine W.widen (k := 5) (n := 1507) (Nat.le_of_ble_eq_true rfl) (Nat.le_of_ble_eq_true rfl) ?_
  refine va_putF (D := D) (ci := 5) (v := .ref q5) (ty := .array .long) (C := RX6) (T := TX6) (N := 9) hx hb hts in_X6_init_X6 tyX6 tyX6_ok nmX6 hown hK hP hD hS (X.length + 0) (xg 0 rfl) rfl 2 (by decide) (hts (.fieldLink RX6 23 "SawSums" "values" "[J") (by decide +kernel)) (fun _ h9 => h9) rfl hin rfl (by decide +kernel) rfl rfl (Nat.le_of_ble_eq_true rfl) dX6_init_32 (fun H locs hP hD hS => ?_)
  rw [xs] at hP hD
  have hP : va_P D vwCl (X ++ [(b, .inr (5, [.ref q1, .ref q2, .ref q5, .null, .null, .int 0, .null, .int 0, .int 0])), (q1, .inr (2, [.int (1), .int (0), .int (0), .int (1)])), (q2, .inr (0, [.ref q3, .ref q4, .int (0)])), (q3, .inl (cy 2, 500, .inl (fun _ => 0))), (q4, .inl (cy 0, 500, .inr (.inl (fun _ => 0)))), (q5, .inl (cy 0, 500, .inr (.inl (fun _ => 0))))]) H := hP
  have hD : va_D (fun q => bs ≤ q) (X ++ [(b, .inr (5, [.ref q1, .ref q2, .ref q5, .null, .null, .int 0, .null, .int 0, .int 0])), (q1, .inr (2, [.int (1), .int (0), .int (0), .int (1)])), (q2, .inr (0, [.ref q3, .ref q4, .int (0)])), (q3, .inl (cy 2, 500, .inl (fun _ => 0))), (q4, .inl (cy 0, 500, .inr (.inl (fun _ => 0)))), (q5, .inl (cy 0, 500, .inr (.inl (fun _ => 0))))]) := hD
  refine lv_aload_n hx hb dX6_init_35 rfl (lv_at hl 0 rfl) ?_
  refine lv_sipush (v := (300 : Int32)) hx hb dX6_init_36 (by decide) ?_
  refine va_newa (atype := .byte) hx hb (hts (.arrayClass .byte) (by decide +kernel)) rfl hK hP hD hS hA (a0 := (300, .inl (fun _ => 0))) (fun _ => rfl) (by decide) (by decide) (Nat.le_of_ble_eq_true rfl) (Nat.le_of_ble_eq_true rfl) (Nat.le_of_ble_eq_true rfl) dX6_init_39 (fun q6 cA H hK1 hP hD hS => ?_)
  have ec : cA = cy 1 := Option.some.inj ((va_nm_byte (hK1.2 3 _ rfl).2).symm.trans (va_nm_byte (hK.2 1 _ rfl).2))
  subst ec
  rw [List.append_assoc] at hP hD
  have hP : va_P D vwCl (X ++ [(b, .inr (5, [.ref q1, .ref q2, .ref q5, .null, .null, .int 0, .null, .int 0, .int 0])), (q1, .inr (2, [.int (1), .int (0), .int (0), .int (1)])), (q2, .inr (0, [.ref q3, .ref q4, .int (0)])), (q3, .inl (cy 2, 500, .inl (fun _ => 0))), (q4, .inl (cy 0, 500, .inr (.inl (fun _ => 0)))), (q5, .inl (cy 0, 500, .inr (.inl (fun _ => 0)))), (q6, .inl (cy 1, 300, .inl (fun _ => 0)))]) H := hP
  have hD : va_D (fun q => bs ≤ q) (X ++ [(b, .inr (5, [.ref q1, .ref q2, .ref q5, .null, .null, .int 0, .null, .int 0, .int 0])), (q1, .inr (2, [.int (1), .int (0), .int (0), .int (1)])), (q2, .inr (0, [.ref q3, .ref q4, .int (0)])), (q3, .inl (cy 2, 500, .inl (fun _ => 0))), (q4, .inl (cy 0, 500, .inr (.inl (fun _ => 0)))), (q5, .inl (cy 0, 500, .inr (.inl (fun _ => 0)))), (q6, .inl (cy 1, 300, .inl (fun _ => 0)))]) := hD
  refine W.widen (k := 6) (n := 1807) (Nat.le_of_ble_eq_true rfl) (Nat.le_of_ble_eq_true rfl) ?_
  refine va_putF (D := D) (ci := 5) (v := .ref q6) (ty := .array .byte) (C := RX6) (T := TX6) (N := 9) hx hb hts in_X6_init_X6 tyX6 tyX6_ok nmX6 hown hK hP hD hS (X.length + 0) (xg 0 rfl) rfl 3 (by decide) (hts (.fieldLink RX6 27 "SawSums" "tape" "[B") (by decide +kernel)) (fun _ h9 => h9) rfl hin rfl (by decide +kernel) rfl rfl (Nat.le_of_ble_eq_true rfl) dX6_init_41 (fun H locs hP hD hS => ?_)
  rw [xs] at hP hD
  have hP : va_P D vwCl (X ++ [(b, .inr (5, [.ref q1, .ref q2, .ref q5, .ref q6, .null, .int 0, .null, .int 0, .int 0])), (q1, .inr (2, [.int (1), .int (0), .int (0), .int (1)])), (q2, .inr (0, [.ref q3, .ref q4, .int (0)])), (q3, .inl (cy 2, 500, .inl (fun _ => 0))), (q4, .inl (cy 0, 500, .inr (.inl (fun _ => 0)))), (q5, .inl (cy 0, 500, .inr (.inl (fun _ => 0)))), (q6, .inl (cy 1, 300, .inl (fun _ => 0)))]) H := hP
  have hD : va_D (fun q => bs ≤ q) (X ++ [(b, .inr (5, [.ref q1, .ref q2, .ref q5, .ref q6, .null, .int 0, .null, .int 0, .int 0])), (q1, .inr (2, [.int (1), .int (0), .int (0), .int (1)])), (q2, .inr (0, [.ref q3, .ref q4, .int (0)])), (q3, .inl (cy 2, 500, .inl (fun _ => 0))), (q4, .inl (cy 0, 500, .inr (.inl (fun _ => 0)))), (q5, .inl (cy 0, 500, .inr (.inl (fun _ => 0)))), (q6, .inl (cy 1, 300, .inl (fun _ => 0)))]) := hD
  refine lv_aload_n hx hb dX6_init_44 rfl (lv_at hl 0 rfl) ?_
  refine va_new (ci := 3) (fs := [.null, .null, .null, .int 0, .int 0, .int 0, .int 0, .int 0]) (C := RX3) (T := TX3) (N := 8) hx hb hts in_X6_init_X3 tyX3 tyX3_ok hown (hts (.classLink RX6 31 RX3) (by decide +kernel)) (hts (.instantiable RX3 8) (by decide +kernel)) (hts (.initialized RX3) (by decide +kernel)) hK hP hD hS hA rfl (fun j hj => by rcases (show j = 0 ∨ j = 1 ∨ j = 2 ∨ j = 3 ∨ j = 4 ∨ j = 5 ∨ j = 6 ∨ j = 7 by omega) with rfl | rfl | rfl | rfl | rfl | rfl | rfl | rfl <;> rfl) (Nat.le_of_ble_eq_true rfl) (Nat.le_of_ble_eq_true rfl) dX6_init_45 (fun q7 H hP hD hS => ?_)
  rw [List.append_assoc] at hP hD
  have hP : va_P D vwCl (X ++ [(b, .inr (5, [.ref q1, .ref q2, .ref q5, .ref q6, .null, .int 0, .null, .int 0, .int 0])), (q1, .inr (2, [.int (1), .int (0), .int (0), .int (1)])), (q2, .inr (0, [.ref q3, .ref q4, .int (0)])), (q3, .inl (cy 2, 500, .inl (fun _ => 0))), (q4, .inl (cy 0, 500, .inr (.inl (fun _ => 0)))), (q5, .inl (cy 0, 500, .inr (.inl (fun _ => 0)))), (q6, .inl (cy 1, 300, .inl (fun _ => 0))), (q7, .inr (3, [.null, .null, .null, .int 0, .int 0, .int 0, .int 0, .int 0]))]) H := hP
  have hD : va_D (fun q => bs ≤ q) (X ++ [(b, .inr (5, [.ref q1, .ref q2, .ref q5, .ref q6, .null, .int 0, .null, .int 0, .int 0])), (q1, .inr (2, [.int (1), .int (0), .int (0), .int (1)])), (q2, .inr (0, [.ref q3, .ref q4, .int (0)])), (q3, .inl (cy 2, 500, .inl (fun _ => 0))), (q4, .inl (cy 0, 500, .inr (.inl (fun _ => 0)))), (q5, .inl (cy 0, 500, .inr (.inl (fun _ => 0)))), (q6, .inl (cy 1, 300, .inl (fun _ => 0))), (q7, .inr (3, [.null, .null, .null, .int 0, .int 0, .int 0, .int 0, .int 0]))]) := hD
  refine W.widen (k := 7) (n := 1815) (Nat.le_of_ble_eq_true rfl) (Nat.le_of_ble_eq_true rfl) ?_
  refine lv_dup hx hb dX6_init_48 rfl ?_
  refine lv_aload_n hx hb dX6_init_49 rfl (lv_at hl 0 rfl) ?_
  refine va_get (D := D) (ci := 5) (v := .ref q6) (C := RX6) (T := TX6) (N := 9) hx hb hts in_X6_init_X6 hown hK hP (X.length + 0) (xg 0 rfl) rfl 3 (by decide) (hts (.fieldLink RX6 27 "SawSums" "tape" "[B") (by decide +kernel)) (fun _ h9 => h9) rfl dX6_init_50 ?_
  refine lv_aload_n hx hb dX6_init_53 rfl (lv_at hl 0 rfl) ?_
  refine va_get (D := D) (ci := 5) (v := .ref q1) (C := RX6) (T := TX6) (N := 9) hx hb hts in_X6_init_X6 hown hK hP (X.length + 0) (xg 0 rfl) rfl 0 (by decide) (hts (.fieldLink RX6 10 "SawSums" "matrix" "LSawSums$Matrix;") (by decide +kernel)) (fun _ h9 => h9) rfl dX6_init_54 ?_
  have hP2 : va_P D vwCl ((X ++ [(b, .inr (5, [.ref q1, .ref q2, .ref q5, .ref q6, .null, .int 0, .null, .int 0, .int 0])), (q1, .inr (2, [.int (1), .int (0), .int (0), .int (1)])), (q2, .inr (0, [.ref q3, .ref q4, .int (0)])), (q3, .inl (cy 2, 500, .inl (fun _ => 0))), (q4, .inl (cy 0, 500, .inr (.inl (fun _ => 0)))), (q5, .inl (cy 0, 500, .inr (.inl (fun _ => 0)))), (q6, .inl (cy 1, 300, .inl (fun _ => 0)))]) ++ [(q7, .inr (3, [.null, .null, .null, .int 0, .int 0, .int 0, .int 0, .int 0]))]) H := by rw [List.append_assoc]; exact hP
  have hD2 : va_D (fun q => bs ≤ q) ((X ++ [(b, .inr (5, [.ref q1, .ref q2, .ref q5, .ref q6, .null, .int 0, .null, .int 0, .int 0])), (q1, .inr (2, [.int (1), .int (0), .int (0), .int (1)])), (q2, .inr (0, [.ref q3, .ref q4, .int (0)])), (q3, .inl (cy 2, 500, .inl (fun _ => 0))), (q4, .inl (cy 0, 500, .inr (.inl (fun _ => 0)))), (q5, .inl (cy 0, 500, .inr (.inl (fun _ => 0)))), (q6, .inl (cy 1, 300, .inl (fun _ => 0)))]) ++ [(q7, .inr (3, [.null, .null, .null, .int 0, .int 0, .int 0, .int 0, .int 0]))]) := by rw [List.append_assoc]; exact hD
  refine ji_I (rest := [.ref q7, .ref b]) ⟨hx, hb, hml, hown, hts⟩ hN hK hP2 hD2 hS (c_X3_init l D cy bs (X ++ [(b, .inr (5, [.ref q1, .ref q2, .ref q5, .ref q6, .null, .int 0, .null, .int 0, .int 0])), (q1, .inr (2, [.int (1), .int (0), .int (0), .int (1)])), (q2, .inr (0, [.ref q3, .ref q4, .int (0)])), (q3, .inl (cy 2, 500, .inl (fun _ => 0))), (q4, .inl (cy 0, 500, .inr (.inl (fun _ => 0)))), (q5, .inl (cy 0, 500, .inr (.inl (fun _ => 0)))), (q6, .inl (cy 1, 300, .inl (fun _ => 0)))]) q7 q6 q1) (cwI 2 hts gX6_init_X3_init rfl rfl rfl (hts (.initialized RX3) (by decide +kernel)) (hts (.methodLink RX6 33 yX3_init) (by decide +kernel)) (hts (.instanceMethod yX3_init) (by decide +kernel)) rfl (by decide +kernel) ⟨(Nat.le_of_ble_eq_true rfl), (Nat.le_of_ble_eq_true rfl)⟩) rfl hl.1 rfl (Nat.le_of_ble_eq_true rfl) dX6_init_57 ⟨(Nat.le_of_ble_eq_true rfl), (Nat.le_of_ble_eq_true rfl)⟩ (fun w1 H locs hB hP hD hS => ?_)
  obtain ⟨q8, q9, q10, q11, q12, rfl⟩ := hB
  rw [List.append_assoc] at hP hD
  have hP : va_P D vwCl (X ++ [(b, .inr (5, [.ref q1, .ref q2, .ref q5, .ref q6, .null, .int 0, .null, .int 0, .int 0])), (q1, .inr (2, [.int (1), .int (0), .int (0), .int (1)])), (q2, .inr (0, [.ref q3, .ref q4, .int (0)])), (q3, .inl (cy 2, 500, .inl (fun _ => 0))), (q4, .inl (cy 0, 500, .inr (.inl (fun _ => 0)))), (q5, .inl (cy 0, 500, .inr (.inl (fun _ => 0)))), (q6, .inl (cy 1, 300, .inl (fun _ => 0))), (q7, .inr (3, [.ref q8, .ref q1, .ref q12, .int (0), .int (-1), .int (0), .int (0), .int (0)])), (q8, .inr (4, [.ref q6, .ref q9, .ref q10, .ref q11, .int (0), .int (0)])), (q9, .inl (cy 2, 301, .inl (fun _ => 0))), (q10, .inl (cy 2, 301, .inl (fun _ => 0))), (q11, .inl (cy 2, 301, .inl (fun _ => 0))), (q12, .inr (1, [.long 0, .long 1]))]) H := hP
  have hD : va_D (fun q => bs ≤ q) (X ++ [(b, .inr (5, [.ref q1, .ref q2, .ref q5, .ref q6, .null, .int 0, .null, .int 0, .int 0])), (q1, .inr (2, [.int (1), .int (0), .int (0), .int (1)])), (q2, .inr (0, [.ref q3, .ref q4, .int (0)])), (q3, .inl (cy 2, 500, .inl (fun _ => 0))), (q4, .inl (cy 0, 500, .inr (.inl (fun _ => 0)))), (q5, .inl (cy 0, 500, .inr (.inl (fun _ => 0)))), (q6, .inl (cy 1, 300, .inl (fun _ => 0))), (q7, .inr (3, [.ref q8, .ref q1, .ref q12, .int (0), .int (-1), .int (0), .int (0), .int (0)])), (q8, .inr (4, [.ref q6, .ref q9, .ref q10, .ref q11, .int (0), .int (0)])), (q9, .inl (cy 2, 301, .inl (fun _ => 0))), (q10, .inl (cy 2, 301, .inl (fun _ => 0))), (q11, .inl (cy 2, 301, .inl (fun _ => 0))), (q12, .inr (1, [.long 0, .long 1]))]) := hD
  refine W.widen (k := 12) (n := 2726) (Nat.le_of_ble_eq_true rfl) (Nat.le_of_ble_eq_true rfl) ?_
  refine va_putF (D := D) (ci := 5) (v := .ref q7) (ty := .object "SawSums$Reader") (C := RX6) (T := TX6) (N := 9) hx hb hts in_X6_init_X6 tyX6 tyX6_ok nmX6 hown hK hP hD hS (X.length + 0) (xg 0 rfl) rfl 4 (by decide) (hts (.fieldLink RX6 36 "SawSums" "reader" "LSawSums$Reader;") (by decide +kernel)) (fun _ h9 => h9) rfl hin rfl (by decide +kernel) rfl rfl (Nat.le_of_ble_eq_true rfl) dX6_init_60 (fun H locs hP hD hS => ?_)
  rw [xs] at hP hD
  have hP : va_P D vwCl (X ++ [(b, .inr (5, [.ref q1, .ref q2, .ref q5, .ref q6, .ref q7, .int 0, .null, .int 0, .int 0])), (q1, .inr (2, [.int (1), .int (0), .int (0), .int (1)])), (q2, .inr (0, [.ref q3, .ref q4, .int (0)])), (q3, .inl (cy 2, 500, .inl (fun _ => 0))), (q4, .inl (cy 0, 500, .inr (.inl (fun _ => 0)))), (q5, .inl (cy 0, 500, .inr (.inl (fun _ => 0)))), (q6, .inl (cy 1, 300, .inl (fun _ => 0))), (q7, .inr (3, [.ref q8, .ref q1, .ref q12, .int (0), .int (-1), .int (0), .int (0), .int (0)])), (q8, .inr (4, [.ref q6, .ref q9, .ref q10, .ref q11, .int (0), .int (0)])), (q9, .inl (cy 2, 301, .inl (fun _ => 0))), (q10, .inl (cy 2, 301, .inl (fun _ => 0))), (q11, .inl (cy 2, 301, .inl (fun _ => 0))), (q12, .inr (1, [.long 0, .long 1]))]) H := hP
  have hD : va_D (fun q => bs ≤ q) (X ++ [(b, .inr (5, [.ref q1, .ref q2, .ref q5, .ref q6, .ref q7, .int 0, .null, .int 0, .int 0])), (q1, .inr (2, [.int (1), .int (0), .int (0), .int (1)])), (q2, .inr (0, [.ref q3, .ref q4, .int (0)])), (q3, .inl (cy 2, 500, .inl (fun _ => 0))), (q4, .inl (cy 0, 500, .inr (.inl (fun _ => 0)))), (q5, .inl (cy 0, 500, .inr (.inl (fun _ => 0)))), (q6, .inl (cy 1, 300, .inl (fun _ => 0))), (q7, .inr (3, [.ref q8, .ref q1, .ref q12, .int (0), .int (-1), .int (0), .int (0), .int (0)])), (q8, .inr (4, [.ref q6, .ref q9, .ref q10, .ref q11, .int (0), .int (0)])), (q9, .inl (cy 2, 301, .inl (fun _ => 0))), (q10, .inl (cy 2, 301, .inl (fun _ => 0))), (q11, .inl (cy 2, 301, .inl (fun _ => 0))), (q12, .inr (1, [.long 0, .long 1]))]) := hD
  refine lv_aload_n hx hb dX6_init_63 rfl (lv_at hl 0 rfl) ?_
  refine lv_iconst (v := (0 : Int32)) hx hb dX6_init_64 (by decide) ?_
  refine va_put (D := D) (ci := 5) (v := .int (0)) (ty := .int) (C := RX6) (T := TX6) (N := 9) hx hb hts in_X6_init_X6 tyX6 tyX6_ok nmX6 hown hK hP hD hS (X.length + 0) (xg 0 rfl) rfl 5 (by decide) (hts (.fieldLink RX6 40 "SawSums" "tapeLength" "I") (by decide +kernel)) (fun _ h9 => h9) rfl (by decide +kernel) rfl rfl (Nat.le_of_ble_eq_true rfl) dX6_init_65 (fun H locs hP hD hS => ?_)
  rw [xs] at hP hD
  have hP : va_P D vwCl (X ++ [(b, .inr (5, [.ref q1, .ref q2, .ref q5, .ref q6, .ref q7, .int (0), .null, .int 0, .int 0])), (q1, .inr (2, [.int (1), .int (0), .int (0), .int (1)])), (q2, .inr (0, [.ref q3, .ref q4, .int (0)])), (q3, .inl (cy 2, 500, .inl (fun _ => 0))), (q4, .inl (cy 0, 500, .inr (.inl (fun _ => 0)))), (q5, .inl (cy 0, 500, .inr (.inl (fun _ => 0)))), (q6, .inl (cy 1, 300, .inl (fun _ => 0))), (q7, .inr (3, [.ref q8, .ref q1, .ref q12, .int (0), .int (-1), .int (0), .int (0), .int (0)])), (q8, .inr (4, [.ref q6, .ref q9, .ref q10, .ref q11, .int (0), .int (0)])), (q9, .inl (cy 2, 301, .inl (fun _ => 0))), (q10, .inl (cy 2, 301, .inl (fun _ => 0))), (q11, .inl (cy 2, 301, .inl (fun _ => 0))), (q12, .inr (1, [.long 0, .long 1]))]) H := hP
  have hD : va_D (fun q => bs ≤ q) (X ++ [(b, .inr (5, [.ref q1, .ref q2, .ref q5, .ref q6, .ref q7, .int (0), .null, .int 0, .int 0])), (q1, .inr (2, [.int (1), .int (0), .int (0), .int (1)])), (q2, .inr (0, [.ref q3, .ref q4, .int (0)])), (q3, .inl (cy 2, 500, .inl (fun _ => 0))), (q4, .inl (cy 0, 500, .inr (.inl (fun _ => 0)))), (q5, .inl (cy 0, 500, .inr (.inl (fun _ => 0)))), (q6, .inl (cy 1, 300, .inl (fun _ => 0))), (q7, .inr (3, [.ref q8, .ref q1, .ref q12, .int (0), .int (-1), .int (0), .int (0), .int (0)])), (q8, .inr (4, [.ref q6, .ref q9, .ref q10, .ref q11, .int (0), .int (0)])), (q9, .inl (cy 2, 301, .inl (fun _ => 0))), (q10, .inl (cy 2, 301, .inl (fun _ => 0))), (q11, .inl (cy 2, 301, .inl (fun _ => 0))), (q12, .inr (1, [.long 0, .long 1]))]) := hD
  refine lv_aload_n hx hb dX6_init_68 rfl (lv_at hl 0 rfl) ?_
  refine va_new (ci := 1) (fs := [.long 0, .long 0]) (C := RX1) (T := TX1) (N := 2) hx hb hts in_X6_init_X1 tyX1 tyX1_ok hown (hts (.classLink RX6 44 RX1) (by decide +kernel)) (hts (.instantiable RX1 2) (by decide +kernel)) (hts (.initialized RX1) (by decide +kernel)) hK hP hD hS hA rfl (fun j hj => by rcases (show j = 0 ∨ j = 1 by omega) with rfl | rfl <;> rfl) (Nat.le_of_ble_eq_true rfl) (Nat.le_of_ble_eq_true rfl) dX6_init_69 (fun q13 H hP hD hS => ?_)
  rw [List.append_assoc] at hP hD
  have hP : va_P D vwCl (X ++ [(b, .inr (5, [.ref q1, .ref q2, .ref q5, .ref q6, .ref q7, .int (0), .null, .int 0, .int 0])), (q1, .inr (2, [.int (1), .int (0), .int (0), .int (1)])), (q2, .inr (0, [.ref q3, .ref q4, .int (0)])), (q3, .inl (cy 2, 500, .inl (fun _ => 0))), (q4, .inl (cy 0, 500, .inr (.inl (fun _ => 0)))), (q5, .inl (cy 0, 500, .inr (.inl (fun _ => 0)))), (q6, .inl (cy 1, 300, .inl (fun _ => 0))), (q7, .inr (3, [.ref q8, .ref q1, .ref q12, .int (0), .int (-1), .int (0), .int (0), .int (0)])), (q8, .inr (4, [.ref q6, .ref q9, .ref q10, .ref q11, .int (0), .int (0)])), (q9, .inl (cy 2, 301, .inl (fun _ => 0))), (q10, .inl (cy 2, 301, .inl (fun _ => 0))), (q11, .inl (cy 2, 301, .inl (fun _ => 0))), (q12, .inr (1, [.long 0, .long 1])), (q13, .inr (1, [.long 0, .long 0]))]) H := hP
  have hD : va_D (fun q => bs ≤ q) (X ++ [(b, .inr (5, [.ref q1, .ref q2, .ref q5, .ref q6, .ref q7, .int (0), .null, .int 0, .int 0])), (q1, .inr (2, [.int (1), .int (0), .int (0), .int (1)])), (q2, .inr (0, [.ref q3, .ref q4, .int (0)])), (q3, .inl (cy 2, 500, .inl (fun _ => 0))), (q4, .inl (cy 0, 500, .inr (.inl (fun _ => 0)))), (q5, .inl (cy 0, 500, .inr (.inl (fun _ => 0)))), (q6, .inl (cy 1, 300, .inl (fun _ => 0))), (q7, .inr (3, [.ref q8, .ref q1, .ref q12, .int (0), .int (-1), .int (0), .int (0), .int (0)])), (q8, .inr (4, [.ref q6, .ref q9, .ref q10, .ref q11, .int (0), .int (0)])), (q9, .inl (cy 2, 301, .inl (fun _ => 0))), (q10, .inl (cy 2, 301, .inl (fun _ => 0))), (q11, .inl (cy 2, 301, .inl (fun _ => 0))), (q12, .inr (1, [.long 0, .long 1])), (q13, .inr (1, [.long 0, .long 0]))]) := hD
  refine W.widen (k := 13) (n := 2728) (Nat.le_of_ble_eq_true rfl) (Nat.le_of_ble_eq_true rfl) ?_
  refine lv_dup hx hb dX6_init_72 rfl ?_
  refine lv_lconst (v := (0 : Int64)) hx hb dX6_init_73 (by decide) ?_
  refine lv_lconst (v := (1 : Int64)) hx hb dX6_init_74 (by decide) ?_
  have hP2 : va_P D vwCl ((X ++ [(b, .inr (5, [.ref q1, .ref q2, .ref q5, .ref q6, .ref q7, .int (0), .null, .int 0, .int 0])), (q1, .inr (2, [.int (1), .int (0), .int (0), .int (1)])), (q2, .inr (0, [.ref q3, .ref q4, .int (0)])), (q3, .inl (cy 2, 500, .inl (fun _ => 0))), (q4, .inl (cy 0, 500, .inr (.inl (fun _ => 0)))), (q5, .inl (cy 0, 500, .inr (.inl (fun _ => 0)))), (q6, .inl (cy 1, 300, .inl (fun _ => 0))), (q7, .inr (3, [.ref q8, .ref q1, .ref q12, .int (0), .int (-1), .int (0), .int (0), .int (0)])), (q8, .inr (4, [.ref q6, .ref q9, .ref q10, .ref q11, .int (0), .int (0)])), (q9, .inl (cy 2, 301, .inl (fun _ => 0))), (q10, .inl (cy 2, 301, .inl (fun _ => 0))), (q11, .inl (cy 2, 301, .inl (fun _ => 0))), (q12, .inr (1, [.long 0, .long 1]))]) ++ [(q13, .inr (1, [.long 0, .long 0]))]) H := by rw [List.append_assoc]; exact hP
  have hD2 : va_D (fun q => bs ≤ q) ((X ++ [(b, .inr (5, [.ref q1, .ref q2, .ref q5, .ref q6, .ref q7, .int (0), .null, .int 0, .int 0])), (q1, .inr (2, [.int (1), .int (0), .int (0), .int (1)])), (q2, .inr (0, [.ref q3, .ref q4, .int (0)])), (q3, .inl (cy 2, 500, .inl (fun _ => 0))), (q4, .inl (cy 0, 500, .inr (.inl (fun _ => 0)))), (q5, .inl (cy 0, 500, .inr (.inl (fun _ => 0)))), (q6, .inl (cy 1, 300, .inl (fun _ => 0))), (q7, .inr (3, [.ref q8, .ref q1, .ref q12, .int (0), .int (-1), .int (0), .int (0), .int (0)])), (q8, .inr (4, [.ref q6, .ref q9, .ref q10, .ref q11, .int (0), .int (0)])), (q9, .inl (cy 2, 301, .inl (fun _ => 0))), (q10, .inl (cy 2, 301, .inl (fun _ => 0))), (q11, .inl (cy 2, 301, .inl (fun _ => 0))), (q12, .inr (1, [.long 0, .long 1]))]) ++ [(q13, .inr (1, [.long 0, .long 0]))]) := by rw [List.append_assoc]; exact hD
  refine ji_I (rest := [.ref q13, .ref b]) ⟨hx, hb, hml, hown, hts⟩ hN hK hP2 hD2 hS (c_X1_init1 l D cy bs (X ++ [(b, .inr (5, [.ref q1, .ref q2, .ref q5, .ref q6, .ref q7, .int (0), .null, .int 0, .int 0])), (q1, .inr (2, [.int (1), .int (0), .int (0), .int (1)])), (q2, .inr (0, [.ref q3, .ref q4, .int (0)])), (q3, .inl (cy 2, 500, .inl (fun _ => 0))), (q4, .inl (cy 0, 500, .inr (.inl (fun _ => 0)))), (q5, .inl (cy 0, 500, .inr (.inl (fun _ => 0)))), (q6, .inl (cy 1, 300, .inl (fun _ => 0))), (q7, .inr (3, [.ref q8, .ref q1, .ref q12, .int (0), .int (-1), .int (0), .int (0), .int (0)])), (q8, .inr (4, [.ref q6, .ref q9, .ref q10, .ref q11, .int (0), .int (0)])), (q9, .inl (cy 2, 301, .inl (fun _ => 0))), (q10, .inl (cy 2, 301, .inl (fun _ => 0))), (q11, .inl (cy 2, 301, .inl (fun _ => 0))), (q12, .inr (1, [.long 0, .long 1]))]) q13 0 1 (0, 1) f01) (cwI 2 hts gX6_init_X1_init rfl rfl rfl (hts (.initialized RX1) (by decide +kernel)) (hts (.methodLink RX6 46 yX1_init) (by decide +kernel)) (hts (.instanceMethod yX1_init) (by decide +kernel)) rfl (by decide +kernel) ⟨(Nat.le_of_ble_eq_true rfl), (Nat.le_of_ble_eq_true rfl)⟩) rfl hl.1 rfl (Nat.le_of_ble_eq_true rfl) dX6_init_75 ⟨(Nat.le_of_ble_eq_true rfl), (Nat.le_of_ble_eq_true rfl)⟩ (fun w1 H locs hB hP hD hS => ?_)
  obtain ⟨rfl⟩ := hB
  rw [List.append_assoc] at hP hD
  have hP : va_P D vwCl (X ++ [(b, .inr (5, [.ref q1, .ref q2, .ref q5, .ref q6, .ref q7, .int (0), .null, .int 0, .int 0])), (q1, .inr (2, [.int (1), .int (0), .int (0), .int (1)])), (q2, .inr (0, [.ref q3, .ref q4, .int (0)])), (q3, .inl (cy 2, 500, .inl (fun _ => 0))), (q4, .inl (cy 0, 500, .inr (.inl (fun _ => 0)))), (q5, .inl (cy 0, 500, .inr (.inl (fun _ => 0)))), (q6, .inl (cy 1, 300, .inl (fun _ => 0))), (q7, .inr (3, [.ref q8, .ref q1, .ref q12, .int (0), .int (-1), .int (0), .int (0), .int (0)])), (q8, .inr (4, [.ref q6, .ref q9, .ref q10, .ref q11, .int (0), .int (0)])), (q9, .inl (cy 2, 301, .inl (fun _ => 0))), (q10, .inl (cy 2, 301, .inl (fun _ => 0))), (q11, .inl (cy 2, 301, .inl (fun _ => 0))), (q12, .inr (1, [.long 0, .long 1])), (q13, .inr (1, [.long 0, .long 1]))]) H := hP
  have hD : va_D (fun q => bs ≤ q) (X ++ [(b, .inr (5, [.ref q1, .ref q2, .ref q5, .ref q6, .ref q7, .int (0), .null, .int 0, .int 0])), (q1, .inr (2, [.int (1), .int (0), .int (0), .int (1)])), (q2, .inr (0, [.ref q3, .ref q4, .int (0)])), (q3, .inl (cy 2, 500, .inl (fun _ => 0))), (q4, .inl (cy 0, 500, .inr (.inl (fun _ => 0)))), (q5, .inl (cy 0, 500, .inr (.inl (fun _ => 0)))), (q6, .inl (cy 1, 300, .inl (fun _ => 0))), (q7, .inr (3, [.ref q8, .ref q1, .ref q12, .int (0), .int (-1), .int (0), .int (0), .int (0)])), (q8, .inr (4, [.ref q6, .ref q9, .ref q10, .ref q11, .int (0), .int (0)])), (q9, .inl (cy 2, 301, .inl (fun _ => 0))), (q10, .inl (cy 2, 301, .inl (fun _ => 0))), (q11, .inl (cy 2, 301, .inl (fun _ => 0))), (q12, .inr (1, [.long 0, .long 1])), (q13, .inr (1, [.long 0, .long 1]))]) := hD
  refine W.widen (k := 13) (n := 2728) (Nat.le_of_ble_eq_true rfl) (Nat.le_of_ble_eq_true rfl) ?_
  refine va_put (D := D) (ci := 5) (v := .ref q13) (ty := .object "SawSums$Fraction") (C := RX6) (T := TX6) (N := 9) hx hb hts in_X6_init_X6 tyX6 tyX6_ok nmX6 hown hK hP hD hS (X.length + 0) (xg 0 rfl) rfl 6 (by decide) (hts (.fieldLink RX6 49 "SawSums" "latest" "LSawSums$Fraction;") (by decide +kernel)) (fun _ h9 => h9) rfl (by decide +kernel) rfl rfl (Nat.le_of_ble_eq_true rfl) dX6_init_78 (fun H locs hP hD hS => ?_)
  rw [xs] at hP hD
  have hP : va_P D vwCl (X ++ [(b, .inr (5, [.ref q1, .ref q2, .ref q5, .ref q6, .ref q7, .int (0), .ref q13, .int 0, .int 0])), (q1, .inr (2, [.int (1), .int (0), .int (0), .int (1)])), (q2, .inr (0, [.ref q3, .ref q4, .int (0)])), (q3, .inl (cy 2, 500, .inl (fun _ => 0))), (q4, .inl (cy 0, 500, .inr (.inl (fun _ => 0)))), (q5, .inl (cy 0, 500, .inr (.inl (fun _ => 0)))), (q6, .inl (cy 1, 300, .inl (fun _ => 0))), (q7, .inr (3, [.ref q8, .ref q1, .ref q12, .int (0), .int (-1), .int (0), .int (0), .int (0)])), (q8, .inr (4, [.ref q6, .ref q9, .ref q10, .ref q11, .int (0), .int (0)])), (q9, .inl (cy 2, 301, .inl (fun _ => 0))), (q10, .inl (cy 2, 301, .inl (fun _ => 0))), (q11, .inl (cy 2, 301, .inl (fun _ => 0))), (q12, .inr (1, [.long 0, .long 1])), (q13, .inr (1, [.long 0, .long 1]))]) H := hP
  have hD : va_D (fun q => bs ≤ q) (X ++ [(b, .inr (5, [.ref q1, .ref q2, .ref q5, .ref q6, .ref q7, .int (0), .ref q13, .int 0, .int 0])), (q1, .inr (2, [.int (1), .int (0), .int (0), .int (1)])), (q2, .inr (0, [.ref q3, .ref q4, .int (0)])), (q3, .inl (cy 2, 500, .inl (fun _ => 0))), (q4, .inl (cy 0, 500, .inr (.inl (fun _ => 0)))), (q5, .inl (cy 0, 500, .inr (.inl (fun _ => 0)))), (q6, .inl (cy 1, 300, .inl (fun _ => 0))), (q7, .inr (3, [.ref q8, .ref q1, .ref q12, .int (0), .int (-1), .int (0), .int (0), .int (0)])), (q8, .inr (4, [.ref q6, .ref q9, .ref q10, .ref q11, .int (0), .int (0)])), (q9, .inl (cy 2, 301, .inl (fun _ => 0))), (q10, .inl (cy 2, 301, .inl (fun _ => 0))), (q11, .inl (cy 2, 301, .inl (fun _ => 0))), (q12, .inr (1, [.long 0, .long 1])), (q13, .inr (1, [.long 0, .long 1]))]) := hD
  refine lv_aload_n hx hb dX6_init_81 rfl (lv_at hl 0 rfl) ?_
  refine lv_iconst (v := (0 : Int32)) hx hb dX6_init_82 (by decide) ?_
  refine va_put (D := D) (ci := 5) (v := .int (0)) (ty := .int) (C := RX6) (T := TX6) (N := 9) hx hb hts in_X6_init_X6 tyX6 tyX6_ok nmX6 hown hK hP hD hS (X.length + 0) (xg 0 rfl) rfl 7 (by decide) (hts (.fieldLink RX6 53 "SawSums" "sumsTold" "I") (by decide +kernel)) (fun _ h9 => h9) rfl (by decide +kernel) rfl rfl (Nat.le_of_ble_eq_true rfl) dX6_init_83 (fun H locs hP hD hS => ?_)
  rw [xs] at hP hD
  have hP : va_P D vwCl (X ++ [(b, .inr (5, [.ref q1, .ref q2, .ref q5, .ref q6, .ref q7, .int (0), .ref q13, .int (0), .int 0])), (q1, .inr (2, [.int (1), .int (0), .int (0), .int (1)])), (q2, .inr (0, [.ref q3, .ref q4, .int (0)])), (q3, .inl (cy 2, 500, .inl (fun _ => 0))), (q4, .inl (cy 0, 500, .inr (.inl (fun _ => 0)))), (q5, .inl (cy 0, 500, .inr (.inl (fun _ => 0)))), (q6, .inl (cy 1, 300, .inl (fun _ => 0))), (q7, .inr (3, [.ref q8, .ref q1, .ref q12, .int (0), .int (-1), .int (0), .int (0), .int (0)])), (q8, .inr (4, [.ref q6, .ref q9, .ref q10, .ref q11, .int (0), .int (0)])), (q9, .inl (cy 2, 301, .inl (fun _ => 0))), (q10, .inl (cy 2, 301, .inl (fun _ => 0))), (q11, .inl (cy 2, 301, .inl (fun _ => 0))), (q12, .inr (1, [.long 0, .long 1])), (q13, .inr (1, [.long 0, .long 1]))]) H := hP
  have hD : va_D (fun q => bs ≤ q) (X ++ [(b, .inr (5, [.ref q1, .ref q2, .ref q5, .ref q6, .ref q7, .int (0), .ref q13, .int (0), .int 0])), (q1, .inr (2, [.int (1), .int (0), .int (0), .int (1)])), (q2, .inr (0, [.ref q3, .ref q4, .int (0)])), (q3, .inl (cy 2, 500, .inl (fun _ => 0))), (q4, .inl (cy 0, 500, .inr (.inl (fun _ => 0)))), (q5, .inl (cy 0, 500, .inr (.inl (fun _ => 0)))), (q6, .inl (cy 1, 300, .inl (fun _ => 0))), (q7, .inr (3, [.ref q8, .ref q1, .ref q12, .int (0), .int (-1), .int (0), .int (0), .int (0)])), (q8, .inr (4, [.ref q6, .ref q9, .ref q10, .ref q11, .int (0), .int (0)])), (q9, .inl (cy 2, 301, .inl (fun _ => 0))), (q10, .inl (cy 2, 301, .inl (fun _ => 0))), (q11, .inl (cy 2, 301, .inl (fun _ => 0))), (q12, .inr (1, [.long 0, .long 1])), (q13, .inr (1, [.long 0, .long 1]))]) := hD
  refine lv_aload_n hx hb dX6_init_86 rfl (lv_at hl 0 rfl) ?_
  refine lv_iconst (v := (0 : Int32)) hx hb dX6_init_87 (by decide) ?_
  refine va_put (D := D) (ci := 5) (v := .int (0)) (ty := .int) (C := RX6) (T := TX6) (N := 9) hx hb hts in_X6_init_X6 tyX6 tyX6_ok nmX6 hown hK hP hD hS (X.length + 0) (xg 0 rfl) rfl 8 (by decide) (hts (.fieldLink RX6 56 "SawSums" "sawSumsInLatest" "I") (by decide +kernel)) (fun _ h9 => h9) rfl (by decide +kernel) rfl rfl (Nat.le_of_ble_eq_true rfl) dX6_init_88 (fun H locs hP hD hS => ?_)
  rw [xs] at hP hD
  have hP : va_P D vwCl (X ++ [(b, .inr (5, [.ref q1, .ref q2, .ref q5, .ref q6, .ref q7, .int (0), .ref q13, .int (0), .int (0)])), (q1, .inr (2, [.int (1), .int (0), .int (0), .int (1)])), (q2, .inr (0, [.ref q3, .ref q4, .int (0)])), (q3, .inl (cy 2, 500, .inl (fun _ => 0))), (q4, .inl (cy 0, 500, .inr (.inl (fun _ => 0)))), (q5, .inl (cy 0, 500, .inr (.inl (fun _ => 0)))), (q6, .inl (cy 1, 300, .inl (fun _ => 0))), (q7, .inr (3, [.ref q8, .ref q1, .ref q12, .int (0), .int (-1), .int (0), .int (0), .int (0)])), (q8, .inr (4, [.ref q6, .ref q9, .ref q10, .ref q11, .int (0), .int (0)])), (q9, .inl (cy 2, 301, .inl (fun _ => 0))), (q10, .inl (cy 2, 301, .inl (fun _ => 0))), (q11, .inl (cy 2, 301, .inl (fun _ => 0))), (q12, .inr (1, [.long 0, .long 1])), (q13, .inr (1, [.long 0, .long 1]))]) H := hP
  have hD : va_D (fun q => bs ≤ q) (X ++ [(b, .inr (5, [.ref q1, .ref q2, .ref q5, .ref q6, .ref q7, .int (0), .ref q13, .int (0), .int (0)])), (q1, .inr (2, [.int (1), .int (0), .int (0), .int (1)])), (q2, .inr (0, [.ref q3, .ref q4, .int (0)])), (q3, .inl (cy 2, 500, .inl (fun _ => 0))), (q4, .inl (cy 0, 500, .inr (.inl (fun _ => 0)))), (q5, .inl (cy 0, 500, .inr (.inl (fun _ => 0)))), (q6, .inl (cy 1, 300, .inl (fun _ => 0))), (q7, .inr (3, [.ref q8, .ref q1, .ref q12, .int (0), .int (-1), .int (0), .int (0), .int (0)])), (q8, .inr (4, [.ref q6, .ref q9, .ref q10, .ref q11, .int (0), .int (0)])), (q9, .inl (cy 2, 301, .inl (fun _ => 0))), (q10, .inl (cy 2, 301, .inl (fun _ => 0))), (q11, .inl (cy 2, 301, .inl (fun _ => 0))), (q12, .inr (1, [.long 0, .long 1])), (q13, .inr (1, [.long 0, .long 1]))]) := hD
  exact W.vret hx hb hr (fun t ht _ => ⟨_, ⟨q1, q2, q3, q4, q5, q6, q7, q8, q9, q10, q11, q12, q13, rfl⟩, rfl, by rw [ht]; exact hP, hD, hS.F ht⟩) hS.2.2 dX6_init_91 hlk
theorem in_X7_init_X7 : ∀ w ∈ wsX70, w ∈ wsX7_init := fun _ h => List.mem_cons_of_mem _ (List.mem_append_right _ h)
def rm_X7_init : Room := { frames := 1, cells := 4, slots := 1900, locals := 12 }
set_option maxRecDepth 100000 in
theorem c_X7_init (l : Launch) (D : va_G) (cy : Nat → ClassId) (bs : Nat) (X : va_W) (b : Nat) : Met l yX7_init wsX7_init rm_X7_init (qI D cy bs [.ref b] (X ++ [(b, .inr (6, [.int 0, .long 0, .long 0, .null, .long 0, .long 0, .long 0, .long 0, .null, .int 0, .int 0, .int 0, .int 0, .int 0, .int 0, .int 0, .int 0, .int 0, .int 0, .int 0, .null, .null, .long 0, .long 0]))])) (qJ D bs (fun w => ∃ (q1 q2 q3 q4 : Nat), w = X ++ [(b, .inr (6, [.int 0, .long 0, .long 0, .ref q1, .long 1, .long 0, .long 0, .long 1, .ref q2, .int 0, .int 0, .int 0, .int 0, .int 0, .int 0, .int 0, .int 0, .int 0, .int 0, .int 0, .ref q3, .ref q4, .long 0, .long 1])), (q1, .inl (cy 0, 1000, .inr (.inl (fun _ => 0)))), (q2, .inl (cy 1, 300, .inl (fun _ => 0))), (q3, .inl (cy 0, 300, .inr (.inl (fun _ => 0)))), (q4, .inl (cy 0, 300, .inr (.inl (fun _ => 0))))])) 4 1900 (fun q => bs ≤ q) := by
  refine Met.ofW (cc := cX7_init) (maxL := 1) (ret := none) (by decide) rfl ?_
  intro p e s m args below meth c s₁ B hml hv
  obtain ⟨rfl, hN, hP, hK, hD⟩ := hv
  have hx := B.exec
  have hb := B.bytes
  have hr := B.returns
  have hts := atoms_spec (ws := wsX7_init) B.pre
  have hown : s.vm.findClass RX7 = some m.cls := findClass_of_methodNamed B.named
  have hlk := B.notSynchronized
  have hin : meth.name = "<init>" := (name_of_methodNamed B.named B.method).1
  have hbs : bs ≤ s.heap.size := Nat.le_of_lt (Nat.lt_of_le_of_lt (hD.2 (X.length + 0) _ (xg 0 rfl)) ((hP (X.length + 0) _ (xg 0 rfl)).lt))
  have hA : ∀ q : Nat, s.heap.size ≤ q → bs ≤ q := fun q h => Nat.le_trans hbs h
  have hS : va_S (fun q => bs ≤ q) s.heap s.heap [] := va_S.rf
  have hl := lv_entry ([.ref b]) (n := 1) (Nat.le_of_ble_eq_true rfl)
  rw [lg_entry_eq]
  generalize (lg_sl ([.ref b]) ++ List.replicate (1 - (lg_sl ([.ref b])).length) Slot.unset).toArray = ls at hl ⊢
  have hl : lv_has ls 1 [(0, .ref b)] := hl
  refine lv_aload_n hx hb dX7_init_0 rfl (lv_at hl 0 rfl) ?_
  refine W.objInit hx hb hown (hts (.methodLink RX7 1 objectInit) (by decide +kernel)) (hts (.instanceMethod objectInit) (by decide +kernel)) (hts (.code objectInit ⟨#[0xb1]⟩ 1 none) (by decide +kernel)) rfl (by rw [hml]; exact hl.1) rfl dX7_init_1 (Nat.le_of_ble_eq_true rfl) (Nat.le_of_ble_eq_true rfl) ?_
  refine W.eq (g2 := F0 m 4 ls []) rfl ?_
  refine lv_aload_n hx hb dX7_init_4 rfl (lv_at hl 0 rfl) ?_
  refine lv_sipush (v := (1000 : Int32)) hx hb dX7_init_5 (by decide) ?_
  refine va_newa (atype := .long) hx hb (hts (.arrayClass .long) (by decide +kernel)) rfl hK hP hD hS hA (a0 := (1000, .inr (.inl (fun _ => 0)))) (fun _ => rfl) (by decide) (by decide) (Nat.le_of_ble_eq_true rfl) (Nat.le_of_ble_eq_true rfl) (Nat.le_of_ble_eq_true rfl) dX7_init_8 (fun q1 cA H hK1 hP hD hS => ?_)
  have ec : cA = cy 0 := Option.some.inj ((va_nm_long (hK1.2 3 _ rfl).2).symm.trans (va_nm_long (hK.2 0 _ rfl).2))
  subst ec
  rw [List.append_assoc] at hP hD
  have hP : va_P D vwCl (X ++ [(b, .inr (6, [.int 0, .long 0, .long 0, .null, .long 0, .long 0, .long 0, .long 0, .null, .int 0, .int 0, .int 0, .int 0, .int 0, .int 0, .int 0, .int 0, .int 0, .int 0, .int 0, .null, .null, .long 0, .long 0])), (q1, .inl (cy 0, 1000, .inr (.inl (fun _ => 0))))]) H := hP
  have hD : va_D (fun q => bs ≤ q) (X ++ [(b, .inr (6, [.int 0, .long 0, .long 0, .null, .long 0, .long 0, .long 0, .long 0, .null, .int 0, .int 0, .int 0, .int 0, .int 0, .int 0, .int 0, .int 0, .int 0, .int 0, .int 0, .null, .null, .long 0, .long 0])), (q1, .inl (cy 0, 1000, .inr (.inl (fun _ => 0))))]) := hD
  refine W.widen (k := 1) (n := 1000) (Nat.le_of_ble_eq_true rfl) (Nat.le_of_ble_eq_true rfl) ?_
  refine va_putF (D := D) (ci := 6) (v := .ref q1) (ty := .array .long) (C := RX7) (T := TX7) (N := 24) hx hb hts in_X7_init_X7 tyX7 tyX7_ok nmX7 hown hK hP hD hS (X.length + 0) (xg 0 rfl) rfl 3 (by decide) (hts (.fieldLink RX7 7 "SawSumsModel" "row" "[J") (by decide +kernel)) (fun _ h9 => h9) rfl hin rfl (by decide +kernel) rfl rfl (Nat.le_of_ble_eq_true rfl) dX7_init_10 (fun H locs hP hD hS => ?_)
  rw [xs] at hP hD
  have hP : va_P D vwCl (X ++ [(b, .inr (6, [.int 0, .long 0, .long 0, .ref q1, .long 0, .long 0, .long 0, .long 0, .null, .int 0, .int 0, .int 0, .int 0, .int 0, .int 0, .int 0, .int 0, .int 0, .int 0, .int 0, .null, .null, .long 0, .long 0])), (q1, .inl (cy 0, 1000, .inr (.inl (fun _ => 0))))]) H := hP
  have hD : va_D (fun q => bs ≤ q) (X ++ [(b, .inr (6, [.int 0, .long 0, .long 0, .ref q1, .long 0, .long 0, .long 0, .long 0, .null, .int 0, .int 0, .int 0, .int 0, .int 0, .int 0, .int 0, .int 0, .int 0, .int 0, .int 0, .null, .null, .long 0, .long 0])), (q1, .inl (cy 0, 1000, .inr (.inl (fun _ => 0))))]) := hD
  refine lv_aload_n hx hb dX7_init_13 rfl (lv_at hl 0 rfl) ?_
  refine lv_sipush (v := (300 : Int32)) hx hb dX7_init_14 (by decide) ?_
  refine va_newa (atype := .byte) hx hb (hts (.arrayClass .byte) (by decide +kernel)) rfl hK hP hD hS hA (a0 := (300, .inl (fun _ => 0))) (fun _ => rfl) (by decide) (by decide) (Nat.le_of_ble_eq_true rfl) (Nat.le_of_ble_eq_true rfl) (Nat.le_of_ble_eq_true rfl) dX7_init_17 (fun q2 cA H hK1 hP hD hS => ?_)
  have ec : cA = cy 1 := Option.some.inj ((va_nm_byte (hK1.2 3 _ rfl).2).symm.trans (va_nm_byte (hK.2 1 _ rfl).2))
  subst ec
  rw [List.append_assoc] at hP hD
  have hP : va_P D vwCl (X ++ [(b, .inr (6, [.int 0, .long 0, .long 0, .ref q1, .long 0, .long 0, .long 0, .long 0, .null, .int 0, .int 0, .int 0, .int 0, .int 0, .int 0, .int 0, .int 0, .int 0, .int 0, .int 0, .null, .null, .long 0, .long 0])), (q1, .inl (cy 0, 1000, .inr (.inl (fun _ => 0)))), (q2, .inl (cy 1, 300, .inl (fun _ => 0)))]) H := hP
  have hD : va_D (fun q => bs ≤ q) (X ++ [(b, .inr (6, [.int 0, .long 0, .long 0, .ref q1, .long 0, .long 0, .long 0, .long 0, .null, .int 0, .int 0, .int 0, .int 0, .int 0, .int 0, .int 0, .int 0, .int 0, .int 0, .int 0, .null, .null, .long 0, .long 0])), (q1, .inl (cy 0, 1000, .inr (.inl (fun _ => 0)))), (q2, .inl (cy 1, 300, .inl (fun _ => 0)))]) := hD
  refine W.widen (k := 2) (n := 1300) (Nat.le_of_ble_eq_true rfl) (Nat.le_of_ble_eq_true rfl) ?_
  refine va_putF (D := D) (ci := 6) (v := .ref q2) (ty := .array .byte) (C := RX7) (T := TX7) (N := 24) hx hb hts in_X7_init_X7 tyX7 tyX7_ok nmX7 hown hK hP hD hS (X.length + 0) (xg 0 rfl) rfl 8 (by decide) (hts (.fieldLink RX7 13 "SawSumsModel" "tape" "[B") (by decide +kernel)) (fun _ h9 => h9) rfl hin rfl (by decide +kernel) rfl rfl (Nat.le_of_ble_eq_true rfl) dX7_init_19 (fun H locs hP hD hS => ?_)
  rw [xs] at hP hD
  have hP : va_P D vwCl (X ++ [(b, .inr (6, [.int 0, .long 0, .long 0, .ref q1, .long 0, .long 0, .long 0, .long 0, .ref q2, .int 0, .int 0, .int 0, .int 0, .int 0, .int 0, .int 0, .int 0, .int 0, .int 0, .int 0, .null, .null, .long 0, .long 0])), (q1, .inl (cy 0, 1000, .inr (.inl (fun _ => 0)))), (q2, .inl (cy 1, 300, .inl (fun _ => 0)))]) H := hP
  have hD : va_D (fun q => bs ≤ q) (X ++ [(b, .inr (6, [.int 0, .long 0, .long 0, .ref q1, .long 0, .long 0, .long 0, .long 0, .ref q2, .int 0, .int 0, .int 0, .int 0, .int 0, .int 0, .int 0, .int 0, .int 0, .int 0, .int 0, .null, .null, .long 0, .long 0])), (q1, .inl (cy 0, 1000, .inr (.inl (fun _ => 0)))), (q2, .inl (cy 1, 300, .inl (fun _ => 0)))]) := hD
  refine lv_aload_n hx hb dX7_init_22 rfl (lv_at hl 0 rfl) ?_
  refine lv_sipush (v := (300 : Int32)) hx hb dX7_init_23 (by decide) ?_
  refine va_newa (atype := .long) hx hb (hts (.arrayClass .long) (by decide +kernel)) rfl hK hP hD hS hA (a0 := (300, .inr (.inl (fun _ => 0)))) (fun _ => rfl) (by decide) (by decide) (Nat.le_of_ble_eq_true rfl) (Nat.le_of_ble_eq_true rfl) (Nat.le_of_ble_eq_true rfl) dX7_init_26 (fun q3 cA H hK1 hP hD hS => ?_)
  have ec : cA = cy 0 := Option.some.inj ((va_nm_long (hK1.2 3 _ rfl).2).symm.trans (va_nm_long (hK.2 0 _ rfl).2))
  subst ec
  rw [List.append_assoc] at hP hD
  have hP : va_P D vwCl (X ++ [(b, .inr (6, [.int 0, .long 0, .long 0, .ref q1, .long 0, .long 0, .long 0, .long 0, .ref q2, .int 0, .int 0, .int 0, .int 0, .int 0, .int 0, .int 0, .int 0, .int 0, .int 0, .int 0, .null, .null, .long 0, .long 0])), (q1, .inl (cy 0, 1000, .inr (.inl (fun _ => 0)))), (q2, .inl (cy 1, 300, .inl (fun _ => 0))), (q3, .inl (cy 0, 300, .inr (.inl (fun _ => 0))))]) H := hP
  have hD : va_D (fun q => bs ≤ q) (X ++ [(b, .inr (6, [.int 0, .long 0, .long 0, .ref q1, .long 0, .long 0, .long 0, .long 0, .ref q2, .int 0, .int 0, .int 0, .int 0, .int 0, .int 0, .int 0, .int 0, .int 0, .int 0, .int 0, .null, .null, .long 0, .long 0])), (q1, .inl (cy 0, 1000, .inr (.inl (fun _ => 0)))), (q2, .inl (cy 1, 300, .inl (fun _ => 0))), (q3, .inl (cy 0, 300, .inr (.inl (fun _ => 0))))]) := hD
  refine W.widen (k := 3) (n := 1600) (Nat.le_of_ble_eq_true rfl) (Nat.le_of_ble_eq_true rfl) ?_
  refine va_putF (D := D) (ci := 6) (v := .ref q3) (ty := .array .long) (C := RX7) (T := TX7) (N := 24) hx hb hts in_X7_init_X7 tyX7 tyX7_ok nmX7 hown hK hP hD hS (X.length + 0) (xg 0 rfl) rfl 20 (by decide) (hts (.fieldLink RX7 17 "SawSumsModel" "tops" "[J") (by decide +kernel)) (fun _ h9 => h9) rfl hin rfl (by decide +kernel) rfl rfl (Nat.le_of_ble_eq_true rfl) dX7_init_28 (fun H locs hP hD hS => ?_)
  rw [xs] at hP hD
  have hP : va_P D vwCl (X ++ [(b, .inr (6, [.int 0, .long 0, .long 0, .ref q1, .long 0, .long 0, .long 0, .long 0, .ref q2, .int 0, .int 0, .int 0, .int 0, .int 0, .int 0, .int 0, .int 0, .int 0, .int 0, .int 0, .ref q3, .null, .long 0, .long 0])), (q1, .inl (cy 0, 1000, .inr (.inl (fun _ => 0)))), (q2, .inl (cy 1, 300, .inl (fun _ => 0))), (q3, .inl (cy 0, 300, .inr (.inl (fun _ => 0))))]) H := hP
  have hD : va_D (fun q => bs ≤ q) (X ++ [(b, .inr (6, [.int 0, .long 0, .long 0, .ref q1, .long 0, .long 0, .long 0, .long 0, .ref q2, .int 0, .int 0, .int 0, .int 0, .int 0, .int 0, .int 0, .int 0, .int 0, .int 0, .int 0, .ref q3, .null, .long 0, .long 0])), (q1, .inl (cy 0, 1000, .inr (.inl (fun _ => 0)))), (q2, .inl (cy 1, 300, .inl (fun _ => 0))), (q3, .inl (cy 0, 300, .inr (.inl (fun _ => 0))))]) := hD
  refine lv_aload_n hx hb dX7_init_31 rfl (lv_at hl 0 rfl) ?_
  refine lv_sipush (v := (300 : Int32)) hx hb dX7_init_32 (by decide) ?_
  refine va_newa (atype := .long) hx hb (hts (.arrayClass .long) (by decide +kernel)) rfl hK hP hD hS hA (a0 := (300, .inr (.inl (fun _ => 0)))) (fun _ => rfl) (by decide) (by decide) (Nat.le_of_ble_eq_true rfl) (Nat.le_of_ble_eq_true rfl) (Nat.le_of_ble_eq_true rfl) dX7_init_35 (fun q4 cA H hK1 hP hD hS => ?_)
  have ec : cA = cy 0 := Option.some.inj ((va_nm_long (hK1.2 3 _ rfl).2).symm.trans (va_nm_long (hK.2 0 _ rfl).2))
  subst ec
  rw [List.append_assoc] at hP hD
  have hP : va_P D vwCl (X ++ [(b, .inr (6, [.int 0, .long 0, .long 0, .ref q1, .long 0, .long 0, .long 0, .long 0, .ref q2, .int 0, .int 0, .int 0, .int 0, .int 0, .int 0, .int 0, .int 0, .int 0, .int 0, .int 0, .ref q3, .null, .long 0, .long 0])), (q1, .inl (cy 0, 1000, .inr (.inl (fun _ => 0)))), (q2, .inl (cy 1, 300, .inl (fun _ => 0))), (q3, .inl (cy 0, 300, .inr (.inl (fun _ => 0)))), (q4, .inl (cy 0, 300, .inr (.inl (fun _ => 0))))]) H := hP
  have hD : va_D (fun q => bs ≤ q) (X ++ [(b, .inr (6, [.int 0, .long 0, .long 0, .ref q1, .long 0, .long 0, .long 0, .long 0, .ref q2, .int 0, .int 0, .int 0, .int 0, .int 0, .int 0, .int 0, .int 0, .int 0, .int 0, .int 0, .ref q3, .null, .long 0, .long 0])), (q1, .inl (cy 0, 1000, .inr (.inl (fun _ => 0)))), (q2, .inl (cy 1, 300, .inl (fun _ => 0))), (q3, .inl (cy 0, 300, .inr (.inl (fun _ => 0)))), (q4, .inl (cy 0, 300, .inr (.inl (fun _ => 0))))]) := hD
  refine W.widen (k := 4) (n := 1900) (Nat.le_of_ble_eq_true rfl) (Nat.le_of_ble_eq_true rfl) ?_
  refine va_putF (D := D) (ci := 6) (v := .ref q4) (ty := .array .long) (C := RX7) (T := TX7) (N := 24) hx hb hts in_X7_init_X7 tyX7 tyX7_ok nmX7 hown hK hP hD hS (X.length + 0) (xg 0 rfl) rfl 21 (by decide) (hts (.fieldLink RX7 20 "SawSumsModel" "bottoms" "[J") (by decide +kernel)) (fun _ h9 => h9) rfl hin rfl (by decide +kernel) rfl rfl (Nat.le_of_ble_eq_true rfl) dX7_init_37 (fun H locs hP hD hS => ?_)
  rw [xs] at hP hD
  have hP : va_P D vwCl (X ++ [(b, .inr (6, [.int 0, .long 0, .long 0, .ref q1, .long 0, .long 0, .long 0, .long 0, .ref q2, .int 0, .int 0, .int 0, .int 0, .int 0, .int 0, .int 0, .int 0, .int 0, .int 0, .int 0, .ref q3, .ref q4, .long 0, .long 0])), (q1, .inl (cy 0, 1000, .inr (.inl (fun _ => 0)))), (q2, .inl (cy 1, 300, .inl (fun _ => 0))), (q3, .inl (cy 0, 300, .inr (.inl (fun _ => 0)))), (q4, .inl (cy 0, 300, .inr (.inl (fun _ => 0))))]) H := hP
  have hD : va_D (fun q => bs ≤ q) (X ++ [(b, .inr (6, [.int 0, .long 0, .long 0, .ref q1, .long 0, .long 0, .long 0, .long 0, .ref q2, .int 0, .int 0, .int 0, .int 0, .int 0, .int 0, .int 0, .int 0, .int 0, .int 0, .int 0, .ref q3, .ref q4, .long 0, .long 0])), (q1, .inl (cy 0, 1000, .inr (.inl (fun _ => 0)))), (q2, .inl (cy 1, 300, .inl (fun _ => 0))), (q3, .inl (cy 0, 300, .inr (.inl (fun _ => 0)))), (q4, .inl (cy 0, 300, .inr (.inl (fun _ => 0))))]) := hD
  refine lv_aload_n hx hb dX7_init_40 rfl (lv_at hl 0 rfl) ?_
  refine lv_lconst (v := (1 : Int64)) hx hb dX7_init_41 (by decide) ?_
  refine va_put (D := D) (ci := 6) (v := .long 1) (ty := .long) (C := RX7) (T := TX7) (N := 24) hx hb hts in_X7_init_X7 tyX7 tyX7_ok nmX7 hown hK hP hD hS (X.length + 0) (xg 0 rfl) rfl 4 (by decide) (hts (.fieldLink RX7 23 "SawSumsModel" "a0" "J") (by decide +kernel)) (fun _ h9 => h9) rfl (by decide +kernel) rfl rfl (Nat.le_of_ble_eq_true rfl) dX7_init_42 (fun H locs hP hD hS => ?_)
  rw [xs] at hP hD
  have hP : va_P D vwCl (X ++ [(b, .inr (6, [.int 0, .long 0, .long 0, .ref q1, .long 1, .long 0, .long 0, .long 0, .ref q2, .int 0, .int 0, .int 0, .int 0, .int 0, .int 0, .int 0, .int 0, .int 0, .int 0, .int 0, .ref q3, .ref q4, .long 0, .long 0])), (q1, .inl (cy 0, 1000, .inr (.inl (fun _ => 0)))), (q2, .inl (cy 1, 300, .inl (fun _ => 0))), (q3, .inl (cy 0, 300, .inr (.inl (fun _ => 0)))), (q4, .inl (cy 0, 300, .inr (.inl (fun _ => 0))))]) H := hP
  have hD : va_D (fun q => bs ≤ q) (X ++ [(b, .inr (6, [.int 0, .long 0, .long 0, .ref q1, .long 1, .long 0, .long 0, .long 0, .ref q2, .int 0, .int 0, .int 0, .int 0, .int 0, .int 0, .int 0, .int 0, .int 0, .int 0, .int 0, .ref q3, .ref q4, .long 0, .long 0])), (q1, .inl (cy 0, 1000, .inr (.inl (fun _ => 0)))), (q2, .inl (cy 1, 300, .inl (fun _ => 0))), (q3, .inl (cy 0, 300, .inr (.inl (fun _ => 0)))), (q4, .inl (cy 0, 300, .inr (.inl (fun _ => 0))))]) := hD
  refine lv_aload_n hx hb dX7_init_45 rfl (lv_at hl 0 rfl) ?_
  refine lv_lconst (v := (1 : Int64)) hx hb dX7_init_46 (by decide) ?_
  refine va_put (D := D) (ci := 6) (v := .long 1) (ty := .long) (C := RX7) (T := TX7) (N := 24) hx hb hts in_X7_init_X7 tyX7 tyX7_ok nmX7 hown hK hP hD hS (X.length + 0) (xg 0 rfl) rfl 7 (by decide) (hts (.fieldLink RX7 27 "SawSumsModel" "d0" "J") (by decide +kernel)) (fun _ h9 => h9) rfl (by decide +kernel) rfl rfl (Nat.le_of_ble_eq_true rfl) dX7_init_47 (fun H locs hP hD hS => ?_)
  rw [xs] at hP hD
  have hP : va_P D vwCl (X ++ [(b, .inr (6, [.int 0, .long 0, .long 0, .ref q1, .long 1, .long 0, .long 0, .long 1, .ref q2, .int 0, .int 0, .int 0, .int 0, .int 0, .int 0, .int 0, .int 0, .int 0, .int 0, .int 0, .ref q3, .ref q4, .long 0, .long 0])), (q1, .inl (cy 0, 1000, .inr (.inl (fun _ => 0)))), (q2, .inl (cy 1, 300, .inl (fun _ => 0))), (q3, .inl (cy 0, 300, .inr (.inl (fun _ => 0)))), (q4, .inl (cy 0, 300, .inr (.inl (fun _ => 0))))]) H := hP
  have hD : va_D (fun q => bs ≤ q) (X ++ [(b, .inr (6, [.int 0, .long 0, .long 0, .ref q1, .long 1, .long 0, .long 0, .long 1, .ref q2, .int 0, .int 0, .int 0, .int 0, .int 0, .int 0, .int 0, .int 0, .int 0, .int 0, .int 0, .ref q3, .ref q4, .long 0, .long 0])), (q1, .inl (cy 0, 1000, .inr (.inl (fun _ => 0)))), (q2, .inl (cy 1, 300, .inl (fun _ => 0))), (q3, .inl (cy 0, 300, .inr (.inl (fun _ => 0)))), (q4, .inl (cy 0, 300, .inr (.inl (fun _ => 0))))]) := hD
  refine lv_aload_n hx hb dX7_init_50 rfl (lv_at hl 0 rfl) ?_
  refine lv_lconst (v := (1 : Int64)) hx hb dX7_init_51 (by decide) ?_
  refine va_put (D := D) (ci := 6) (v := .long 1) (ty := .long) (C := RX7) (T := TX7) (N := 24) hx hb hts in_X7_init_X7 tyX7 tyX7_ok nmX7 hown hK hP hD hS (X.length + 0) (xg 0 rfl) rfl 23 (by decide) (hts (.fieldLink RX7 30 "SawSumsModel" "toldUnder" "J") (by decide +kernel)) (fun _ h9 => h9) rfl (by decide +kernel) rfl rfl (Nat.le_of_ble_eq_true rfl) dX7_init_52 (fun H locs hP hD hS => ?_)
  rw [xs] at hP hD
  have hP : va_P D vwCl (X ++ [(b, .inr (6, [.int 0, .long 0, .long 0, .ref q1, .long 1, .long 0, .long 0, .long 1, .ref q2, .int 0, .int 0, .int 0, .int 0, .int 0, .int 0, .int 0, .int 0, .int 0, .int 0, .int 0, .ref q3, .ref q4, .long 0, .long 1])), (q1, .inl (cy 0, 1000, .inr (.inl (fun _ => 0)))), (q2, .inl (cy 1, 300, .inl (fun _ => 0))), (q3, .inl (cy 0, 300, .inr (.inl (fun _ => 0)))), (q4, .inl (cy 0, 300, .inr (.inl (fun _ => 0))))]) H := hP
  have hD : va_D (fun q => bs ≤ q) (X ++ [(b, .inr (6, [.int 0, .long 0, .long 0, .ref q1, .long 1, .long 0, .long 0, .long 1, .ref q2, .int 0, .int 0, .int 0, .int 0, .int 0, .int 0, .int 0, .int 0, .int 0, .int 0, .int 0, .ref q3, .ref q4, .long 0, .long 1])), (q1, .inl (cy 0, 1000, .inr (.inl (fun _ => 0)))), (q2, .inl (cy 1, 300, .inl (fun _ => 0))), (q3, .inl (cy 0, 300, .inr (.inl (fun _ => 0)))), (q4, .inl (cy 0, 300, .inr (.inl (fun _ => 0))))]) := hD
  exact W.vret hx hb hr (fun t ht _ => ⟨_, ⟨q1, q2, q3, q4, rfl⟩, rfl, by rw [ht]; exact hP, hD, hS.F ht⟩) hS.2.2 dX7_init_55 hlk
