/-! the walk of the law -/
def LC (p : Program) (s : State) (m : MethodId) (meth : Method) (c : Code) (b L : Nat) (xs : Nat → Int32) (K : Ev) : Prop := CallFix p m c cL_law 7 s #[Value.ref b] wsL_law RL ∧ NW s ∧ SF K s ∧ TF K s ∧ va_K K.1 vwCl (tysOf K) s ∧ va_X b L xs s s.heap ∧ b < s.heap.size ∧ ¬ inA K b
def Gi (K : Ev) (g : Gh) (lt : Int64 × Int64) : Prop := (K.2.2.1 18 ∈ g.2.1 ∧ g.2.2 (K.2.2.1 18) = (0, 1)) ∧ (g.1 ∈ g.2.1 ∧ g.2.2 g.1 = lt)
def LQ (K : Ev) (rv : Value) (C : CS) (M : MS) (o : Nat → Int64) (lt : Int64 × Int64) (st : State) (oc : Outcome) (t : State) : Prop := ∃ g' : Gh, oc = .returned (some rv) ∧ Gi K g' lt ∧ va_P K.1 vwCl (wd K C M o g') t.heap ∧ va_D (inA K) (wd K C M o g') ∧ va_F (inA K) st t
theorem post_R {K : Ev} {rv : Value} {C : CS} {M : MS} {o : Nat → Int64} {g : Gh} {lt : Int64 × Int64} (hG : Gi K g lt) : ∀ v st oc t, qR K (some rv) C M o g v st oc t → LQ K rv C M o lt st oc t := fun _ _ _ _ h => ⟨g, h.1, hG, h.2.1, h.2.2.1, h.2.2.2⟩
theorem post_N {K : Ev} {rv : Value} {C : CS} {M : MS} {o : Nat → Int64} {g : Gh} {lt : Int64 × Int64} {P : Prop} (hG : Gi K g lt) : ∀ v st oc t, qN K (some rv) C M o g P v st oc t → LQ K rv C M o lt st oc t := fun _ _ _ _ h => by
  obtain ⟨g', h1, h2, _, h4, h5, h6⟩ := h
  refine ⟨g', h1, ⟨Ext.mv h2 hG.1, ?_⟩, h4, h5, h6⟩
  rw [h2.1]
  exact Ext.mv h2 hG.2
theorem post_T {K : Ev} {rv : Value} {C : CS} {M : MS} {o : Nat → Int64} {g : Gh} {lt lt' : Int64 × Int64} {P : Prop} (hG : Gi K g lt) : ∀ v st oc t, qT K (some rv) C M o g lt' P v st oc t → LQ K rv C M o lt' st oc t := fun _ _ _ _ h => by
  obtain ⟨g', h1, h2, h3, _, h4, h5, h6⟩ := h
  exact ⟨g', h1, ⟨⟨(h2 _ hG.1.1).1, ((h2 _ hG.1.1).2).trans hG.1.2⟩, h3⟩, h4, h5, h6⟩
section LCALL
variable {p : Program} {l : Launch} {e : Env} {R : Room} {s : State} {m : MethodId} {args : Array Value} {below : List Frame} {meth : Method} {c : Code} {H : Heap} {locs : List Loc} {cells slots : Nat} {Q : State → Prop}
variable {cc : ByteArray} {pc nL : Nat} {ls : Array Slot} {rest st0 : List Value} {own : String} {Ts : List Cond}
theorem lc_V {y : MethodName} {bytes : ByteArray} {maxL mc ms n index : Nat} {ret : Option FieldType} {ws : List Cond} {rm : Room} {av : List Value} {rv : Value} {Cn : String} {b : Addr} {K : Ev} {C C' : CS} {M M' : MS} {o o' : Nat → Int64} {g : Gh} {lt' : Int64 × Int64} {Qc : Array Value → State → Outcome → State → Prop}
    (S : CallFix p m c cc nL s args Ts own) (N : NW s) (F : SF K s) (hK : va_K K.1 vwCl (tysOf K) s) (hP : va_P K.1 vwCl (wd K C M o g) H) (hD : va_D (inA K) (wd K C M o g)) (hS : va_S (inA K) s.heap H locs)
    (hM : Met l y ws rm (qH K (.ref b :: av) C M o g) Qc mc ms (inA K)) (hQ : ∀ v st oc t, Qc v st oc t → LQ K rv C' M' o' lt' st oc t) (cw : CallW R s args own Cn index y bytes maxL ret ws rm rm.cells rm.slots n) (hrc : ∃ cell : Cell, H[b]? = some cell ∧ cell.vm.isStatics = false ∧ s.vm.findClass Cn = some cell.cls)
    (hn : av.length = n) (hsize : ls.size = nL) (hst : st0 = av.reverse ++ .ref b :: rest) (hW : (rest.map fun v => v.category).sum ≤ 8) (hdg : decode cc pc = .ok (.invokevirtual index, 3)) (hf : cells + rm.cells ≤ R.cells ∧ slots + rm.slots ≤ R.slots) (hmc : mc ≤ 620) (hms : ms ≤ 1240)
    (kk : ∀ (g' : Gh) (H1 : Heap) (locs1 : List Loc), Gi K g' lt' → va_P K.1 vwCl (wd K C' M' o' g') H1 → va_D (inA K) (wd K C' M' o' g') → va_S (inA K) s.heap H1 locs1 → W p l e R s m args below meth c H1 locs1 (cells + 620) (slots + 1240) Q (F0 m (pc + 3) ls (rv :: rest))) : W p l e R s m args below meth c H locs cells slots Q (F0 m pc ls st0) := by
  have hr := run_VX (H := H) (locs := locs) (cells := cells) (slots := slots) (below := below) (e := e) (meth := meth) (g := F0 m pc ls st0) (rest := rest) S hM cw ⟨qH.blind K _ C M o g, hrc, fun U hU hw => ⟨rfl, NW.warm hw N, by rw [hU]; exact hP, va_K.moved hw.alike hK, hD, SF.pass F hS hU hw⟩⟩ rfl hn hsize hst (lv_room hW) hdg hf
  intro T hT X
  obtain ⟨v, st₀, t, T', L, h0, X', hL, e1, e2, hq, st⟩ := hr T hT X
  obtain ⟨g', hv, hG, hP1, hD1, hF1⟩ := hQ _ _ _ _ hq
  cases hv
  obtain ⟨t2, a1, b1⟩ := W.widen (Nat.add_le_add_left hmc _) (Nat.add_le_add_left hms _) (kk g' T'.heap (locs ++ L) hG (by rw [e1]; exact hP1) hD1 (hs_join hS h0 e1 hF1 hL)) T' rfl X'
  exact ⟨t2, st t2 a1, b1⟩
theorem lc_O {y : MethodName} {bytes : ByteArray} {maxL n index : Nat} {ret : Option FieldType} {hh : List (Nat × Nat × Nat × Nat)} {ws : List Cond} {rm : Room} {av : List Value} {rv : Value} {K : Ev} {C C' : CS} {M M' : MS} {o o' : Nat → Int64} {g g' : Gh}
    (S : CallFix p m c cc nL s args Ts own) (N : NW s) (F : SF K s) (T0 : TF K s) (hK : va_K K.1 vwCl (tysOf K) s) (hP : va_P K.1 vwCl (wd K C M o g) H) (hD : va_D (inA K) (wd K C M o g)) (hS : va_S (inA K) s.heap H locs)
    (hM : Met l y ws rm (qO K av C M o g) (qR K (some rv) C' M' o' g') 1 6 (inA K)) (cw : vx_CSW R s args own index y bytes maxL ret hh ws rm 1 6 n)
    (hn : av.length = n) (hsize : ls.size = nL) (hst : st0 = av.reverse ++ rest) (hW : (rest.map fun v => v.category).sum ≤ 8) (hdg : decode cc pc = .ok (.invokestatic index, 3)) (hf : cells + 1 ≤ R.cells ∧ slots + 6 ≤ R.slots)
    (kk : ∀ (H1 : Heap) (locs1 : List Loc), va_P K.1 vwCl (wd K C' M' o' g') H1 → va_D (inA K) (wd K C' M' o' g') → va_S (inA K) s.heap H1 locs1 → W p l e R s m args below meth c H1 locs1 (cells + 620) (slots + 1240) Q (F0 m (pc + 3) ls (rv :: rest))) : W p l e R s m args below meth c H locs cells slots Q (F0 m pc ls st0) := by
  have hr := vx_runSW (H := H) (locs := locs) (cells := cells) (slots := slots) (below := below) (e := e) (meth := meth) (g := F0 m pc ls st0) (rest := rest) S hM cw ⟨qO.blind K _ C M o g, fun U hU hw => ⟨⟨rfl, NW.warm hw N, by rw [hU]; exact hP, va_K.moved hw.alike hK, hD, SF.pass F hS hU hw⟩, TF.pass T0 hS hU hw⟩⟩ rfl hn hsize hst (lv_room hW) hdg hf
  intro T hT X
  obtain ⟨v, st₀, t, T', L, h0, X', hL, e1, e2, ⟨hv, hP1, hD1, hF1⟩, st⟩ := hr T hT X
  cases hv
  obtain ⟨t2, a1, b1⟩ := W.widen (Nat.add_le_add_left (by decide) _) (Nat.add_le_add_left (by decide) _) (kk T'.heap (locs ++ L) (by rw [e1]; exact hP1) hD1 (hs_join hS h0 e1 hF1 hL)) T' rfl X'
  exact ⟨t2, st t2 a1, b1⟩
end LCALL
theorem sc_ix {n k L : Nat} (hk : k ≤ 5) (hn : n + 6 ≤ L) (hL : L ≤ 3072) : vp_in (Int32.ofNat n + Int32.ofNat k) L ∧ (Int32.ofNat n + Int32.ofNat k).toNatClampNeg = n + k := by
  have e : Int32.ofNat n + Int32.ofNat k = Int32.ofNat (n + k) := (Int32.ofNat_add n k).symm
  have t : (Int32.ofNat (n + k)).toInt = ((n + k : Nat) : Int) := Int32.toInt_ofNat_of_lt (by omega)
  have c : (Int32.ofNat (n + k)).toNatClampNeg = n + k := by
    show (Int32.ofNat (n + k)).toInt.toNat = n + k
    rw [t]; rfl
  rw [e]
  refine ⟨?_, c⟩
  rw [vp_in, c]
  rintro (h | h)
  · rw [Int32.lt_iff_toInt_lt, t] at h
    have z : (0 : Int32).toInt = 0 := rfl
    rw [z] at h
    omega
  · omega
section LROW
variable {p : Program} {l : Launch} {e : Env} {s : State} {m : MethodId} {below : List Frame} {meth : Method} {c : Code} {H : Heap} {locs : List Loc} {cells slots : Nat} {Q : State → Prop} {R : Room} {args : Array Value} {pc : Nat} {ls : Array Slot} {rest : List Value} {b L : Nat} {xs : Nat → Int32} {K : Ev}
theorem sc_ld {n : Nat} {v : Int32} (k : Nat) (hx : p.tables.exec = Jvm.exec) (hb : c.code = cL_law) (hX : va_X b L xs s s.heap) (hbl : b < s.heap.size) (hbA : ¬ inA K b) (hn : n + 6 ≤ L) (hL : L ≤ 3072) (hS : va_S (inA K) s.heap H locs) (hv : v = Int32.ofNat k) (hk : k ≤ 5) (hdg : decode cL_law pc = .ok (.iaload, 1))
    (kk : W p l e R s m args below meth c H locs cells slots Q (F0 m (pc + 1) ls (.int (xs (n + k)) :: rest))) : W p l e R s m args below meth c H locs cells slots Q (F0 m pc ls (.int (Int32.ofNat n + v) :: .ref b :: rest)) := by
  subst hv
  have h := sc_ix hk hn hL
  refine va_sld hx hb hX hbl hbA hS h.1 hdg ?_
  rw [h.2]
  exact kk
theorem sc_ld0 {n : Nat} (hx : p.tables.exec = Jvm.exec) (hb : c.code = cL_law) (hX : va_X b L xs s s.heap) (hbl : b < s.heap.size) (hbA : ¬ inA K b) (hn : n + 6 ≤ L) (hL : L ≤ 3072) (hS : va_S (inA K) s.heap H locs) (hdg : decode cL_law pc = .ok (.iaload, 1))
    (kk : W p l e R s m args below meth c H locs cells slots Q (F0 m (pc + 1) ls (.int (xs n) :: rest))) : W p l e R s m args below meth c H locs cells slots Q (F0 m pc ls (.int (Int32.ofNat n) :: .ref b :: rest)) := by
  have h := sc_ix (k := 0) (Nat.zero_le _) hn hL
  have e0 : Int32.ofNat n + Int32.ofNat 0 = Int32.ofNat n := (Int32.ofNat_add n 0).symm
  rw [e0] at h
  refine va_sld hx hb hX hbl hbA hS h.1 hdg ?_
  rw [h.2]
  exact kk
end LROW

section LCASES
variable {p : Program} {l : Launch} {e : Env} {s : State} {m : MethodId} {below : List Frame} {meth : Method} {c : Code} {z : Nat} {K : Ev} {b L : Nat} {xs : Nat → Int32} {Q : State → Prop}
set_option maxRecDepth 100000 in
theorem lw_c0 (A : LC p s m meth c b L xs K) {n : Nat} (hn : n + 6 ≤ L) (hL : L ≤ 3072) {C : CS} {M : MS} {lt : Int64 × Int64} {o : Nat → Int64} {g : Gh} {H : Heap} {locs : List Loc} {cells slots : Nat} {C' : CS} {M' : MS} {lt' : Int64 × Int64} (hroom : cells + 620 ≤ 601024 ∧ slots + 1240 ≤ 7293034) (hG : Gi K g lt) (hP : va_P K.1 vwCl (wd K C M o g) H) (hD : va_D (inA K) (wd K C M o g)) (hS : va_S (inA K) s.heap H locs) (h : lc0 z (xs (n + 1)) (xs (n + 2)) (xs (n + 3)) (xs (n + 4)) (xs (n + 5)) C M lt = some (C', M', lt')) {ls : Array Slot} (hl : lv_has ls 7 [(0, .ref b), (1, .ref (K.2.2.1 0)), (2, .ref (K.2.2.1 12)), (3, .ref (K.2.2.1 17)), (4, .int (Int32.ofNat n))])
    (kk : ∀ (o' : Nat → Int64) (g' : Gh) (H' : Heap) (locs' : List Loc) (ls' : Array Slot), Gi K g' lt' → va_P K.1 vwCl (wd K C' M' o' g') H' → va_D (inA K) (wd K C' M' o' g') → va_S (inA K) s.heap H' locs' → lv_has ls' 7 [(0, .ref b), (1, .ref (K.2.2.1 0)), (2, .ref (K.2.2.1 12)), (3, .ref (K.2.2.1 17)), (4, .int (Int32.ofNat n))] → W p l e room_1 s m #[Value.ref b] below meth c H' locs' (cells + 620) (slots + 1240) Q (F0 m 1551 ls' [])) : W p l e room_1 s m #[Value.ref b] below meth c H locs cells slots Q (F0 m 184 ls []) := by
  obtain ⟨S0, hN, hF, hT, hK, hX, hbl, hbA⟩ := A
  have S9 := S0
  obtain ⟨hx, hb, hml, hown, hts⟩ := S9
  rw [lc0] at h
  by_cases cb : xs (n + 3) = 0
  · rw [show bo (xs (n + 3)) = 0 from if_pos cb] at h
    refine lv_aload_n hx hb dL_law_184 rfl (lv_at hl 1 rfl) ?_
    refine lv_aload_n hx hb dL_law_185 rfl (lv_at hl 0 rfl) ?_
    refine lv_iload hx hb dL_law_186 (lv_at hl 4 rfl) ?_
    refine lv_iconst (v := (1 : Int32)) hx hb dL_law_188 (by decide) ?_
    refine lv_iadd hx hb dL_law_189 ?_
    refine sc_ld 1 hx hb hX hbl hbA hn hL hS rfl (by decide) dL_law_190 ?_
    refine lv_aload_n hx hb dL_law_191 rfl (lv_at hl 0 rfl) ?_
    refine lv_iload hx hb dL_law_192 (lv_at hl 4 rfl) ?_
    refine lv_iconst (v := (2 : Int32)) hx hb dL_law_194 (by decide) ?_
    refine lv_iadd hx hb dL_law_195 ?_
    refine sc_ld 2 hx hb hX hbl hbA hn hL hS rfl (by decide) dL_law_196 ?_
    refine lv_aload_n hx hb dL_law_197 rfl (lv_at hl 0 rfl) ?_
    refine lv_iload hx hb dL_law_198 (lv_at hl 4 rfl) ?_
    refine lv_iconst (v := (3 : Int32)) hx hb dL_law_200 (by decide) ?_
    refine lv_iadd hx hb dL_law_201 ?_
    refine sc_ld 3 hx hb hX hbl hbA hn hL hS rfl (by decide) dL_law_202 ?_
    refine lv_if_eq (tgt := 210) hx hb dL_law_203 (by decide) (fun _ => ?_) (fun c9 => absurd cb c9)
    refine lv_iconst (v := (0 : Int32)) hx hb dL_law_210 (by decide) ?_
    obtain ⟨r, q1, h⟩ := gn_bd h
    refine lc_V (rest := []) (rv := .long r) (C' := C) (M' := M) (o' := o) (lt' := lt) S0 hN hF hK hP hD hS (c_X6_saw l z K C M o g hG.1 _ _ _ r q1) (post_N hG) (cwV 3 hts gL_law_X6_saw rfl rfl rfl (by decide +kernel) ⟨(Nat.le_of_ble_eq_true rfl), (Nat.le_of_ble_eq_true rfl)⟩) (va_recv hK hP (ci := 5) (q0 := 0) rfl rfl) rfl hl.1 rfl (Nat.le_of_ble_eq_true rfl) dL_law_211 ⟨Nat.le_trans (Nat.add_le_add_left (show rm_X6_saw.cells ≤ 620 from (Nat.le_of_ble_eq_true rfl)) _) hroom.1, Nat.le_trans (Nat.add_le_add_left (show rm_X6_saw.slots ≤ 1240 from (Nat.le_of_ble_eq_true rfl)) _) hroom.2⟩ (Nat.le_of_ble_eq_true rfl) (Nat.le_of_ble_eq_true rfl) (fun g H locs hG hP hD hS => ?_)
    refine W.eq (g2 := F0 m 214 ls [.long r]) rfl ?_
    refine lv_aload_n hx hb dL_law_214 rfl (lv_at hl 2 rfl) ?_
    refine lv_aload_n hx hb dL_law_215 rfl (lv_at hl 0 rfl) ?_
    refine lv_iload hx hb dL_law_216 (lv_at hl 4 rfl) ?_
    refine lv_iconst (v := (1 : Int32)) hx hb dL_law_218 (by decide) ?_
    refine lv_iadd hx hb dL_law_219 ?_
    refine sc_ld 1 hx hb hX hbl hbA hn hL hS rfl (by decide) dL_law_220 ?_
    refine lv_aload_n hx hb dL_law_221 rfl (lv_at hl 0 rfl) ?_
    refine lv_iload hx hb dL_law_222 (lv_at hl 4 rfl) ?_
    refine lv_iconst (v := (2 : Int32)) hx hb dL_law_224 (by decide) ?_
    refine lv_iadd hx hb dL_law_225 ?_
    refine sc_ld 2 hx hb hX hbl hbA hn hL hS rfl (by decide) dL_law_226 ?_
    refine lv_aload_n hx hb dL_law_227 rfl (lv_at hl 0 rfl) ?_
    refine lv_iload hx hb dL_law_228 (lv_at hl 4 rfl) ?_
    refine lv_iconst (v := (3 : Int32)) hx hb dL_law_230 (by decide) ?_
    refine lv_iadd hx hb dL_law_231 ?_
    refine sc_ld 3 hx hb hX hbl hbA hn hL hS rfl (by decide) dL_law_232 ?_
    refine lv_if_eq (tgt := 240) hx hb dL_law_233 (by decide) (fun _ => ?_) (fun c9 => absurd cb c9)
    refine lv_iconst (v := (0 : Int32)) hx hb dL_law_240 (by decide) ?_
    obtain ⟨q, M1, eq, h⟩ := gn_bd2 h
    refine hc_V (rest := [.long r]) S0 hN hF hK hP hD hS (c_X7_saw l z K _ _ _ _ _ _ M q M1 eq) (cwV 3 hts gL_law_X7_saw rfl rfl rfl (by decide +kernel) ⟨(Nat.le_of_ble_eq_true rfl), (Nat.le_of_ble_eq_true rfl)⟩) (va_recv hK hP (ci := 6) (q0 := 12) rfl rfl) rfl hl.1 rfl (Nat.le_of_ble_eq_true rfl) dL_law_241 hroom.1 hroom.2 (fun H locs hP hD hS => ?_)
    refine W.eq (g2 := F0 m 244 ls [.long q, .long r]) rfl ?_
    refine ll_eq (tgt := 1551) hx hb dL_law_244 dL_law_245 (by decide) (fun c9 => ?_) (fun c9 => ?_)
    · have h := gn_t h c9
      obtain ⟨rfl, h8⟩ := Prod.mk.inj (gn_some h)
      obtain ⟨rfl, rfl⟩ := Prod.mk.inj h8
      exact kk _ _ _ _ _ hG hP hD hS hl
    · have h := gn_f h c9
      cases h
  · rw [show bo (xs (n + 3)) = 1 from if_neg cb] at h
    refine lv_aload_n hx hb dL_law_184 rfl (lv_at hl 1 rfl) ?_
    refine lv_aload_n hx hb dL_law_185 rfl (lv_at hl 0 rfl) ?_
    refine lv_iload hx hb dL_law_186 (lv_at hl 4 rfl) ?_
    refine lv_iconst (v := (1 : Int32)) hx hb dL_law_188 (by decide) ?_
    refine lv_iadd hx hb dL_law_189 ?_
    refine sc_ld 1 hx hb hX hbl hbA hn hL hS rfl (by decide) dL_law_190 ?_
    refine lv_aload_n hx hb dL_law_191 rfl (lv_at hl 0 rfl) ?_
    refine lv_iload hx hb dL_law_192 (lv_at hl 4 rfl) ?_
    refine lv_iconst (v := (2 : Int32)) hx hb dL_law_194 (by decide) ?_
    refine lv_iadd hx hb dL_law_195 ?_
    refine sc_ld 2 hx hb hX hbl hbA hn hL hS rfl (by decide) dL_law_196 ?_
    refine lv_aload_n hx hb dL_law_197 rfl (lv_at hl 0 rfl) ?_
    refine lv_iload hx hb dL_law_198 (lv_at hl 4 rfl) ?_
    refine lv_iconst (v := (3 : Int32)) hx hb dL_law_200 (by decide) ?_
    refine lv_iadd hx hb dL_law_201 ?_
    refine sc_ld 3 hx hb hX hbl hbA hn hL hS rfl (by decide) dL_law_202 ?_
    refine lv_if_eq (tgt := 210) hx hb dL_law_203 (by decide) (fun c9 => absurd c9 cb) (fun _ => ?_)
    refine lv_iconst (v := (1 : Int32)) hx hb dL_law_206 (by decide) ?_
    refine lv_goto (tgt := 211) hx hb dL_law_207 (by decide) ?_
    obtain ⟨r, q1, h⟩ := gn_bd h
    refine lc_V (rest := []) (rv := .long r) (C' := C) (M' := M) (o' := o) (lt' := lt) S0 hN hF hK hP hD hS (c_X6_saw l z K C M o g hG.1 _ _ _ r q1) (post_N hG) (cwV 3 hts gL_law_X6_saw rfl rfl rfl (by decide +kernel) ⟨(Nat.le_of_ble_eq_true rfl), (Nat.le_of_ble_eq_true rfl)⟩) (va_recv hK hP (ci := 5) (q0 := 0) rfl rfl) rfl hl.1 rfl (Nat.le_of_ble_eq_true rfl) dL_law_211 ⟨Nat.le_trans (Nat.add_le_add_left (show rm_X6_saw.cells ≤ 620 from (Nat.le_of_ble_eq_true rfl)) _) hroom.1, Nat.le_trans (Nat.add_le_add_left (show rm_X6_saw.slots ≤ 1240 from (Nat.le_of_ble_eq_true rfl)) _) hroom.2⟩ (Nat.le_of_ble_eq_true rfl) (Nat.le_of_ble_eq_true rfl) (fun g H locs hG hP hD hS => ?_)
    refine W.eq (g2 := F0 m 214 ls [.long r]) rfl ?_
    refine lv_aload_n hx hb dL_law_214 rfl (lv_at hl 2 rfl) ?_
    refine lv_aload_n hx hb dL_law_215 rfl (lv_at hl 0 rfl) ?_
    refine lv_iload hx hb dL_law_216 (lv_at hl 4 rfl) ?_
    refine lv_iconst (v := (1 : Int32)) hx hb dL_law_218 (by decide) ?_
    refine lv_iadd hx hb dL_law_219 ?_
    refine sc_ld 1 hx hb hX hbl hbA hn hL hS rfl (by decide) dL_law_220 ?_
    refine lv_aload_n hx hb dL_law_221 rfl (lv_at hl 0 rfl) ?_
    refine lv_iload hx hb dL_law_222 (lv_at hl 4 rfl) ?_
    refine lv_iconst (v := (2 : Int32)) hx hb dL_law_224 (by decide) ?_
    refine lv_iadd hx hb dL_law_225 ?_
    refine sc_ld 2 hx hb hX hbl hbA hn hL hS rfl (by decide) dL_law_226 ?_
    refine lv_aload_n hx hb dL_law_227 rfl (lv_at hl 0 rfl) ?_
    refine lv_iload hx hb dL_law_228 (lv_at hl 4 rfl) ?_
    refine lv_iconst (v := (3 : Int32)) hx hb dL_law_230 (by decide) ?_
    refine lv_iadd hx hb dL_law_231 ?_
    refine sc_ld 3 hx hb hX hbl hbA hn hL hS rfl (by decide) dL_law_232 ?_
    refine lv_if_eq (tgt := 240) hx hb dL_law_233 (by decide) (fun c9 => absurd c9 cb) (fun _ => ?_)
    refine lv_iconst (v := (1 : Int32)) hx hb dL_law_236 (by decide) ?_
    refine lv_goto (tgt := 241) hx hb dL_law_237 (by decide) ?_
    obtain ⟨q, M1, eq, h⟩ := gn_bd2 h
    refine hc_V (rest := [.long r]) S0 hN hF hK hP hD hS (c_X7_saw l z K _ _ _ _ _ _ M q M1 eq) (cwV 3 hts gL_law_X7_saw rfl rfl rfl (by decide +kernel) ⟨(Nat.le_of_ble_eq_true rfl), (Nat.le_of_ble_eq_true rfl)⟩) (va_recv hK hP (ci := 6) (q0 := 12) rfl rfl) rfl hl.1 rfl (Nat.le_of_ble_eq_true rfl) dL_law_241 hroom.1 hroom.2 (fun H locs hP hD hS => ?_)
    refine W.eq (g2 := F0 m 244 ls [.long q, .long r]) rfl ?_
    refine ll_eq (tgt := 1551) hx hb dL_law_244 dL_law_245 (by decide) (fun c9 => ?_) (fun c9 => ?_)
    · have h := gn_t h c9
      obtain ⟨rfl, h8⟩ := Prod.mk.inj (gn_some h)
      obtain ⟨rfl, rfl⟩ := Prod.mk.inj h8
      exact kk _ _ _ _ _ hG hP hD hS hl
    · have h := gn_f h c9
      cases h
set_option maxRecDepth 100000 in
theorem lw_c1 (A : LC p s m meth c b L xs K) {n : Nat} (hn : n + 6 ≤ L) (hL : L ≤ 3072) {C : CS} {M : MS} {lt : Int64 × Int64} {o : Nat → Int64} {g : Gh} {H : Heap} {locs : List Loc} {cells slots : Nat} {C' : CS} {M' : MS} {lt' : Int64 × Int64} (hroom : cells + 620 ≤ 601024 ∧ slots + 1240 ≤ 7293034) (hG : Gi K g lt) (hP : va_P K.1 vwCl (wd K C M o g) H) (hD : va_D (inA K) (wd K C M o g)) (hS : va_S (inA K) s.heap H locs) (h : lc1 z (xs (n + 1)) (xs (n + 2)) (xs (n + 3)) (xs (n + 4)) (xs (n + 5)) C M lt = some (C', M', lt')) {ls : Array Slot} (hl : lv_has ls 7 [(0, .ref b), (1, .ref (K.2.2.1 0)), (2, .ref (K.2.2.1 12)), (3, .ref (K.2.2.1 17)), (4, .int (Int32.ofNat n))])
    (kk : ∀ (o' : Nat → Int64) (g' : Gh) (H' : Heap) (locs' : List Loc) (ls' : Array Slot), Gi K g' lt' → va_P K.1 vwCl (wd K C' M' o' g') H' → va_D (inA K) (wd K C' M' o' g') → va_S (inA K) s.heap H' locs' → lv_has ls' 7 [(0, .ref b), (1, .ref (K.2.2.1 0)), (2, .ref (K.2.2.1 12)), (3, .ref (K.2.2.1 17)), (4, .int (Int32.ofNat n))] → W p l e room_1 s m #[Value.ref b] below meth c H' locs' (cells + 620) (slots + 1240) Q (F0 m 1551 ls' [])) : W p l e room_1 s m #[Value.ref b] below meth c H locs cells slots Q (F0 m 250 ls []) := by
  obtain ⟨S0, hN, hF, hT, hK, hX, hbl, hbA⟩ := A
  have S9 := S0
  obtain ⟨hx, hb, hml, hown, hts⟩ := S9
  rw [lc1] at h
  by_cases cb : xs (n + 3) = 0
  · rw [show bo (xs (n + 3)) = 0 from if_pos cb] at h
    refine lv_aload_n hx hb dL_law_250 rfl (lv_at hl 1 rfl) ?_
    refine lv_aload_n hx hb dL_law_251 rfl (lv_at hl 0 rfl) ?_
    refine lv_iload hx hb dL_law_252 (lv_at hl 4 rfl) ?_
    refine lv_iconst (v := (1 : Int32)) hx hb dL_law_254 (by decide) ?_
    refine lv_iadd hx hb dL_law_255 ?_
    refine sc_ld 1 hx hb hX hbl hbA hn hL hS rfl (by decide) dL_law_256 ?_
    refine lv_aload_n hx hb dL_law_257 rfl (lv_at hl 0 rfl) ?_
    refine lv_iload hx hb dL_law_258 (lv_at hl 4 rfl) ?_
    refine lv_iconst (v := (2 : Int32)) hx hb dL_law_260 (by decide) ?_
    refine lv_iadd hx hb dL_law_261 ?_
    refine sc_ld 2 hx hb hX hbl hbA hn hL hS rfl (by decide) dL_law_262 ?_
    refine lv_aload_n hx hb dL_law_263 rfl (lv_at hl 0 rfl) ?_
    refine lv_iload hx hb dL_law_264 (lv_at hl 4 rfl) ?_
    refine lv_iconst (v := (3 : Int32)) hx hb dL_law_266 (by decide) ?_
    refine lv_iadd hx hb dL_law_267 ?_
    refine sc_ld 3 hx hb hX hbl hbA hn hL hS rfl (by decide) dL_law_268 ?_
    refine lv_if_eq (tgt := 276) hx hb dL_law_269 (by decide) (fun _ => ?_) (fun c9 => absurd cb c9)
    refine lv_iconst (v := (0 : Int32)) hx hb dL_law_276 (by decide) ?_
    obtain ⟨r, q1, h⟩ := gn_bd h
    refine lc_V (rest := []) (rv := .long r) (C' := C) (M' := M) (o' := o) (lt' := lt) S0 hN hF hK hP hD hS (c_X6_sum l z K C M o g hG.1 _ _ _ r q1) (post_N hG) (cwV 3 hts gL_law_X6_sum rfl rfl rfl (by decide +kernel) ⟨(Nat.le_of_ble_eq_true rfl), (Nat.le_of_ble_eq_true rfl)⟩) (va_recv hK hP (ci := 5) (q0 := 0) rfl rfl) rfl hl.1 rfl (Nat.le_of_ble_eq_true rfl) dL_law_277 ⟨Nat.le_trans (Nat.add_le_add_left (show rm_X6_sum.cells ≤ 620 from (Nat.le_of_ble_eq_true rfl)) _) hroom.1, Nat.le_trans (Nat.add_le_add_left (show rm_X6_sum.slots ≤ 1240 from (Nat.le_of_ble_eq_true rfl)) _) hroom.2⟩ (Nat.le_of_ble_eq_true rfl) (Nat.le_of_ble_eq_true rfl) (fun g H locs hG hP hD hS => ?_)
    refine W.eq (g2 := F0 m 280 ls [.long r]) rfl ?_
    refine lv_aload_n hx hb dL_law_280 rfl (lv_at hl 2 rfl) ?_
    refine lv_aload_n hx hb dL_law_281 rfl (lv_at hl 0 rfl) ?_
    refine lv_iload hx hb dL_law_282 (lv_at hl 4 rfl) ?_
    refine lv_iconst (v := (1 : Int32)) hx hb dL_law_284 (by decide) ?_
    refine lv_iadd hx hb dL_law_285 ?_
    refine sc_ld 1 hx hb hX hbl hbA hn hL hS rfl (by decide) dL_law_286 ?_
    refine lv_aload_n hx hb dL_law_287 rfl (lv_at hl 0 rfl) ?_
    refine lv_iload hx hb dL_law_288 (lv_at hl 4 rfl) ?_
    refine lv_iconst (v := (2 : Int32)) hx hb dL_law_290 (by decide) ?_
    refine lv_iadd hx hb dL_law_291 ?_
    refine sc_ld 2 hx hb hX hbl hbA hn hL hS rfl (by decide) dL_law_292 ?_
    refine lv_aload_n hx hb dL_law_293 rfl (lv_at hl 0 rfl) ?_
    refine lv_iload hx hb dL_law_294 (lv_at hl 4 rfl) ?_
    refine lv_iconst (v := (3 : Int32)) hx hb dL_law_296 (by decide) ?_
    refine lv_iadd hx hb dL_law_297 ?_
    refine sc_ld 3 hx hb hX hbl hbA hn hL hS rfl (by decide) dL_law_298 ?_
    refine lv_if_eq (tgt := 306) hx hb dL_law_299 (by decide) (fun _ => ?_) (fun c9 => absurd cb c9)
    refine lv_iconst (v := (0 : Int32)) hx hb dL_law_306 (by decide) ?_
    obtain ⟨q, M1, eq, h⟩ := gn_bd2 h
    refine hc_V (rest := [.long r]) S0 hN hF hK hP hD hS (c_X7_sum l z K _ _ _ _ _ _ M q M1 eq) (cwV 3 hts gL_law_X7_sum rfl rfl rfl (by decide +kernel) ⟨(Nat.le_of_ble_eq_true rfl), (Nat.le_of_ble_eq_true rfl)⟩) (va_recv hK hP (ci := 6) (q0 := 12) rfl rfl) rfl hl.1 rfl (Nat.le_of_ble_eq_true rfl) dL_law_307 hroom.1 hroom.2 (fun H locs hP hD hS => ?_)
    refine W.eq (g2 := F0 m 310 ls [.long q, .long r]) rfl ?_
    refine ll_eq (tgt := 1551) hx hb dL_law_310 dL_law_311 (by decide) (fun c9 => ?_) (fun c9 => ?_)
    · have h := gn_t h c9
      obtain ⟨rfl, h8⟩ := Prod.mk.inj (gn_some h)
      obtain ⟨rfl, rfl⟩ := Prod.mk.inj h8
      exact kk _ _ _ _ _ hG hP hD hS hl
    · have h := gn_f h c9
      cases h
  · rw [show bo (xs (n + 3)) = 1 from if_neg cb] at h
    refine lv_aload_n hx hb dL_law_250 rfl (lv_at hl 1 rfl) ?_
    refine lv_aload_n hx hb dL_law_251 rfl (lv_at hl 0 rfl) ?_
    refine lv_iload hx hb dL_law_252 (lv_at hl 4 rfl) ?_
    refine lv_iconst (v := (1 : Int32)) hx hb dL_law_254 (by decide) ?_
    refine lv_iadd hx hb dL_law_255 ?_
    refine sc_ld 1 hx hb hX hbl hbA hn hL hS rfl (by decide) dL_law_256 ?_
    refine lv_aload_n hx hb dL_law_257 rfl (lv_at hl 0 rfl) ?_
    refine lv_iload hx hb dL_law_258 (lv_at hl 4 rfl) ?_
    refine lv_iconst (v := (2 : Int32)) hx hb dL_law_260 (by decide) ?_
    refine lv_iadd hx hb dL_law_261 ?_
    refine sc_ld 2 hx hb hX hbl hbA hn hL hS rfl (by decide) dL_law_262 ?_
    refine lv_aload_n hx hb dL_law_263 rfl (lv_at hl 0 rfl) ?_
    refine lv_iload hx hb dL_law_264 (lv_at hl 4 rfl) ?_
    refine lv_iconst (v := (3 : Int32)) hx hb dL_law_266 (by decide) ?_
    refine lv_iadd hx hb dL_law_267 ?_
    refine sc_ld 3 hx hb hX hbl hbA hn hL hS rfl (by decide) dL_law_268 ?_
    refine lv_if_eq (tgt := 276) hx hb dL_law_269 (by decide) (fun c9 => absurd c9 cb) (fun _ => ?_)
    refine lv_iconst (v := (1 : Int32)) hx hb dL_law_272 (by decide) ?_
    refine lv_goto (tgt := 277) hx hb dL_law_273 (by decide) ?_
    obtain ⟨r, q1, h⟩ := gn_bd h
    refine lc_V (rest := []) (rv := .long r) (C' := C) (M' := M) (o' := o) (lt' := lt) S0 hN hF hK hP hD hS (c_X6_sum l z K C M o g hG.1 _ _ _ r q1) (post_N hG) (cwV 3 hts gL_law_X6_sum rfl rfl rfl (by decide +kernel) ⟨(Nat.le_of_ble_eq_true rfl), (Nat.le_of_ble_eq_true rfl)⟩) (va_recv hK hP (ci := 5) (q0 := 0) rfl rfl) rfl hl.1 rfl (Nat.le_of_ble_eq_true rfl) dL_law_277 ⟨Nat.le_trans (Nat.add_le_add_left (show rm_X6_sum.cells ≤ 620 from (Nat.le_of_ble_eq_true rfl)) _) hroom.1, Nat.le_trans (Nat.add_le_add_left (show rm_X6_sum.slots ≤ 1240 from (Nat.le_of_ble_eq_true rfl)) _) hroom.2⟩ (Nat.le_of_ble_eq_true rfl) (Nat.le_of_ble_eq_true rfl) (fun g H locs hG hP hD hS => ?_)
    refine W.eq (g2 := F0 m 280 ls [.long r]) rfl ?_
    refine lv_aload_n hx hb dL_law_280 rfl (lv_at hl 2 rfl) ?_
    refine lv_aload_n hx hb dL_law_281 rfl (lv_at hl 0 rfl) ?_
    refine lv_iload hx hb dL_law_282 (lv_at hl 4 rfl) ?_
    refine lv_iconst (v := (1 : Int32)) hx hb dL_law_284 (by decide) ?_
    refine lv_iadd hx hb dL_law_285 ?_
    refine sc_ld 1 hx hb hX hbl hbA hn hL hS rfl (by decide) dL_law_286 ?_
    refine lv_aload_n hx hb dL_law_287 rfl (lv_at hl 0 rfl) ?_
    refine lv_iload hx hb dL_law_288 (lv_at hl 4 rfl) ?_
    refine lv_iconst (v := (2 : Int32)) hx hb dL_law_290 (by decide) ?_
    refine lv_iadd hx hb dL_law_291 ?_
    refine sc_ld 2 hx hb hX hbl hbA hn hL hS rfl (by decide) dL_law_292 ?_
    refine lv_aload_n hx hb dL_law_293 rfl (lv_at hl 0 rfl) ?_
    refine lv_iload hx hb dL_law_294 (lv_at hl 4 rfl) ?_
    refine lv_iconst (v := (3 : Int32)) hx hb dL_law_296 (by decide) ?_
    refine lv_iadd hx hb dL_law_297 ?_
    refine sc_ld 3 hx hb hX hbl hbA hn hL hS rfl (by decide) dL_law_298 ?_
    refine lv_if_eq (tgt := 306) hx hb dL_law_299 (by decide) (fun c9 => absurd c9 cb) (fun _ => ?_)
    refine lv_iconst (v := (1 : Int32)) hx hb dL_law_302 (by decide) ?_
    refine lv_goto (tgt := 307) hx hb dL_law_303 (by decide) ?_
    obtain ⟨q, M1, eq, h⟩ := gn_bd2 h
    refine hc_V (rest := [.long r]) S0 hN hF hK hP hD hS (c_X7_sum l z K _ _ _ _ _ _ M q M1 eq) (cwV 3 hts gL_law_X7_sum rfl rfl rfl (by decide +kernel) ⟨(Nat.le_of_ble_eq_true rfl), (Nat.le_of_ble_eq_true rfl)⟩) (va_recv hK hP (ci := 6) (q0 := 12) rfl rfl) rfl hl.1 rfl (Nat.le_of_ble_eq_true rfl) dL_law_307 hroom.1 hroom.2 (fun H locs hP hD hS => ?_)
    refine W.eq (g2 := F0 m 310 ls [.long q, .long r]) rfl ?_
    refine ll_eq (tgt := 1551) hx hb dL_law_310 dL_law_311 (by decide) (fun c9 => ?_) (fun c9 => ?_)
    · have h := gn_t h c9
      obtain ⟨rfl, h8⟩ := Prod.mk.inj (gn_some h)
      obtain ⟨rfl, rfl⟩ := Prod.mk.inj h8
      exact kk _ _ _ _ _ hG hP hD hS hl
    · have h := gn_f h c9
      cases h
set_option maxRecDepth 100000 in
theorem lw_c2 (A : LC p s m meth c b L xs K) {n : Nat} (hn : n + 6 ≤ L) (hL : L ≤ 3072) {C : CS} {M : MS} {lt : Int64 × Int64} {o : Nat → Int64} {g : Gh} {H : Heap} {locs : List Loc} {cells slots : Nat} {C' : CS} {M' : MS} {lt' : Int64 × Int64} (hroom : cells + 620 ≤ 601024 ∧ slots + 1240 ≤ 7293034) (hG : Gi K g lt) (hP : va_P K.1 vwCl (wd K C M o g) H) (hD : va_D (inA K) (wd K C M o g)) (hS : va_S (inA K) s.heap H locs) (h : lc2 z (xs (n + 1)) (xs (n + 2)) (xs (n + 3)) (xs (n + 4)) (xs (n + 5)) C M lt = some (C', M', lt')) {ls : Array Slot} (hl : lv_has ls 7 [(0, .ref b), (1, .ref (K.2.2.1 0)), (2, .ref (K.2.2.1 12)), (3, .ref (K.2.2.1 17)), (4, .int (Int32.ofNat n))])
    (kk : ∀ (o' : Nat → Int64) (g' : Gh) (H' : Heap) (locs' : List Loc) (ls' : Array Slot), Gi K g' lt' → va_P K.1 vwCl (wd K C' M' o' g') H' → va_D (inA K) (wd K C' M' o' g') → va_S (inA K) s.heap H' locs' → lv_has ls' 7 [(0, .ref b), (1, .ref (K.2.2.1 0)), (2, .ref (K.2.2.1 12)), (3, .ref (K.2.2.1 17)), (4, .int (Int32.ofNat n))] → W p l e room_1 s m #[Value.ref b] below meth c H' locs' (cells + 620) (slots + 1240) Q (F0 m 1551 ls' [])) : W p l e room_1 s m #[Value.ref b] below meth c H locs cells slots Q (F0 m 316 ls []) := by
  obtain ⟨S0, hN, hF, hT, hK, hX, hbl, hbA⟩ := A
  have S9 := S0
  obtain ⟨hx, hb, hml, hown, hts⟩ := S9
  rw [lc2] at h
  by_cases cb : xs (n + 3) = 0
  · rw [show bo (xs (n + 3)) = 0 from if_pos cb] at h
    refine lv_aload_n hx hb dL_law_316 rfl (lv_at hl 1 rfl) ?_
    refine lv_aload_n hx hb dL_law_317 rfl (lv_at hl 0 rfl) ?_
    refine lv_iload hx hb dL_law_318 (lv_at hl 4 rfl) ?_
    refine lv_iconst (v := (1 : Int32)) hx hb dL_law_320 (by decide) ?_
    refine lv_iadd hx hb dL_law_321 ?_
    refine sc_ld 1 hx hb hX hbl hbA hn hL hS rfl (by decide) dL_law_322 ?_
    refine lv_aload_n hx hb dL_law_323 rfl (lv_at hl 0 rfl) ?_
    refine lv_iload hx hb dL_law_324 (lv_at hl 4 rfl) ?_
    refine lv_iconst (v := (2 : Int32)) hx hb dL_law_326 (by decide) ?_
    refine lv_iadd hx hb dL_law_327 ?_
    refine sc_ld 2 hx hb hX hbl hbA hn hL hS rfl (by decide) dL_law_328 ?_
    refine lv_aload_n hx hb dL_law_329 rfl (lv_at hl 0 rfl) ?_
    refine lv_iload hx hb dL_law_330 (lv_at hl 4 rfl) ?_
    refine lv_iconst (v := (3 : Int32)) hx hb dL_law_332 (by decide) ?_
    refine lv_iadd hx hb dL_law_333 ?_
    refine sc_ld 3 hx hb hX hbl hbA hn hL hS rfl (by decide) dL_law_334 ?_
    refine lv_if_eq (tgt := 342) hx hb dL_law_335 (by decide) (fun _ => ?_) (fun c9 => absurd cb c9)
    refine lv_iconst (v := (0 : Int32)) hx hb dL_law_342 (by decide) ?_
    obtain ⟨r, q1, h⟩ := gn_bd h
    refine lc_V (rest := []) (rv := .long r) (C' := C) (M' := M) (o' := o) (lt' := lt) S0 hN hF hK hP hD hS (c_X6_both l z K C M o g hG.1 _ _ _ r q1) (post_N hG) (cwV 3 hts gL_law_X6_both rfl rfl rfl (by decide +kernel) ⟨(Nat.le_of_ble_eq_true rfl), (Nat.le_of_ble_eq_true rfl)⟩) (va_recv hK hP (ci := 5) (q0 := 0) rfl rfl) rfl hl.1 rfl (Nat.le_of_ble_eq_true rfl) dL_law_343 ⟨Nat.le_trans (Nat.add_le_add_left (show rm_X6_both.cells ≤ 620 from (Nat.le_of_ble_eq_true rfl)) _) hroom.1, Nat.le_trans (Nat.add_le_add_left (show rm_X6_both.slots ≤ 1240 from (Nat.le_of_ble_eq_true rfl)) _) hroom.2⟩ (Nat.le_of_ble_eq_true rfl) (Nat.le_of_ble_eq_true rfl) (fun g H locs hG hP hD hS => ?_)
    refine W.eq (g2 := F0 m 346 ls [.long r]) rfl ?_
    refine lv_aload_n hx hb dL_law_346 rfl (lv_at hl 2 rfl) ?_
    refine lv_aload_n hx hb dL_law_347 rfl (lv_at hl 0 rfl) ?_
    refine lv_iload hx hb dL_law_348 (lv_at hl 4 rfl) ?_
    refine lv_iconst (v := (1 : Int32)) hx hb dL_law_350 (by decide) ?_
    refine lv_iadd hx hb dL_law_351 ?_
    refine sc_ld 1 hx hb hX hbl hbA hn hL hS rfl (by decide) dL_law_352 ?_
    refine lv_aload_n hx hb dL_law_353 rfl (lv_at hl 0 rfl) ?_
    refine lv_iload hx hb dL_law_354 (lv_at hl 4 rfl) ?_
    refine lv_iconst (v := (2 : Int32)) hx hb dL_law_356 (by decide) ?_
    refine lv_iadd hx hb dL_law_357 ?_
    refine sc_ld 2 hx hb hX hbl hbA hn hL hS rfl (by decide) dL_law_358 ?_
    refine lv_aload_n hx hb dL_law_359 rfl (lv_at hl 0 rfl) ?_
    refine lv_iload hx hb dL_law_360 (lv_at hl 4 rfl) ?_
    refine lv_iconst (v := (3 : Int32)) hx hb dL_law_362 (by decide) ?_
    refine lv_iadd hx hb dL_law_363 ?_
    refine sc_ld 3 hx hb hX hbl hbA hn hL hS rfl (by decide) dL_law_364 ?_
    refine lv_if_eq (tgt := 372) hx hb dL_law_365 (by decide) (fun _ => ?_) (fun c9 => absurd cb c9)
    refine lv_iconst (v := (0 : Int32)) hx hb dL_law_372 (by decide) ?_
    obtain ⟨q, M1, eq, h⟩ := gn_bd2 h
    refine hc_V (rest := [.long r]) S0 hN hF hK hP hD hS (c_X7_both l z K _ _ _ _ _ _ M q M1 eq) (cwV 3 hts gL_law_X7_both rfl rfl rfl (by decide +kernel) ⟨(Nat.le_of_ble_eq_true rfl), (Nat.le_of_ble_eq_true rfl)⟩) (va_recv hK hP (ci := 6) (q0 := 12) rfl rfl) rfl hl.1 rfl (Nat.le_of_ble_eq_true rfl) dL_law_373 hroom.1 hroom.2 (fun H locs hP hD hS => ?_)
    refine W.eq (g2 := F0 m 376 ls [.long q, .long r]) rfl ?_
    refine ll_eq (tgt := 1551) hx hb dL_law_376 dL_law_377 (by decide) (fun c9 => ?_) (fun c9 => ?_)
    · have h := gn_t h c9
      obtain ⟨rfl, h8⟩ := Prod.mk.inj (gn_some h)
      obtain ⟨rfl, rfl⟩ := Prod.mk.inj h8
      exact kk _ _ _ _ _ hG hP hD hS hl
    · have h := gn_f h c9
      cases h
  · rw [show bo (xs (n + 3)) = 1 from if_neg cb] at h
    refine lv_aload_n hx hb dL_law_316 rfl (lv_at hl 1 rfl) ?_
    refine lv_aload_n hx hb dL_law_317 rfl (lv_at hl 0 rfl) ?_
    refine lv_iload hx hb dL_law_318 (lv_at hl 4 rfl) ?_
    refine lv_iconst (v := (1 : Int32)) hx hb dL_law_320 (by decide) ?_
    refine lv_iadd hx hb dL_law_321 ?_
    refine sc_ld 1 hx hb hX hbl hbA hn hL hS rfl (by decide) dL_law_322 ?_
    refine lv_aload_n hx hb dL_law_323 rfl (lv_at hl 0 rfl) ?_
    refine lv_iload hx hb dL_law_324 (lv_at hl 4 rfl) ?_
    refine lv_iconst (v := (2 : Int32)) hx hb dL_law_326 (by decide) ?_
    refine lv_iadd hx hb dL_law_327 ?_
    refine sc_ld 2 hx hb hX hbl hbA hn hL hS rfl (by decide) dL_law_328 ?_
    refine lv_aload_n hx hb dL_law_329 rfl (lv_at hl 0 rfl) ?_
    refine lv_iload hx hb dL_law_330 (lv_at hl 4 rfl) ?_
    refine lv_iconst (v := (3 : Int32)) hx hb dL_law_332 (by decide) ?_
    refine lv_iadd hx hb dL_law_333 ?_
    refine sc_ld 3 hx hb hX hbl hbA hn hL hS rfl (by decide) dL_law_334 ?_
    refine lv_if_eq (tgt := 342) hx hb dL_law_335 (by decide) (fun c9 => absurd c9 cb) (fun _ => ?_)
    refine lv_iconst (v := (1 : Int32)) hx hb dL_law_338 (by decide) ?_
    refine lv_goto (tgt := 343) hx hb dL_law_339 (by decide) ?_
    obtain ⟨r, q1, h⟩ := gn_bd h
    refine lc_V (rest := []) (rv := .long r) (C' := C) (M' := M) (o' := o) (lt' := lt) S0 hN hF hK hP hD hS (c_X6_both l z K C M o g hG.1 _ _ _ r q1) (post_N hG) (cwV 3 hts gL_law_X6_both rfl rfl rfl (by decide +kernel) ⟨(Nat.le_of_ble_eq_true rfl), (Nat.le_of_ble_eq_true rfl)⟩) (va_recv hK hP (ci := 5) (q0 := 0) rfl rfl) rfl hl.1 rfl (Nat.le_of_ble_eq_true rfl) dL_law_343 ⟨Nat.le_trans (Nat.add_le_add_left (show rm_X6_both.cells ≤ 620 from (Nat.le_of_ble_eq_true rfl)) _) hroom.1, Nat.le_trans (Nat.add_le_add_left (show rm_X6_both.slots ≤ 1240 from (Nat.le_of_ble_eq_true rfl)) _) hroom.2⟩ (Nat.le_of_ble_eq_true rfl) (Nat.le_of_ble_eq_true rfl) (fun g H locs hG hP hD hS => ?_)
    refine W.eq (g2 := F0 m 346 ls [.long r]) rfl ?_
    refine lv_aload_n hx hb dL_law_346 rfl (lv_at hl 2 rfl) ?_
    refine lv_aload_n hx hb dL_law_347 rfl (lv_at hl 0 rfl) ?_
    refine lv_iload hx hb dL_law_348 (lv_at hl 4 rfl) ?_
    refine lv_iconst (v := (1 : Int32)) hx hb dL_law_350 (by decide) ?_
    refine lv_iadd hx hb dL_law_351 ?_
    refine sc_ld 1 hx hb hX hbl hbA hn hL hS rfl (by decide) dL_law_352 ?_
    refine lv_aload_n hx hb dL_law_353 rfl (lv_at hl 0 rfl) ?_
    refine lv_iload hx hb dL_law_354 (lv_at hl 4 rfl) ?_
    refine lv_iconst (v := (2 : Int32)) hx hb dL_law_356 (by decide) ?_
    refine lv_iadd hx hb dL_law_357 ?_
    refine sc_ld 2 hx hb hX hbl hbA hn hL hS rfl (by decide) dL_law_358 ?_
    refine lv_aload_n hx hb dL_law_359 rfl (lv_at hl 0 rfl) ?_
    refine lv_iload hx hb dL_law_360 (lv_at hl 4 rfl) ?_
    refine lv_iconst (v := (3 : Int32)) hx hb dL_law_362 (by decide) ?_
    refine lv_iadd hx hb dL_law_363 ?_
    refine sc_ld 3 hx hb hX hbl hbA hn hL hS rfl (by decide) dL_law_364 ?_
    refine lv_if_eq (tgt := 372) hx hb dL_law_365 (by decide) (fun c9 => absurd c9 cb) (fun _ => ?_)
    refine lv_iconst (v := (1 : Int32)) hx hb dL_law_368 (by decide) ?_
    refine lv_goto (tgt := 373) hx hb dL_law_369 (by decide) ?_
    obtain ⟨q, M1, eq, h⟩ := gn_bd2 h
    refine hc_V (rest := [.long r]) S0 hN hF hK hP hD hS (c_X7_both l z K _ _ _ _ _ _ M q M1 eq) (cwV 3 hts gL_law_X7_both rfl rfl rfl (by decide +kernel) ⟨(Nat.le_of_ble_eq_true rfl), (Nat.le_of_ble_eq_true rfl)⟩) (va_recv hK hP (ci := 6) (q0 := 12) rfl rfl) rfl hl.1 rfl (Nat.le_of_ble_eq_true rfl) dL_law_373 hroom.1 hroom.2 (fun H locs hP hD hS => ?_)
    refine W.eq (g2 := F0 m 376 ls [.long q, .long r]) rfl ?_
    refine ll_eq (tgt := 1551) hx hb dL_law_376 dL_law_377 (by decide) (fun c9 => ?_) (fun c9 => ?_)
    · have h := gn_t h c9
      obtain ⟨rfl, h8⟩ := Prod.mk.inj (gn_some h)
      obtain ⟨rfl, rfl⟩ := Prod.mk.inj h8
      exact kk _ _ _ _ _ hG hP hD hS hl
    · have h := gn_f h c9
      cases h
set_option maxRecDepth 100000 in
theorem lw_c3 (A : LC p s m meth c b L xs K) {n : Nat} (hn : n + 6 ≤ L) (hL : L ≤ 3072) {C : CS} {M : MS} {lt : Int64 × Int64} {o : Nat → Int64} {g : Gh} {H : Heap} {locs : List Loc} {cells slots : Nat} {C' : CS} {M' : MS} {lt' : Int64 × Int64} (hroom : cells + 620 ≤ 601024 ∧ slots + 1240 ≤ 7293034) (hG : Gi K g lt) (hP : va_P K.1 vwCl (wd K C M o g) H) (hD : va_D (inA K) (wd K C M o g)) (hS : va_S (inA K) s.heap H locs) (h : lc3 z (xs (n + 1)) (xs (n + 2)) (xs (n + 3)) (xs (n + 4)) (xs (n + 5)) C M lt = some (C', M', lt')) {ls : Array Slot} (hl : lv_has ls 7 [(0, .ref b), (1, .ref (K.2.2.1 0)), (2, .ref (K.2.2.1 12)), (3, .ref (K.2.2.1 17)), (4, .int (Int32.ofNat n))])
    (kk : ∀ (o' : Nat → Int64) (g' : Gh) (H' : Heap) (locs' : List Loc) (ls' : Array Slot), Gi K g' lt' → va_P K.1 vwCl (wd K C' M' o' g') H' → va_D (inA K) (wd K C' M' o' g') → va_S (inA K) s.heap H' locs' → lv_has ls' 7 [(0, .ref b), (1, .ref (K.2.2.1 0)), (2, .ref (K.2.2.1 12)), (3, .ref (K.2.2.1 17)), (4, .int (Int32.ofNat n))] → W p l e room_1 s m #[Value.ref b] below meth c H' locs' (cells + 620) (slots + 1240) Q (F0 m 1551 ls' [])) : W p l e room_1 s m #[Value.ref b] below meth c H locs cells slots Q (F0 m 382 ls []) := by
  obtain ⟨S0, hN, hF, hT, hK, hX, hbl, hbA⟩ := A
  have S9 := S0
  obtain ⟨hx, hb, hml, hown, hts⟩ := S9
  rw [lc3] at h
  by_cases cb : xs (n + 4) = 0
  · rw [show bo (xs (n + 4)) = 0 from if_pos cb] at h
    refine lv_aload_n hx hb dL_law_382 rfl (lv_at hl 1 rfl) ?_
    refine lv_aload_n hx hb dL_law_383 rfl (lv_at hl 0 rfl) ?_
    refine lv_iload hx hb dL_law_384 (lv_at hl 4 rfl) ?_
    refine lv_iconst (v := (1 : Int32)) hx hb dL_law_386 (by decide) ?_
    refine lv_iadd hx hb dL_law_387 ?_
    refine sc_ld 1 hx hb hX hbl hbA hn hL hS rfl (by decide) dL_law_388 ?_
    refine lv_aload_n hx hb dL_law_389 rfl (lv_at hl 0 rfl) ?_
    refine lv_iload hx hb dL_law_390 (lv_at hl 4 rfl) ?_
    refine lv_iconst (v := (2 : Int32)) hx hb dL_law_392 (by decide) ?_
    refine lv_iadd hx hb dL_law_393 ?_
    refine sc_ld 2 hx hb hX hbl hbA hn hL hS rfl (by decide) dL_law_394 ?_
    refine lv_aload_n hx hb dL_law_395 rfl (lv_at hl 0 rfl) ?_
    refine lv_iload hx hb dL_law_396 (lv_at hl 4 rfl) ?_
    refine lv_iconst (v := (3 : Int32)) hx hb dL_law_398 (by decide) ?_
    refine lv_iadd hx hb dL_law_399 ?_
    refine sc_ld 3 hx hb hX hbl hbA hn hL hS rfl (by decide) dL_law_400 ?_
    refine lv_aload_n hx hb dL_law_401 rfl (lv_at hl 0 rfl) ?_
    refine lv_iload hx hb dL_law_402 (lv_at hl 4 rfl) ?_
    refine lv_iconst (v := (4 : Int32)) hx hb dL_law_404 (by decide) ?_
    refine lv_iadd hx hb dL_law_405 ?_
    refine sc_ld 4 hx hb hX hbl hbA hn hL hS rfl (by decide) dL_law_406 ?_
    refine lv_if_eq (tgt := 414) hx hb dL_law_407 (by decide) (fun _ => ?_) (fun c9 => absurd cb c9)
    refine lv_iconst (v := (0 : Int32)) hx hb dL_law_414 (by decide) ?_
    obtain ⟨r, q1, h⟩ := gn_bd h
    refine lc_V (rest := []) (rv := .long r) (C' := C) (M' := M) (o' := o) (lt' := lt) S0 hN hF hK hP hD hS (c_X6_three l z K C M o g hG.1 _ _ _ _ r q1) (post_N hG) (cwV 4 hts gL_law_X6_three rfl rfl rfl (by decide +kernel) ⟨(Nat.le_of_ble_eq_true rfl), (Nat.le_of_ble_eq_true rfl)⟩) (va_recv hK hP (ci := 5) (q0 := 0) rfl rfl) rfl hl.1 rfl (Nat.le_of_ble_eq_true rfl) dL_law_415 ⟨Nat.le_trans (Nat.add_le_add_left (show rm_X6_three.cells ≤ 620 from (Nat.le_of_ble_eq_true rfl)) _) hroom.1, Nat.le_trans (Nat.add_le_add_left (show rm_X6_three.slots ≤ 1240 from (Nat.le_of_ble_eq_true rfl)) _) hroom.2⟩ (Nat.le_of_ble_eq_true rfl) (Nat.le_of_ble_eq_true rfl) (fun g H locs hG hP hD hS => ?_)
    refine W.eq (g2 := F0 m 418 ls [.long r]) rfl ?_
    refine lv_aload_n hx hb dL_law_418 rfl (lv_at hl 2 rfl) ?_
    refine lv_aload_n hx hb dL_law_419 rfl (lv_at hl 0 rfl) ?_
    refine lv_iload hx hb dL_law_420 (lv_at hl 4 rfl) ?_
    refine lv_iconst (v := (1 : Int32)) hx hb dL_law_422 (by decide) ?_
    refine lv_iadd hx hb dL_law_423 ?_
    refine sc_ld 1 hx hb hX hbl hbA hn hL hS rfl (by decide) dL_law_424 ?_
    refine lv_aload_n hx hb dL_law_425 rfl (lv_at hl 0 rfl) ?_
    refine lv_iload hx hb dL_law_426 (lv_at hl 4 rfl) ?_
    refine lv_iconst (v := (2 : Int32)) hx hb dL_law_428 (by decide) ?_
    refine lv_iadd hx hb dL_law_429 ?_
    refine sc_ld 2 hx hb hX hbl hbA hn hL hS rfl (by decide) dL_law_430 ?_
    refine lv_aload_n hx hb dL_law_431 rfl (lv_at hl 0 rfl) ?_
    refine lv_iload hx hb dL_law_432 (lv_at hl 4 rfl) ?_
    refine lv_iconst (v := (3 : Int32)) hx hb dL_law_434 (by decide) ?_
    refine lv_iadd hx hb dL_law_435 ?_
    refine sc_ld 3 hx hb hX hbl hbA hn hL hS rfl (by decide) dL_law_436 ?_
    refine lv_aload_n hx hb dL_law_437 rfl (lv_at hl 0 rfl) ?_
    refine lv_iload hx hb dL_law_438 (lv_at hl 4 rfl) ?_
    refine lv_iconst (v := (4 : Int32)) hx hb dL_law_440 (by decide) ?_
    refine lv_iadd hx hb dL_law_441 ?_
    refine sc_ld 4 hx hb hX hbl hbA hn hL hS rfl (by decide) dL_law_442 ?_
    refine lv_if_eq (tgt := 450) hx hb dL_law_443 (by decide) (fun _ => ?_) (fun c9 => absurd cb c9)
    refine lv_iconst (v := (0 : Int32)) hx hb dL_law_450 (by decide) ?_
    obtain ⟨q, M1, eq, h⟩ := gn_bd2 h
    refine hc_V (rest := [.long r]) S0 hN hF hK hP hD hS (c_X7_three l z K _ _ _ _ _ _ _ M q M1 eq) (cwV 4 hts gL_law_X7_three rfl rfl rfl (by decide +kernel) ⟨(Nat.le_of_ble_eq_true rfl), (Nat.le_of_ble_eq_true rfl)⟩) (va_recv hK hP (ci := 6) (q0 := 12) rfl rfl) rfl hl.1 rfl (Nat.le_of_ble_eq_true rfl) dL_law_451 hroom.1 hroom.2 (fun H locs hP hD hS => ?_)
    refine W.eq (g2 := F0 m 454 ls [.long q, .long r]) rfl ?_
    refine ll_eq (tgt := 1551) hx hb dL_law_454 dL_law_455 (by decide) (fun c9 => ?_) (fun c9 => ?_)
    · have h := gn_t h c9
      obtain ⟨rfl, h8⟩ := Prod.mk.inj (gn_some h)
      obtain ⟨rfl, rfl⟩ := Prod.mk.inj h8
      exact kk _ _ _ _ _ hG hP hD hS hl
    · have h := gn_f h c9
      cases h
  · rw [show bo (xs (n + 4)) = 1 from if_neg cb] at h
    refine lv_aload_n hx hb dL_law_382 rfl (lv_at hl 1 rfl) ?_
    refine lv_aload_n hx hb dL_law_383 rfl (lv_at hl 0 rfl) ?_
    refine lv_iload hx hb dL_law_384 (lv_at hl 4 rfl) ?_
    refine lv_iconst (v := (1 : Int32)) hx hb dL_law_386 (by decide) ?_
    refine lv_iadd hx hb dL_law_387 ?_
    refine sc_ld 1 hx hb hX hbl hbA hn hL hS rfl (by decide) dL_law_388 ?_
    refine lv_aload_n hx hb dL_law_389 rfl (lv_at hl 0 rfl) ?_
    refine lv_iload hx hb dL_law_390 (lv_at hl 4 rfl) ?_
    refine lv_iconst (v := (2 : Int32)) hx hb dL_law_392 (by decide) ?_
    refine lv_iadd hx hb dL_law_393 ?_
    refine sc_ld 2 hx hb hX hbl hbA hn hL hS rfl (by decide) dL_law_394 ?_
    refine lv_aload_n hx hb dL_law_395 rfl (lv_at hl 0 rfl) ?_
    refine lv_iload hx hb dL_law_396 (lv_at hl 4 rfl) ?_
    refine lv_iconst (v := (3 : Int32)) hx hb dL_law_398 (by decide) ?_
    refine lv_iadd hx hb dL_law_399 ?_
    refine sc_ld 3 hx hb hX hbl hbA hn hL hS rfl (by decide) dL_law_400 ?_
    refine lv_aload_n hx hb dL_law_401 rfl (lv_at hl 0 rfl) ?_
    refine lv_iload hx hb dL_law_402 (lv_at hl 4 rfl) ?_
    refine lv_iconst (v := (4 : Int32)) hx hb dL_law_404 (by decide) ?_
    refine lv_iadd hx hb dL_law_405 ?_
    refine sc_ld 4 hx hb hX hbl hbA hn hL hS rfl (by decide) dL_law_406 ?_
    refine lv_if_eq (tgt := 414) hx hb dL_law_407 (by decide) (fun c9 => absurd c9 cb) (fun _ => ?_)
    refine lv_iconst (v := (1 : Int32)) hx hb dL_law_410 (by decide) ?_
    refine lv_goto (tgt := 415) hx hb dL_law_411 (by decide) ?_
    obtain ⟨r, q1, h⟩ := gn_bd h
    refine lc_V (rest := []) (rv := .long r) (C' := C) (M' := M) (o' := o) (lt' := lt) S0 hN hF hK hP hD hS (c_X6_three l z K C M o g hG.1 _ _ _ _ r q1) (post_N hG) (cwV 4 hts gL_law_X6_three rfl rfl rfl (by decide +kernel) ⟨(Nat.le_of_ble_eq_true rfl), (Nat.le_of_ble_eq_true rfl)⟩) (va_recv hK hP (ci := 5) (q0 := 0) rfl rfl) rfl hl.1 rfl (Nat.le_of_ble_eq_true rfl) dL_law_415 ⟨Nat.le_trans (Nat.add_le_add_left (show rm_X6_three.cells ≤ 620 from (Nat.le_of_ble_eq_true rfl)) _) hroom.1, Nat.le_trans (Nat.add_le_add_left (show rm_X6_three.slots ≤ 1240 from (Nat.le_of_ble_eq_true rfl)) _) hroom.2⟩ (Nat.le_of_ble_eq_true rfl) (Nat.le_of_ble_eq_true rfl) (fun g H locs hG hP hD hS => ?_)
    refine W.eq (g2 := F0 m 418 ls [.long r]) rfl ?_
    refine lv_aload_n hx hb dL_law_418 rfl (lv_at hl 2 rfl) ?_
    refine lv_aload_n hx hb dL_law_419 rfl (lv_at hl 0 rfl) ?_
    refine lv_iload hx hb dL_law_420 (lv_at hl 4 rfl) ?_
    refine lv_iconst (v := (1 : Int32)) hx hb dL_law_422 (by decide) ?_
    refine lv_iadd hx hb dL_law_423 ?_
    refine sc_ld 1 hx hb hX hbl hbA hn hL hS rfl (by decide) dL_law_424 ?_
    refine lv_aload_n hx hb dL_law_425 rfl (lv_at hl 0 rfl) ?_
    refine lv_iload hx hb dL_law_426 (lv_at hl 4 rfl) ?_
    refine lv_iconst (v := (2 : Int32)) hx hb dL_law_428 (by decide) ?_
    refine lv_iadd hx hb dL_law_429 ?_
    refine sc_ld 2 hx hb hX hbl hbA hn hL hS rfl (by decide) dL_law_430 ?_
    refine lv_aload_n hx hb dL_law_431 rfl (lv_at hl 0 rfl) ?_
    refine lv_iload hx hb dL_law_432 (lv_at hl 4 rfl) ?_
    refine lv_iconst (v := (3 : Int32)) hx hb dL_law_434 (by decide) ?_
    refine lv_iadd hx hb dL_law_435 ?_
    refine sc_ld 3 hx hb hX hbl hbA hn hL hS rfl (by decide) dL_law_436 ?_
    refine lv_aload_n hx hb dL_law_437 rfl (lv_at hl 0 rfl) ?_
    refine lv_iload hx hb dL_law_438 (lv_at hl 4 rfl) ?_
    refine lv_iconst (v := (4 : Int32)) hx hb dL_law_440 (by decide) ?_
    refine lv_iadd hx hb dL_law_441 ?_
    refine sc_ld 4 hx hb hX hbl hbA hn hL hS rfl (by decide) dL_law_442 ?_
    refine lv_if_eq (tgt := 450) hx hb dL_law_443 (by decide) (fun c9 => absurd c9 cb) (fun _ => ?_)
    refine lv_iconst (v := (1 : Int32)) hx hb dL_law_446 (by decide) ?_
    refine lv_goto (tgt := 451) hx hb dL_law_447 (by decide) ?_
    obtain ⟨q, M1, eq, h⟩ := gn_bd2 h
    refine hc_V (rest := [.long r]) S0 hN hF hK hP hD hS (c_X7_three l z K _ _ _ _ _ _ _ M q M1 eq) (cwV 4 hts gL_law_X7_three rfl rfl rfl (by decide +kernel) ⟨(Nat.le_of_ble_eq_true rfl), (Nat.le_of_ble_eq_true rfl)⟩) (va_recv hK hP (ci := 6) (q0 := 12) rfl rfl) rfl hl.1 rfl (Nat.le_of_ble_eq_true rfl) dL_law_451 hroom.1 hroom.2 (fun H locs hP hD hS => ?_)
    refine W.eq (g2 := F0 m 454 ls [.long q, .long r]) rfl ?_
    refine ll_eq (tgt := 1551) hx hb dL_law_454 dL_law_455 (by decide) (fun c9 => ?_) (fun c9 => ?_)
    · have h := gn_t h c9
      obtain ⟨rfl, h8⟩ := Prod.mk.inj (gn_some h)
      obtain ⟨rfl, rfl⟩ := Prod.mk.inj h8
      exact kk _ _ _ _ _ hG hP hD hS hl
    · have h := gn_f h c9
      cases h
set_option maxRecDepth 100000 in
theorem lw_c4 (A : LC p s m meth c b L xs K) {n : Nat} (hn : n + 6 ≤ L) (hL : L ≤ 3072) {C : CS} {M : MS} {lt : Int64 × Int64} {o : Nat → Int64} {g : Gh} {H : Heap} {locs : List Loc} {cells slots : Nat} {C' : CS} {M' : MS} {lt' : Int64 × Int64} (hroom : cells + 620 ≤ 601024 ∧ slots + 1240 ≤ 7293034) (hG : Gi K g lt) (hP : va_P K.1 vwCl (wd K C M o g) H) (hD : va_D (inA K) (wd K C M o g)) (hS : va_S (inA K) s.heap H locs) (h : lc4 z (xs (n + 1)) (xs (n + 2)) (xs (n + 3)) (xs (n + 4)) (xs (n + 5)) C M lt = some (C', M', lt')) {ls : Array Slot} (hl : lv_has ls 7 [(0, .ref b), (1, .ref (K.2.2.1 0)), (2, .ref (K.2.2.1 12)), (3, .ref (K.2.2.1 17)), (4, .int (Int32.ofNat n))])
    (kk : ∀ (o' : Nat → Int64) (g' : Gh) (H' : Heap) (locs' : List Loc) (ls' : Array Slot), Gi K g' lt' → va_P K.1 vwCl (wd K C' M' o' g') H' → va_D (inA K) (wd K C' M' o' g') → va_S (inA K) s.heap H' locs' → lv_has ls' 7 [(0, .ref b), (1, .ref (K.2.2.1 0)), (2, .ref (K.2.2.1 12)), (3, .ref (K.2.2.1 17)), (4, .int (Int32.ofNat n))] → W p l e room_1 s m #[Value.ref b] below meth c H' locs' (cells + 620) (slots + 1240) Q (F0 m 1551 ls' [])) : W p l e room_1 s m #[Value.ref b] below meth c H locs cells slots Q (F0 m 460 ls []) := by
  obtain ⟨S0, hN, hF, hT, hK, hX, hbl, hbA⟩ := A
  have S9 := S0
  obtain ⟨hx, hb, hml, hown, hts⟩ := S9
  rw [lc4] at h
  refine lv_aload_n hx hb dL_law_460 rfl (lv_at hl 1 rfl) ?_
  refine lv_aload_n hx hb dL_law_461 rfl (lv_at hl 0 rfl) ?_
  refine lv_iload hx hb dL_law_462 (lv_at hl 4 rfl) ?_
  refine lv_iconst (v := (1 : Int32)) hx hb dL_law_464 (by decide) ?_
  refine lv_iadd hx hb dL_law_465 ?_
  refine sc_ld 1 hx hb hX hbl hbA hn hL hS rfl (by decide) dL_law_466 ?_
  refine lv_aload_n hx hb dL_law_467 rfl (lv_at hl 0 rfl) ?_
  refine lv_iload hx hb dL_law_468 (lv_at hl 4 rfl) ?_
  refine lv_iconst (v := (2 : Int32)) hx hb dL_law_470 (by decide) ?_
  refine lv_iadd hx hb dL_law_471 ?_
  refine sc_ld 2 hx hb hX hbl hbA hn hL hS rfl (by decide) dL_law_472 ?_
  refine lv_aload_n hx hb dL_law_473 rfl (lv_at hl 0 rfl) ?_
  refine lv_iload hx hb dL_law_474 (lv_at hl 4 rfl) ?_
  refine lv_iconst (v := (3 : Int32)) hx hb dL_law_476 (by decide) ?_
  refine lv_iadd hx hb dL_law_477 ?_
  refine sc_ld 3 hx hb hX hbl hbA hn hL hS rfl (by decide) dL_law_478 ?_
  obtain ⟨r, C1, q1, h⟩ := gn_bd2 h
  refine lc_V (rest := []) (rv := .long r) (C' := C1) (M' := M) (o' := o) (lt' := lt) S0 hN hF hK hP hD hS (c_X6_above l z K M o g _ _ _ C r C1 q1) (post_R hG) (cwV 3 hts gL_law_X6_above rfl rfl rfl (by decide +kernel) ⟨(Nat.le_of_ble_eq_true rfl), (Nat.le_of_ble_eq_true rfl)⟩) (va_recv hK hP (ci := 5) (q0 := 0) rfl rfl) rfl hl.1 rfl (Nat.le_of_ble_eq_true rfl) dL_law_479 ⟨Nat.le_trans (Nat.add_le_add_left (show rm_X6_above.cells ≤ 620 from (Nat.le_of_ble_eq_true rfl)) _) hroom.1, Nat.le_trans (Nat.add_le_add_left (show rm_X6_above.slots ≤ 1240 from (Nat.le_of_ble_eq_true rfl)) _) hroom.2⟩ (Nat.le_of_ble_eq_true rfl) (Nat.le_of_ble_eq_true rfl) (fun g H locs hG hP hD hS => ?_)
  refine W.eq (g2 := F0 m 482 ls [.long r]) rfl ?_
  refine lv_aload_n hx hb dL_law_482 rfl (lv_at hl 2 rfl) ?_
  refine lv_aload_n hx hb dL_law_483 rfl (lv_at hl 0 rfl) ?_
  refine lv_iload hx hb dL_law_484 (lv_at hl 4 rfl) ?_
  refine lv_iconst (v := (1 : Int32)) hx hb dL_law_486 (by decide) ?_
  refine lv_iadd hx hb dL_law_487 ?_
  refine sc_ld 1 hx hb hX hbl hbA hn hL hS rfl (by decide) dL_law_488 ?_
  refine lv_aload_n hx hb dL_law_489 rfl (lv_at hl 0 rfl) ?_
  refine lv_iload hx hb dL_law_490 (lv_at hl 4 rfl) ?_
  refine lv_iconst (v := (2 : Int32)) hx hb dL_law_492 (by decide) ?_
  refine lv_iadd hx hb dL_law_493 ?_
  refine sc_ld 2 hx hb hX hbl hbA hn hL hS rfl (by decide) dL_law_494 ?_
  refine lv_aload_n hx hb dL_law_495 rfl (lv_at hl 0 rfl) ?_
  refine lv_iload hx hb dL_law_496 (lv_at hl 4 rfl) ?_
  refine lv_iconst (v := (3 : Int32)) hx hb dL_law_498 (by decide) ?_
  refine lv_iadd hx hb dL_law_499 ?_
  refine sc_ld 3 hx hb hX hbl hbA hn hL hS rfl (by decide) dL_law_500 ?_
  obtain ⟨q, M1, eq, h⟩ := gn_bd2 h
  refine hc_V (rest := [.long r]) S0 hN hF hK hP hD hS (c_X7_above l z K _ _ _ _ _ _ M q M1 eq) (cwV 3 hts gL_law_X7_above rfl rfl rfl (by decide +kernel) ⟨(Nat.le_of_ble_eq_true rfl), (Nat.le_of_ble_eq_true rfl)⟩) (va_recv hK hP (ci := 6) (q0 := 12) rfl rfl) rfl hl.1 rfl (Nat.le_of_ble_eq_true rfl) dL_law_501 hroom.1 hroom.2 (fun H locs hP hD hS => ?_)
  refine W.eq (g2 := F0 m 504 ls [.long q, .long r]) rfl ?_
  refine ll_eq (tgt := 1551) hx hb dL_law_504 dL_law_505 (by decide) (fun c9 => ?_) (fun c9 => ?_)
  · have h := gn_t h c9
    obtain ⟨rfl, h8⟩ := Prod.mk.inj (gn_some h)
    obtain ⟨rfl, rfl⟩ := Prod.mk.inj h8
    exact kk _ _ _ _ _ hG hP hD hS hl
  · have h := gn_f h c9
    cases h
set_option maxRecDepth 100000 in
theorem lw_c5 (A : LC p s m meth c b L xs K) {n : Nat} (hn : n + 6 ≤ L) (hL : L ≤ 3072) {C : CS} {M : MS} {lt : Int64 × Int64} {o : Nat → Int64} {g : Gh} {H : Heap} {locs : List Loc} {cells slots : Nat} {C' : CS} {M' : MS} {lt' : Int64 × Int64} (hroom : cells + 620 ≤ 601024 ∧ slots + 1240 ≤ 7293034) (hG : Gi K g lt) (hP : va_P K.1 vwCl (wd K C M o g) H) (hD : va_D (inA K) (wd K C M o g)) (hS : va_S (inA K) s.heap H locs) (h : lc5 z (xs (n + 1)) (xs (n + 2)) (xs (n + 3)) (xs (n + 4)) (xs (n + 5)) C M lt = some (C', M', lt')) {ls : Array Slot} (hl : lv_has ls 7 [(0, .ref b), (1, .ref (K.2.2.1 0)), (2, .ref (K.2.2.1 12)), (3, .ref (K.2.2.1 17)), (4, .int (Int32.ofNat n))])
    (kk : ∀ (o' : Nat → Int64) (g' : Gh) (H' : Heap) (locs' : List Loc) (ls' : Array Slot), Gi K g' lt' → va_P K.1 vwCl (wd K C' M' o' g') H' → va_D (inA K) (wd K C' M' o' g') → va_S (inA K) s.heap H' locs' → lv_has ls' 7 [(0, .ref b), (1, .ref (K.2.2.1 0)), (2, .ref (K.2.2.1 12)), (3, .ref (K.2.2.1 17)), (4, .int (Int32.ofNat n))] → W p l e room_1 s m #[Value.ref b] below meth c H' locs' (cells + 620) (slots + 1240) Q (F0 m 1551 ls' [])) : W p l e room_1 s m #[Value.ref b] below meth c H locs cells slots Q (F0 m 510 ls []) := by
  obtain ⟨S0, hN, hF, hT, hK, hX, hbl, hbA⟩ := A
  have S9 := S0
  obtain ⟨hx, hb, hml, hown, hts⟩ := S9
  rw [lc5] at h
  refine lv_aload_n hx hb dL_law_510 rfl (lv_at hl 1 rfl) ?_
  refine lv_aload_n hx hb dL_law_511 rfl (lv_at hl 0 rfl) ?_
  refine lv_iload hx hb dL_law_512 (lv_at hl 4 rfl) ?_
  refine lv_iconst (v := (1 : Int32)) hx hb dL_law_514 (by decide) ?_
  refine lv_iadd hx hb dL_law_515 ?_
  refine sc_ld 1 hx hb hX hbl hbA hn hL hS rfl (by decide) dL_law_516 ?_
  refine lv_aload_n hx hb dL_law_517 rfl (lv_at hl 0 rfl) ?_
  refine lv_iload hx hb dL_law_518 (lv_at hl 4 rfl) ?_
  refine lv_iconst (v := (2 : Int32)) hx hb dL_law_520 (by decide) ?_
  refine lv_iadd hx hb dL_law_521 ?_
  refine sc_ld 2 hx hb hX hbl hbA hn hL hS rfl (by decide) dL_law_522 ?_
  refine lv_aload_n hx hb dL_law_523 rfl (lv_at hl 0 rfl) ?_
  refine lv_iload hx hb dL_law_524 (lv_at hl 4 rfl) ?_
  refine lv_iconst (v := (3 : Int32)) hx hb dL_law_526 (by decide) ?_
  refine lv_iadd hx hb dL_law_527 ?_
  refine sc_ld 3 hx hb hX hbl hbA hn hL hS rfl (by decide) dL_law_528 ?_
  obtain ⟨r, C1, q1, h⟩ := gn_bd2 h
  refine lc_V (rest := []) (rv := .int r) (C' := C1) (M' := M) (o' := o) (lt' := lt) S0 hN hF hK hP hD hS (c_X6_chain l z K M o g _ _ _ C r C1 q1) (post_R hG) (cwV 3 hts gL_law_X6_chain rfl rfl rfl (by decide +kernel) ⟨(Nat.le_of_ble_eq_true rfl), (Nat.le_of_ble_eq_true rfl)⟩) (va_recv hK hP (ci := 5) (q0 := 0) rfl rfl) rfl hl.1 rfl (Nat.le_of_ble_eq_true rfl) dL_law_529 ⟨Nat.le_trans (Nat.add_le_add_left (show rm_X6_chain.cells ≤ 620 from (Nat.le_of_ble_eq_true rfl)) _) hroom.1, Nat.le_trans (Nat.add_le_add_left (show rm_X6_chain.slots ≤ 1240 from (Nat.le_of_ble_eq_true rfl)) _) hroom.2⟩ (Nat.le_of_ble_eq_true rfl) (Nat.le_of_ble_eq_true rfl) (fun g H locs hG hP hD hS => ?_)
  refine W.eq (g2 := F0 m 532 ls [.int r]) rfl ?_
  refine lv_aload_n hx hb dL_law_532 rfl (lv_at hl 2 rfl) ?_
  refine lv_aload_n hx hb dL_law_533 rfl (lv_at hl 0 rfl) ?_
  refine lv_iload hx hb dL_law_534 (lv_at hl 4 rfl) ?_
  refine lv_iconst (v := (1 : Int32)) hx hb dL_law_536 (by decide) ?_
  refine lv_iadd hx hb dL_law_537 ?_
  refine sc_ld 1 hx hb hX hbl hbA hn hL hS rfl (by decide) dL_law_538 ?_
  refine lv_aload_n hx hb dL_law_539 rfl (lv_at hl 0 rfl) ?_
  refine lv_iload hx hb dL_law_540 (lv_at hl 4 rfl) ?_
  refine lv_iconst (v := (2 : Int32)) hx hb dL_law_542 (by decide) ?_
  refine lv_iadd hx hb dL_law_543 ?_
  refine sc_ld 2 hx hb hX hbl hbA hn hL hS rfl (by decide) dL_law_544 ?_
  refine lv_aload_n hx hb dL_law_545 rfl (lv_at hl 0 rfl) ?_
  refine lv_iload hx hb dL_law_546 (lv_at hl 4 rfl) ?_
  refine lv_iconst (v := (3 : Int32)) hx hb dL_law_548 (by decide) ?_
  refine lv_iadd hx hb dL_law_549 ?_
  refine sc_ld 3 hx hb hX hbl hbA hn hL hS rfl (by decide) dL_law_550 ?_
  obtain ⟨q, M1, eq, h⟩ := gn_bd2 h
  refine hc_V (rest := [.int r]) S0 hN hF hK hP hD hS (c_X7_chain l z K _ _ _ _ _ _ M q M1 eq) (cwV 3 hts gL_law_X7_chain rfl rfl rfl (by decide +kernel) ⟨(Nat.le_of_ble_eq_true rfl), (Nat.le_of_ble_eq_true rfl)⟩) (va_recv hK hP (ci := 6) (q0 := 12) rfl rfl) rfl hl.1 rfl (Nat.le_of_ble_eq_true rfl) dL_law_551 hroom.1 hroom.2 (fun H locs hP hD hS => ?_)
  refine W.eq (g2 := F0 m 554 ls [.int q, .int r]) rfl ?_
  refine lv_icmp_eq (tgt := 1551) hx hb dL_law_554 (by decide) (fun c9 => ?_) (fun c9 => ?_)
  · have h := gn_t h c9
    obtain ⟨rfl, h8⟩ := Prod.mk.inj (gn_some h)
    obtain ⟨rfl, rfl⟩ := Prod.mk.inj h8
    exact kk _ _ _ _ _ hG hP hD hS hl
  · have h := gn_f h c9
    cases h
set_option maxRecDepth 100000 in
theorem lw_c6 (A : LC p s m meth c b L xs K) {n : Nat} (hn : n + 6 ≤ L) (hL : L ≤ 3072) {C : CS} {M : MS} {lt : Int64 × Int64} {o : Nat → Int64} {g : Gh} {H : Heap} {locs : List Loc} {cells slots : Nat} {C' : CS} {M' : MS} {lt' : Int64 × Int64} (hroom : cells + 620 ≤ 601024 ∧ slots + 1240 ≤ 7293034) (hG : Gi K g lt) (hP : va_P K.1 vwCl (wd K C M o g) H) (hD : va_D (inA K) (wd K C M o g)) (hS : va_S (inA K) s.heap H locs) (h : lc6 z (xs (n + 1)) (xs (n + 2)) (xs (n + 3)) (xs (n + 4)) (xs (n + 5)) C M lt = some (C', M', lt')) {ls : Array Slot} (hl : lv_has ls 7 [(0, .ref b), (1, .ref (K.2.2.1 0)), (2, .ref (K.2.2.1 12)), (3, .ref (K.2.2.1 17)), (4, .int (Int32.ofNat n))])
    (kk : ∀ (o' : Nat → Int64) (g' : Gh) (H' : Heap) (locs' : List Loc) (ls' : Array Slot), Gi K g' lt' → va_P K.1 vwCl (wd K C' M' o' g') H' → va_D (inA K) (wd K C' M' o' g') → va_S (inA K) s.heap H' locs' → lv_has ls' 7 [(0, .ref b), (1, .ref (K.2.2.1 0)), (2, .ref (K.2.2.1 12)), (3, .ref (K.2.2.1 17)), (4, .int (Int32.ofNat n))] → W p l e room_1 s m #[Value.ref b] below meth c H' locs' (cells + 620) (slots + 1240) Q (F0 m 1551 ls' [])) : W p l e room_1 s m #[Value.ref b] below meth c H locs cells slots Q (F0 m 559 ls []) := by
  obtain ⟨S0, hN, hF, hT, hK, hX, hbl, hbA⟩ := A
  have S9 := S0
  obtain ⟨hx, hb, hml, hown, hts⟩ := S9
  rw [lc6] at h
  refine lv_aload_n hx hb dL_law_559 rfl (lv_at hl 1 rfl) ?_
  refine lv_aload_n hx hb dL_law_560 rfl (lv_at hl 0 rfl) ?_
  refine lv_iload hx hb dL_law_561 (lv_at hl 4 rfl) ?_
  refine lv_iconst (v := (1 : Int32)) hx hb dL_law_563 (by decide) ?_
  refine lv_iadd hx hb dL_law_564 ?_
  refine sc_ld 1 hx hb hX hbl hbA hn hL hS rfl (by decide) dL_law_565 ?_
  refine lv_aload_n hx hb dL_law_566 rfl (lv_at hl 0 rfl) ?_
  refine lv_iload hx hb dL_law_567 (lv_at hl 4 rfl) ?_
  refine lv_iconst (v := (2 : Int32)) hx hb dL_law_569 (by decide) ?_
  refine lv_iadd hx hb dL_law_570 ?_
  refine sc_ld 2 hx hb hX hbl hbA hn hL hS rfl (by decide) dL_law_571 ?_
  refine lv_aload_n hx hb dL_law_572 rfl (lv_at hl 0 rfl) ?_
  refine lv_iload hx hb dL_law_573 (lv_at hl 4 rfl) ?_
  refine lv_iconst (v := (3 : Int32)) hx hb dL_law_575 (by decide) ?_
  refine lv_iadd hx hb dL_law_576 ?_
  refine sc_ld 3 hx hb hX hbl hbA hn hL hS rfl (by decide) dL_law_577 ?_
  obtain ⟨r, C1, q1, h⟩ := gn_bd2 h
  refine lc_V (rest := []) (rv := .int r) (C' := C1) (M' := M) (o' := o) (lt' := lt) S0 hN hF hK hP hD hS (c_X6_minus l z K M o g _ _ _ C r C1 q1) (post_R hG) (cwV 3 hts gL_law_X6_minus rfl rfl rfl (by decide +kernel) ⟨(Nat.le_of_ble_eq_true rfl), (Nat.le_of_ble_eq_true rfl)⟩) (va_recv hK hP (ci := 5) (q0 := 0) rfl rfl) rfl hl.1 rfl (Nat.le_of_ble_eq_true rfl) dL_law_578 ⟨Nat.le_trans (Nat.add_le_add_left (show rm_X6_minus.cells ≤ 620 from (Nat.le_of_ble_eq_true rfl)) _) hroom.1, Nat.le_trans (Nat.add_le_add_left (show rm_X6_minus.slots ≤ 1240 from (Nat.le_of_ble_eq_true rfl)) _) hroom.2⟩ (Nat.le_of_ble_eq_true rfl) (Nat.le_of_ble_eq_true rfl) (fun g H locs hG hP hD hS => ?_)
  refine W.eq (g2 := F0 m 581 ls [.int r]) rfl ?_
  refine lv_aload_n hx hb dL_law_581 rfl (lv_at hl 2 rfl) ?_
  refine lv_aload_n hx hb dL_law_582 rfl (lv_at hl 0 rfl) ?_
  refine lv_iload hx hb dL_law_583 (lv_at hl 4 rfl) ?_
  refine lv_iconst (v := (1 : Int32)) hx hb dL_law_585 (by decide) ?_
  refine lv_iadd hx hb dL_law_586 ?_
  refine sc_ld 1 hx hb hX hbl hbA hn hL hS rfl (by decide) dL_law_587 ?_
  refine lv_aload_n hx hb dL_law_588 rfl (lv_at hl 0 rfl) ?_
  refine lv_iload hx hb dL_law_589 (lv_at hl 4 rfl) ?_
  refine lv_iconst (v := (2 : Int32)) hx hb dL_law_591 (by decide) ?_
  refine lv_iadd hx hb dL_law_592 ?_
  refine sc_ld 2 hx hb hX hbl hbA hn hL hS rfl (by decide) dL_law_593 ?_
  refine lv_aload_n hx hb dL_law_594 rfl (lv_at hl 0 rfl) ?_
  refine lv_iload hx hb dL_law_595 (lv_at hl 4 rfl) ?_
  refine lv_iconst (v := (3 : Int32)) hx hb dL_law_597 (by decide) ?_
  refine lv_iadd hx hb dL_law_598 ?_
  refine sc_ld 3 hx hb hX hbl hbA hn hL hS rfl (by decide) dL_law_599 ?_
  obtain ⟨q, M1, eq, h⟩ := gn_bd2 h
  refine hc_V (rest := [.int r]) S0 hN hF hK hP hD hS (c_X7_minus l z K _ _ _ _ _ _ M q M1 eq) (cwV 3 hts gL_law_X7_minus rfl rfl rfl (by decide +kernel) ⟨(Nat.le_of_ble_eq_true rfl), (Nat.le_of_ble_eq_true rfl)⟩) (va_recv hK hP (ci := 6) (q0 := 12) rfl rfl) rfl hl.1 rfl (Nat.le_of_ble_eq_true rfl) dL_law_600 hroom.1 hroom.2 (fun H locs hP hD hS => ?_)
  refine W.eq (g2 := F0 m 603 ls [.int q, .int r]) rfl ?_
  refine lv_icmp_eq (tgt := 1551) hx hb dL_law_603 (by decide) (fun c9 => ?_) (fun c9 => ?_)
  · have h := gn_t h c9
    obtain ⟨rfl, h8⟩ := Prod.mk.inj (gn_some h)
    obtain ⟨rfl, rfl⟩ := Prod.mk.inj h8
    exact kk _ _ _ _ _ hG hP hD hS hl
  · have h := gn_f h c9
    cases h
set_option maxRecDepth 100000 in
theorem lw_c7 (A : LC p s m meth c b L xs K) {n : Nat} (hn : n + 6 ≤ L) (hL : L ≤ 3072) {C : CS} {M : MS} {lt : Int64 × Int64} {o : Nat → Int64} {g : Gh} {H : Heap} {locs : List Loc} {cells slots : Nat} {C' : CS} {M' : MS} {lt' : Int64 × Int64} (hroom : cells + 620 ≤ 601024 ∧ slots + 1240 ≤ 7293034) (hG : Gi K g lt) (hP : va_P K.1 vwCl (wd K C M o g) H) (hD : va_D (inA K) (wd K C M o g)) (hS : va_S (inA K) s.heap H locs) (h : lc7 z (xs (n + 1)) (xs (n + 2)) (xs (n + 3)) (xs (n + 4)) (xs (n + 5)) C M lt = some (C', M', lt')) {ls : Array Slot} (hl : lv_has ls 7 [(0, .ref b), (1, .ref (K.2.2.1 0)), (2, .ref (K.2.2.1 12)), (3, .ref (K.2.2.1 17)), (4, .int (Int32.ofNat n))])
    (kk : ∀ (o' : Nat → Int64) (g' : Gh) (H' : Heap) (locs' : List Loc) (ls' : Array Slot), Gi K g' lt' → va_P K.1 vwCl (wd K C' M' o' g') H' → va_D (inA K) (wd K C' M' o' g') → va_S (inA K) s.heap H' locs' → lv_has ls' 7 [(0, .ref b), (1, .ref (K.2.2.1 0)), (2, .ref (K.2.2.1 12)), (3, .ref (K.2.2.1 17)), (4, .int (Int32.ofNat n))] → W p l e room_1 s m #[Value.ref b] below meth c H' locs' (cells + 620) (slots + 1240) Q (F0 m 1551 ls' [])) : W p l e room_1 s m #[Value.ref b] below meth c H locs cells slots Q (F0 m 608 ls []) := by
  obtain ⟨S0, hN, hF, hT, hK, hX, hbl, hbA⟩ := A
  have S9 := S0
  obtain ⟨hx, hb, hml, hown, hts⟩ := S9
  rw [lc7] at h
  refine lv_aload_n hx hb dL_law_608 rfl (lv_at hl 1 rfl) ?_
  refine lv_aload_n hx hb dL_law_609 rfl (lv_at hl 0 rfl) ?_
  refine lv_iload hx hb dL_law_610 (lv_at hl 4 rfl) ?_
  refine lv_iconst (v := (1 : Int32)) hx hb dL_law_612 (by decide) ?_
  refine lv_iadd hx hb dL_law_613 ?_
  refine sc_ld 1 hx hb hX hbl hbA hn hL hS rfl (by decide) dL_law_614 ?_
  refine lv_aload_n hx hb dL_law_615 rfl (lv_at hl 0 rfl) ?_
  refine lv_iload hx hb dL_law_616 (lv_at hl 4 rfl) ?_
  refine lv_iconst (v := (2 : Int32)) hx hb dL_law_618 (by decide) ?_
  refine lv_iadd hx hb dL_law_619 ?_
  refine sc_ld 2 hx hb hX hbl hbA hn hL hS rfl (by decide) dL_law_620 ?_
  refine lv_aload_n hx hb dL_law_621 rfl (lv_at hl 0 rfl) ?_
  refine lv_iload hx hb dL_law_622 (lv_at hl 4 rfl) ?_
  refine lv_iconst (v := (3 : Int32)) hx hb dL_law_624 (by decide) ?_
  refine lv_iadd hx hb dL_law_625 ?_
  refine sc_ld 3 hx hb hX hbl hbA hn hL hS rfl (by decide) dL_law_626 ?_
  obtain ⟨r, C1, q1, h⟩ := gn_bd2 h
  refine lc_V (rest := []) (rv := .int r) (C' := C1) (M' := M) (o' := o) (lt' := lt) S0 hN hF hK hP hD hS (c_X6_alike l z K M o g _ _ _ C r C1 q1) (post_R hG) (cwV 3 hts gL_law_X6_alike rfl rfl rfl (by decide +kernel) ⟨(Nat.le_of_ble_eq_true rfl), (Nat.le_of_ble_eq_true rfl)⟩) (va_recv hK hP (ci := 5) (q0 := 0) rfl rfl) rfl hl.1 rfl (Nat.le_of_ble_eq_true rfl) dL_law_627 ⟨Nat.le_trans (Nat.add_le_add_left (show rm_X6_alike.cells ≤ 620 from (Nat.le_of_ble_eq_true rfl)) _) hroom.1, Nat.le_trans (Nat.add_le_add_left (show rm_X6_alike.slots ≤ 1240 from (Nat.le_of_ble_eq_true rfl)) _) hroom.2⟩ (Nat.le_of_ble_eq_true rfl) (Nat.le_of_ble_eq_true rfl) (fun g H locs hG hP hD hS => ?_)
  refine W.eq (g2 := F0 m 630 ls [.int r]) rfl ?_
  refine lv_aload_n hx hb dL_law_630 rfl (lv_at hl 2 rfl) ?_
  refine lv_aload_n hx hb dL_law_631 rfl (lv_at hl 0 rfl) ?_
  refine lv_iload hx hb dL_law_632 (lv_at hl 4 rfl) ?_
  refine lv_iconst (v := (1 : Int32)) hx hb dL_law_634 (by decide) ?_
  refine lv_iadd hx hb dL_law_635 ?_
  refine sc_ld 1 hx hb hX hbl hbA hn hL hS rfl (by decide) dL_law_636 ?_
  refine lv_aload_n hx hb dL_law_637 rfl (lv_at hl 0 rfl) ?_
  refine lv_iload hx hb dL_law_638 (lv_at hl 4 rfl) ?_
  refine lv_iconst (v := (2 : Int32)) hx hb dL_law_640 (by decide) ?_
  refine lv_iadd hx hb dL_law_641 ?_
  refine sc_ld 2 hx hb hX hbl hbA hn hL hS rfl (by decide) dL_law_642 ?_
  refine lv_aload_n hx hb dL_law_643 rfl (lv_at hl 0 rfl) ?_
  refine lv_iload hx hb dL_law_644 (lv_at hl 4 rfl) ?_
  refine lv_iconst (v := (3 : Int32)) hx hb dL_law_646 (by decide) ?_
  refine lv_iadd hx hb dL_law_647 ?_
  refine sc_ld 3 hx hb hX hbl hbA hn hL hS rfl (by decide) dL_law_648 ?_
  obtain ⟨q, M1, eq, h⟩ := gn_bd2 h
  refine hc_V (rest := [.int r]) S0 hN hF hK hP hD hS (c_X7_alike l z K _ _ _ _ _ _ M q M1 eq) (cwV 3 hts gL_law_X7_alike rfl rfl rfl (by decide +kernel) ⟨(Nat.le_of_ble_eq_true rfl), (Nat.le_of_ble_eq_true rfl)⟩) (va_recv hK hP (ci := 6) (q0 := 12) rfl rfl) rfl hl.1 rfl (Nat.le_of_ble_eq_true rfl) dL_law_649 hroom.1 hroom.2 (fun H locs hP hD hS => ?_)
  refine W.eq (g2 := F0 m 652 ls [.int q, .int r]) rfl ?_
  refine lv_icmp_eq (tgt := 1551) hx hb dL_law_652 (by decide) (fun c9 => ?_) (fun c9 => ?_)
  · have h := gn_t h c9
    obtain ⟨rfl, h8⟩ := Prod.mk.inj (gn_some h)
    obtain ⟨rfl, rfl⟩ := Prod.mk.inj h8
    exact kk _ _ _ _ _ hG hP hD hS hl
  · have h := gn_f h c9
    cases h
set_option maxRecDepth 100000 in
theorem lw_c8 (A : LC p s m meth c b L xs K) {n : Nat} (hn : n + 6 ≤ L) (hL : L ≤ 3072) {C : CS} {M : MS} {lt : Int64 × Int64} {o : Nat → Int64} {g : Gh} {H : Heap} {locs : List Loc} {cells slots : Nat} {C' : CS} {M' : MS} {lt' : Int64 × Int64} (hroom : cells + 620 ≤ 601024 ∧ slots + 1240 ≤ 7293034) (hG : Gi K g lt) (hP : va_P K.1 vwCl (wd K C M o g) H) (hD : va_D (inA K) (wd K C M o g)) (hS : va_S (inA K) s.heap H locs) (h : lc8 z (xs (n + 1)) (xs (n + 2)) (xs (n + 3)) (xs (n + 4)) (xs (n + 5)) C M lt = some (C', M', lt')) {ls : Array Slot} (hl : lv_has ls 7 [(0, .ref b), (1, .ref (K.2.2.1 0)), (2, .ref (K.2.2.1 12)), (3, .ref (K.2.2.1 17)), (4, .int (Int32.ofNat n))])
    (kk : ∀ (o' : Nat → Int64) (g' : Gh) (H' : Heap) (locs' : List Loc) (ls' : Array Slot), Gi K g' lt' → va_P K.1 vwCl (wd K C' M' o' g') H' → va_D (inA K) (wd K C' M' o' g') → va_S (inA K) s.heap H' locs' → lv_has ls' 7 [(0, .ref b), (1, .ref (K.2.2.1 0)), (2, .ref (K.2.2.1 12)), (3, .ref (K.2.2.1 17)), (4, .int (Int32.ofNat n))] → W p l e room_1 s m #[Value.ref b] below meth c H' locs' (cells + 620) (slots + 1240) Q (F0 m 1551 ls' [])) : W p l e room_1 s m #[Value.ref b] below meth c H locs cells slots Q (F0 m 657 ls []) := by
  obtain ⟨S0, hN, hF, hT, hK, hX, hbl, hbA⟩ := A
  have S9 := S0
  obtain ⟨hx, hb, hml, hown, hts⟩ := S9
  rw [lc8] at h
  refine lv_aload_n hx hb dL_law_657 rfl (lv_at hl 1 rfl) ?_
  refine lv_aload_n hx hb dL_law_658 rfl (lv_at hl 0 rfl) ?_
  refine lv_iload hx hb dL_law_659 (lv_at hl 4 rfl) ?_
  refine lv_iconst (v := (1 : Int32)) hx hb dL_law_661 (by decide) ?_
  refine lv_iadd hx hb dL_law_662 ?_
  refine sc_ld 1 hx hb hX hbl hbA hn hL hS rfl (by decide) dL_law_663 ?_
  refine lv_aload_n hx hb dL_law_664 rfl (lv_at hl 0 rfl) ?_
  refine lv_iload hx hb dL_law_665 (lv_at hl 4 rfl) ?_
  refine lv_iconst (v := (2 : Int32)) hx hb dL_law_667 (by decide) ?_
  refine lv_iadd hx hb dL_law_668 ?_
  refine sc_ld 2 hx hb hX hbl hbA hn hL hS rfl (by decide) dL_law_669 ?_
  obtain ⟨r, C1, q1, h⟩ := gn_bd2 h
  refine lc_V (rest := []) (rv := .int r) (C' := C1) (M' := M) (o' := o) (lt' := lt) S0 hN hF hK hP hD hS (c_X6_sorts l z K M o g _ _ C r C1 q1) (post_R hG) (cwV 2 hts gL_law_X6_sorts rfl rfl rfl (by decide +kernel) ⟨(Nat.le_of_ble_eq_true rfl), (Nat.le_of_ble_eq_true rfl)⟩) (va_recv hK hP (ci := 5) (q0 := 0) rfl rfl) rfl hl.1 rfl (Nat.le_of_ble_eq_true rfl) dL_law_670 ⟨Nat.le_trans (Nat.add_le_add_left (show rm_X6_sorts.cells ≤ 620 from (Nat.le_of_ble_eq_true rfl)) _) hroom.1, Nat.le_trans (Nat.add_le_add_left (show rm_X6_sorts.slots ≤ 1240 from (Nat.le_of_ble_eq_true rfl)) _) hroom.2⟩ (Nat.le_of_ble_eq_true rfl) (Nat.le_of_ble_eq_true rfl) (fun g H locs hG hP hD hS => ?_)
  refine W.eq (g2 := F0 m 673 ls [.int r]) rfl ?_
  refine lv_aload_n hx hb dL_law_673 rfl (lv_at hl 2 rfl) ?_
  refine lv_aload_n hx hb dL_law_674 rfl (lv_at hl 0 rfl) ?_
  refine lv_iload hx hb dL_law_675 (lv_at hl 4 rfl) ?_
  refine lv_iconst (v := (1 : Int32)) hx hb dL_law_677 (by decide) ?_
  refine lv_iadd hx hb dL_law_678 ?_
  refine sc_ld 1 hx hb hX hbl hbA hn hL hS rfl (by decide) dL_law_679 ?_
  refine lv_aload_n hx hb dL_law_680 rfl (lv_at hl 0 rfl) ?_
  refine lv_iload hx hb dL_law_681 (lv_at hl 4 rfl) ?_
  refine lv_iconst (v := (2 : Int32)) hx hb dL_law_683 (by decide) ?_
  refine lv_iadd hx hb dL_law_684 ?_
  refine sc_ld 2 hx hb hX hbl hbA hn hL hS rfl (by decide) dL_law_685 ?_
  obtain ⟨q, M1, eq, h⟩ := gn_bd2 h
  refine hc_V (rest := [.int r]) S0 hN hF hK hP hD hS (c_X7_sorts l z K _ _ _ _ _ M q M1 eq) (cwV 2 hts gL_law_X7_sorts rfl rfl rfl (by decide +kernel) ⟨(Nat.le_of_ble_eq_true rfl), (Nat.le_of_ble_eq_true rfl)⟩) (va_recv hK hP (ci := 6) (q0 := 12) rfl rfl) rfl hl.1 rfl (Nat.le_of_ble_eq_true rfl) dL_law_686 hroom.1 hroom.2 (fun H locs hP hD hS => ?_)
  refine W.eq (g2 := F0 m 689 ls [.int q, .int r]) rfl ?_
  refine lv_icmp_eq (tgt := 1551) hx hb dL_law_689 (by decide) (fun c9 => ?_) (fun c9 => ?_)
  · have h := gn_t h c9
    obtain ⟨rfl, h8⟩ := Prod.mk.inj (gn_some h)
    obtain ⟨rfl, rfl⟩ := Prod.mk.inj h8
    exact kk _ _ _ _ _ hG hP hD hS hl
  · have h := gn_f h c9
    cases h
set_option maxRecDepth 100000 in
theorem lw_c9 (A : LC p s m meth c b L xs K) {n : Nat} (hn : n + 6 ≤ L) (hL : L ≤ 3072) {C : CS} {M : MS} {lt : Int64 × Int64} {o : Nat → Int64} {g : Gh} {H : Heap} {locs : List Loc} {cells slots : Nat} {C' : CS} {M' : MS} {lt' : Int64 × Int64} (hroom : cells + 620 ≤ 601024 ∧ slots + 1240 ≤ 7293034) (hG : Gi K g lt) (hP : va_P K.1 vwCl (wd K C M o g) H) (hD : va_D (inA K) (wd K C M o g)) (hS : va_S (inA K) s.heap H locs) (h : lc9 z (xs (n + 1)) (xs (n + 2)) (xs (n + 3)) (xs (n + 4)) (xs (n + 5)) C M lt = some (C', M', lt')) {ls : Array Slot} (hl : lv_has ls 7 [(0, .ref b), (1, .ref (K.2.2.1 0)), (2, .ref (K.2.2.1 12)), (3, .ref (K.2.2.1 17)), (4, .int (Int32.ofNat n))])
    (kk : ∀ (o' : Nat → Int64) (g' : Gh) (H' : Heap) (locs' : List Loc) (ls' : Array Slot), Gi K g' lt' → va_P K.1 vwCl (wd K C' M' o' g') H' → va_D (inA K) (wd K C' M' o' g') → va_S (inA K) s.heap H' locs' → lv_has ls' 7 [(0, .ref b), (1, .ref (K.2.2.1 0)), (2, .ref (K.2.2.1 12)), (3, .ref (K.2.2.1 17)), (4, .int (Int32.ofNat n))] → W p l e room_1 s m #[Value.ref b] below meth c H' locs' (cells + 620) (slots + 1240) Q (F0 m 1551 ls' [])) : W p l e room_1 s m #[Value.ref b] below meth c H locs cells slots Q (F0 m 694 ls []) := by
  obtain ⟨S0, hN, hF, hT, hK, hX, hbl, hbA⟩ := A
  have S9 := S0
  obtain ⟨hx, hb, hml, hown, hts⟩ := S9
  rw [lc9] at h
  refine lv_aload_n hx hb dL_law_694 rfl (lv_at hl 1 rfl) ?_
  refine lv_aload_n hx hb dL_law_695 rfl (lv_at hl 0 rfl) ?_
  refine lv_iload hx hb dL_law_696 (lv_at hl 4 rfl) ?_
  refine lv_iconst (v := (1 : Int32)) hx hb dL_law_698 (by decide) ?_
  refine lv_iadd hx hb dL_law_699 ?_
  refine sc_ld 1 hx hb hX hbl hbA hn hL hS rfl (by decide) dL_law_700 ?_
  refine lv_aload_n hx hb dL_law_701 rfl (lv_at hl 0 rfl) ?_
  refine lv_iload hx hb dL_law_702 (lv_at hl 4 rfl) ?_
  refine lv_iconst (v := (2 : Int32)) hx hb dL_law_704 (by decide) ?_
  refine lv_iadd hx hb dL_law_705 ?_
  refine sc_ld 2 hx hb hX hbl hbA hn hL hS rfl (by decide) dL_law_706 ?_
  refine lv_aload_n hx hb dL_law_707 rfl (lv_at hl 0 rfl) ?_
  refine lv_iload hx hb dL_law_708 (lv_at hl 4 rfl) ?_
  refine lv_iconst (v := (3 : Int32)) hx hb dL_law_710 (by decide) ?_
  refine lv_iadd hx hb dL_law_711 ?_
  refine sc_ld 3 hx hb hX hbl hbA hn hL hS rfl (by decide) dL_law_712 ?_
  refine lv_aload_n hx hb dL_law_713 rfl (lv_at hl 0 rfl) ?_
  refine lv_iload hx hb dL_law_714 (lv_at hl 4 rfl) ?_
  refine lv_iconst (v := (4 : Int32)) hx hb dL_law_716 (by decide) ?_
  refine lv_iadd hx hb dL_law_717 ?_
  refine sc_ld 4 hx hb hX hbl hbA hn hL hS rfl (by decide) dL_law_718 ?_
  obtain ⟨r, C1, q1, h⟩ := gn_bd2 h
  refine lc_V (rest := []) (rv := .long r) (C' := C1) (M' := M) (o' := o) (lt' := lt) S0 hN hF hK hP hD hS (c_X6_steps l z K M o g _ _ _ _ C r C1 q1) (post_R hG) (cwV 4 hts gL_law_X6_steps rfl rfl rfl (by decide +kernel) ⟨(Nat.le_of_ble_eq_true rfl), (Nat.le_of_ble_eq_true rfl)⟩) (va_recv hK hP (ci := 5) (q0 := 0) rfl rfl) rfl hl.1 rfl (Nat.le_of_ble_eq_true rfl) dL_law_719 ⟨Nat.le_trans (Nat.add_le_add_left (show rm_X6_steps.cells ≤ 620 from (Nat.le_of_ble_eq_true rfl)) _) hroom.1, Nat.le_trans (Nat.add_le_add_left (show rm_X6_steps.slots ≤ 1240 from (Nat.le_of_ble_eq_true rfl)) _) hroom.2⟩ (Nat.le_of_ble_eq_true rfl) (Nat.le_of_ble_eq_true rfl) (fun g H locs hG hP hD hS => ?_)
  refine W.eq (g2 := F0 m 722 ls [.long r]) rfl ?_
  refine lv_aload_n hx hb dL_law_722 rfl (lv_at hl 2 rfl) ?_
  refine lv_aload_n hx hb dL_law_723 rfl (lv_at hl 0 rfl) ?_
  refine lv_iload hx hb dL_law_724 (lv_at hl 4 rfl) ?_
  refine lv_iconst (v := (1 : Int32)) hx hb dL_law_726 (by decide) ?_
  refine lv_iadd hx hb dL_law_727 ?_
  refine sc_ld 1 hx hb hX hbl hbA hn hL hS rfl (by decide) dL_law_728 ?_
  refine lv_aload_n hx hb dL_law_729 rfl (lv_at hl 0 rfl) ?_
  refine lv_iload hx hb dL_law_730 (lv_at hl 4 rfl) ?_
  refine lv_iconst (v := (2 : Int32)) hx hb dL_law_732 (by decide) ?_
  refine lv_iadd hx hb dL_law_733 ?_
  refine sc_ld 2 hx hb hX hbl hbA hn hL hS rfl (by decide) dL_law_734 ?_
  refine lv_aload_n hx hb dL_law_735 rfl (lv_at hl 0 rfl) ?_
  refine lv_iload hx hb dL_law_736 (lv_at hl 4 rfl) ?_
  refine lv_iconst (v := (3 : Int32)) hx hb dL_law_738 (by decide) ?_
  refine lv_iadd hx hb dL_law_739 ?_
  refine sc_ld 3 hx hb hX hbl hbA hn hL hS rfl (by decide) dL_law_740 ?_
  refine lv_aload_n hx hb dL_law_741 rfl (lv_at hl 0 rfl) ?_
  refine lv_iload hx hb dL_law_742 (lv_at hl 4 rfl) ?_
  refine lv_iconst (v := (4 : Int32)) hx hb dL_law_744 (by decide) ?_
  refine lv_iadd hx hb dL_law_745 ?_
  refine sc_ld 4 hx hb hX hbl hbA hn hL hS rfl (by decide) dL_law_746 ?_
  obtain ⟨q, M1, eq, h⟩ := gn_bd2 h
  refine hc_V (rest := [.long r]) S0 hN hF hK hP hD hS (c_X7_steps l z K _ _ _ _ _ _ _ M q M1 eq) (cwV 4 hts gL_law_X7_steps rfl rfl rfl (by decide +kernel) ⟨(Nat.le_of_ble_eq_true rfl), (Nat.le_of_ble_eq_true rfl)⟩) (va_recv hK hP (ci := 6) (q0 := 12) rfl rfl) rfl hl.1 rfl (Nat.le_of_ble_eq_true rfl) dL_law_747 hroom.1 hroom.2 (fun H locs hP hD hS => ?_)
  refine W.eq (g2 := F0 m 750 ls [.long q, .long r]) rfl ?_
  refine ll_eq (tgt := 1551) hx hb dL_law_750 dL_law_751 (by decide) (fun c9 => ?_) (fun c9 => ?_)
  · have h := gn_t h c9
    obtain ⟨rfl, h8⟩ := Prod.mk.inj (gn_some h)
    obtain ⟨rfl, rfl⟩ := Prod.mk.inj h8
    exact kk _ _ _ _ _ hG hP hD hS hl
  · have h := gn_f h c9
    cases h
set_option maxRecDepth 100000 in
theorem lw_c10 (A : LC p s m meth c b L xs K) {n : Nat} (hn : n + 6 ≤ L) (hL : L ≤ 3072) {C : CS} {M : MS} {lt : Int64 × Int64} {o : Nat → Int64} {g : Gh} {H : Heap} {locs : List Loc} {cells slots : Nat} {C' : CS} {M' : MS} {lt' : Int64 × Int64} (hroom : cells + 620 ≤ 601024 ∧ slots + 1240 ≤ 7293034) (hG : Gi K g lt) (hP : va_P K.1 vwCl (wd K C M o g) H) (hD : va_D (inA K) (wd K C M o g)) (hS : va_S (inA K) s.heap H locs) (h : lc10 z (xs (n + 1)) (xs (n + 2)) (xs (n + 3)) (xs (n + 4)) (xs (n + 5)) C M lt = some (C', M', lt')) {ls : Array Slot} (hl : lv_has ls 7 [(0, .ref b), (1, .ref (K.2.2.1 0)), (2, .ref (K.2.2.1 12)), (3, .ref (K.2.2.1 17)), (4, .int (Int32.ofNat n))])
    (kk : ∀ (o' : Nat → Int64) (g' : Gh) (H' : Heap) (locs' : List Loc) (ls' : Array Slot), Gi K g' lt' → va_P K.1 vwCl (wd K C' M' o' g') H' → va_D (inA K) (wd K C' M' o' g') → va_S (inA K) s.heap H' locs' → lv_has ls' 7 [(0, .ref b), (1, .ref (K.2.2.1 0)), (2, .ref (K.2.2.1 12)), (3, .ref (K.2.2.1 17)), (4, .int (Int32.ofNat n))] → W p l e room_1 s m #[Value.ref b] below meth c H' locs' (cells + 620) (slots + 1240) Q (F0 m 1551 ls' [])) : W p l e room_1 s m #[Value.ref b] below meth c H locs cells slots Q (F0 m 756 ls []) := by
  obtain ⟨S0, hN, hF, hT, hK, hX, hbl, hbA⟩ := A
  have S9 := S0
  obtain ⟨hx, hb, hml, hown, hts⟩ := S9
  rw [lc10] at h
  refine lv_aload_n hx hb dL_law_756 rfl (lv_at hl 1 rfl) ?_
  refine lv_aload_n hx hb dL_law_757 rfl (lv_at hl 0 rfl) ?_
  refine lv_iload hx hb dL_law_758 (lv_at hl 4 rfl) ?_
  refine lv_iconst (v := (1 : Int32)) hx hb dL_law_760 (by decide) ?_
  refine lv_iadd hx hb dL_law_761 ?_
  refine sc_ld 1 hx hb hX hbl hbA hn hL hS rfl (by decide) dL_law_762 ?_
  refine lv_aload_n hx hb dL_law_763 rfl (lv_at hl 0 rfl) ?_
  refine lv_iload hx hb dL_law_764 (lv_at hl 4 rfl) ?_
  refine lv_iconst (v := (2 : Int32)) hx hb dL_law_766 (by decide) ?_
  refine lv_iadd hx hb dL_law_767 ?_
  refine sc_ld 2 hx hb hX hbl hbA hn hL hS rfl (by decide) dL_law_768 ?_
  refine lv_aload_n hx hb dL_law_769 rfl (lv_at hl 0 rfl) ?_
  refine lv_iload hx hb dL_law_770 (lv_at hl 4 rfl) ?_
  refine lv_iconst (v := (3 : Int32)) hx hb dL_law_772 (by decide) ?_
  refine lv_iadd hx hb dL_law_773 ?_
  refine sc_ld 3 hx hb hX hbl hbA hn hL hS rfl (by decide) dL_law_774 ?_
  obtain ⟨r, C1, q1, h⟩ := gn_bd2 h
  refine lc_V (rest := []) (rv := .long r) (C' := C1) (M' := M) (o' := o) (lt' := lt) S0 hN hF hK hP hD hS (c_X6_triangle l z K M o g _ _ _ C r C1 q1) (post_R hG) (cwV 3 hts gL_law_X6_triangle rfl rfl rfl (by decide +kernel) ⟨(Nat.le_of_ble_eq_true rfl), (Nat.le_of_ble_eq_true rfl)⟩) (va_recv hK hP (ci := 5) (q0 := 0) rfl rfl) rfl hl.1 rfl (Nat.le_of_ble_eq_true rfl) dL_law_775 ⟨Nat.le_trans (Nat.add_le_add_left (show rm_X6_triangle.cells ≤ 620 from (Nat.le_of_ble_eq_true rfl)) _) hroom.1, Nat.le_trans (Nat.add_le_add_left (show rm_X6_triangle.slots ≤ 1240 from (Nat.le_of_ble_eq_true rfl)) _) hroom.2⟩ (Nat.le_of_ble_eq_true rfl) (Nat.le_of_ble_eq_true rfl) (fun g H locs hG hP hD hS => ?_)
  refine W.eq (g2 := F0 m 778 ls [.long r]) rfl ?_
  refine lv_aload_n hx hb dL_law_778 rfl (lv_at hl 2 rfl) ?_
  refine lv_aload_n hx hb dL_law_779 rfl (lv_at hl 0 rfl) ?_
  refine lv_iload hx hb dL_law_780 (lv_at hl 4 rfl) ?_
  refine lv_iconst (v := (1 : Int32)) hx hb dL_law_782 (by decide) ?_
  refine lv_iadd hx hb dL_law_783 ?_
  refine sc_ld 1 hx hb hX hbl hbA hn hL hS rfl (by decide) dL_law_784 ?_
  refine lv_aload_n hx hb dL_law_785 rfl (lv_at hl 0 rfl) ?_
  refine lv_iload hx hb dL_law_786 (lv_at hl 4 rfl) ?_
  refine lv_iconst (v := (2 : Int32)) hx hb dL_law_788 (by decide) ?_
  refine lv_iadd hx hb dL_law_789 ?_
  refine sc_ld 2 hx hb hX hbl hbA hn hL hS rfl (by decide) dL_law_790 ?_
  refine lv_aload_n hx hb dL_law_791 rfl (lv_at hl 0 rfl) ?_
  refine lv_iload hx hb dL_law_792 (lv_at hl 4 rfl) ?_
  refine lv_iconst (v := (3 : Int32)) hx hb dL_law_794 (by decide) ?_
  refine lv_iadd hx hb dL_law_795 ?_
  refine sc_ld 3 hx hb hX hbl hbA hn hL hS rfl (by decide) dL_law_796 ?_
  obtain ⟨q, M1, eq, h⟩ := gn_bd2 h
  refine hc_V (rest := [.long r]) S0 hN hF hK hP hD hS (c_X7_triangle l z K _ _ _ _ _ _ M q M1 eq) (cwV 3 hts gL_law_X7_triangle rfl rfl rfl (by decide +kernel) ⟨(Nat.le_of_ble_eq_true rfl), (Nat.le_of_ble_eq_true rfl)⟩) (va_recv hK hP (ci := 6) (q0 := 12) rfl rfl) rfl hl.1 rfl (Nat.le_of_ble_eq_true rfl) dL_law_797 hroom.1 hroom.2 (fun H locs hP hD hS => ?_)
  refine W.eq (g2 := F0 m 800 ls [.long q, .long r]) rfl ?_
  refine ll_eq (tgt := 1551) hx hb dL_law_800 dL_law_801 (by decide) (fun c9 => ?_) (fun c9 => ?_)
  · have h := gn_t h c9
    obtain ⟨rfl, h8⟩ := Prod.mk.inj (gn_some h)
    obtain ⟨rfl, rfl⟩ := Prod.mk.inj h8
    exact kk _ _ _ _ _ hG hP hD hS hl
  · have h := gn_f h c9
    cases h
set_option maxRecDepth 100000 in
theorem lw_c11 (A : LC p s m meth c b L xs K) {n : Nat} (hn : n + 6 ≤ L) (hL : L ≤ 3072) {C : CS} {M : MS} {lt : Int64 × Int64} {o : Nat → Int64} {g : Gh} {H : Heap} {locs : List Loc} {cells slots : Nat} {C' : CS} {M' : MS} {lt' : Int64 × Int64} (hroom : cells + 620 ≤ 601024 ∧ slots + 1240 ≤ 7293034) (hG : Gi K g lt) (hP : va_P K.1 vwCl (wd K C M o g) H) (hD : va_D (inA K) (wd K C M o g)) (hS : va_S (inA K) s.heap H locs) (h : lc11 z (xs (n + 1)) (xs (n + 2)) (xs (n + 3)) (xs (n + 4)) (xs (n + 5)) C M lt = some (C', M', lt')) {ls : Array Slot} (hl : lv_has ls 7 [(0, .ref b), (1, .ref (K.2.2.1 0)), (2, .ref (K.2.2.1 12)), (3, .ref (K.2.2.1 17)), (4, .int (Int32.ofNat n))])
    (kk : ∀ (o' : Nat → Int64) (g' : Gh) (H' : Heap) (locs' : List Loc) (ls' : Array Slot), Gi K g' lt' → va_P K.1 vwCl (wd K C' M' o' g') H' → va_D (inA K) (wd K C' M' o' g') → va_S (inA K) s.heap H' locs' → lv_has ls' 7 [(0, .ref b), (1, .ref (K.2.2.1 0)), (2, .ref (K.2.2.1 12)), (3, .ref (K.2.2.1 17)), (4, .int (Int32.ofNat n))] → W p l e room_1 s m #[Value.ref b] below meth c H' locs' (cells + 620) (slots + 1240) Q (F0 m 1551 ls' [])) : W p l e room_1 s m #[Value.ref b] below meth c H locs cells slots Q (F0 m 806 ls []) := by
  obtain ⟨S0, hN, hF, hT, hK, hX, hbl, hbA⟩ := A
  have S9 := S0
  obtain ⟨hx, hb, hml, hown, hts⟩ := S9
  rw [lc11] at h
  refine lv_aload_n hx hb dL_law_806 rfl (lv_at hl 1 rfl) ?_
  refine lv_aload_n hx hb dL_law_807 rfl (lv_at hl 0 rfl) ?_
  refine lv_iload hx hb dL_law_808 (lv_at hl 4 rfl) ?_
  refine lv_iconst (v := (1 : Int32)) hx hb dL_law_810 (by decide) ?_
  refine lv_iadd hx hb dL_law_811 ?_
  refine sc_ld 1 hx hb hX hbl hbA hn hL hS rfl (by decide) dL_law_812 ?_
  refine lv_aload_n hx hb dL_law_813 rfl (lv_at hl 0 rfl) ?_
  refine lv_iload hx hb dL_law_814 (lv_at hl 4 rfl) ?_
  refine lv_iconst (v := (2 : Int32)) hx hb dL_law_816 (by decide) ?_
  refine lv_iadd hx hb dL_law_817 ?_
  refine sc_ld 2 hx hb hX hbl hbA hn hL hS rfl (by decide) dL_law_818 ?_
  refine lv_aload_n hx hb dL_law_819 rfl (lv_at hl 0 rfl) ?_
  refine lv_iload hx hb dL_law_820 (lv_at hl 4 rfl) ?_
  refine lv_iconst (v := (3 : Int32)) hx hb dL_law_822 (by decide) ?_
  refine lv_iadd hx hb dL_law_823 ?_
  refine sc_ld 3 hx hb hX hbl hbA hn hL hS rfl (by decide) dL_law_824 ?_
  obtain ⟨r, C1, q1, h⟩ := gn_bd2 h
  refine lc_V (rest := []) (rv := .long r) (C' := C1) (M' := M) (o' := o) (lt' := lt) S0 hN hF hK hP hD hS (c_X6_inside l z K M o g _ _ _ C r C1 q1) (post_R hG) (cwV 3 hts gL_law_X6_inside rfl rfl rfl (by decide +kernel) ⟨(Nat.le_of_ble_eq_true rfl), (Nat.le_of_ble_eq_true rfl)⟩) (va_recv hK hP (ci := 5) (q0 := 0) rfl rfl) rfl hl.1 rfl (Nat.le_of_ble_eq_true rfl) dL_law_825 ⟨Nat.le_trans (Nat.add_le_add_left (show rm_X6_inside.cells ≤ 620 from (Nat.le_of_ble_eq_true rfl)) _) hroom.1, Nat.le_trans (Nat.add_le_add_left (show rm_X6_inside.slots ≤ 1240 from (Nat.le_of_ble_eq_true rfl)) _) hroom.2⟩ (Nat.le_of_ble_eq_true rfl) (Nat.le_of_ble_eq_true rfl) (fun g H locs hG hP hD hS => ?_)
  refine W.eq (g2 := F0 m 828 ls [.long r]) rfl ?_
  refine lv_aload_n hx hb dL_law_828 rfl (lv_at hl 2 rfl) ?_
  refine lv_aload_n hx hb dL_law_829 rfl (lv_at hl 0 rfl) ?_
  refine lv_iload hx hb dL_law_830 (lv_at hl 4 rfl) ?_
  refine lv_iconst (v := (1 : Int32)) hx hb dL_law_832 (by decide) ?_
  refine lv_iadd hx hb dL_law_833 ?_
  refine sc_ld 1 hx hb hX hbl hbA hn hL hS rfl (by decide) dL_law_834 ?_
  refine lv_aload_n hx hb dL_law_835 rfl (lv_at hl 0 rfl) ?_
  refine lv_iload hx hb dL_law_836 (lv_at hl 4 rfl) ?_
  refine lv_iconst (v := (2 : Int32)) hx hb dL_law_838 (by decide) ?_
  refine lv_iadd hx hb dL_law_839 ?_
  refine sc_ld 2 hx hb hX hbl hbA hn hL hS rfl (by decide) dL_law_840 ?_
  refine lv_aload_n hx hb dL_law_841 rfl (lv_at hl 0 rfl) ?_
  refine lv_iload hx hb dL_law_842 (lv_at hl 4 rfl) ?_
  refine lv_iconst (v := (3 : Int32)) hx hb dL_law_844 (by decide) ?_
  refine lv_iadd hx hb dL_law_845 ?_
  refine sc_ld 3 hx hb hX hbl hbA hn hL hS rfl (by decide) dL_law_846 ?_
  obtain ⟨q, M1, eq, h⟩ := gn_bd2 h
  refine hc_V (rest := [.long r]) S0 hN hF hK hP hD hS (c_X7_inside l z K _ _ _ _ _ _ M q M1 eq) (cwV 3 hts gL_law_X7_inside rfl rfl rfl (by decide +kernel) ⟨(Nat.le_of_ble_eq_true rfl), (Nat.le_of_ble_eq_true rfl)⟩) (va_recv hK hP (ci := 6) (q0 := 12) rfl rfl) rfl hl.1 rfl (Nat.le_of_ble_eq_true rfl) dL_law_847 hroom.1 hroom.2 (fun H locs hP hD hS => ?_)
  refine W.eq (g2 := F0 m 850 ls [.long q, .long r]) rfl ?_
  refine ll_eq (tgt := 1551) hx hb dL_law_850 dL_law_851 (by decide) (fun c9 => ?_) (fun c9 => ?_)
  · have h := gn_t h c9
    obtain ⟨rfl, h8⟩ := Prod.mk.inj (gn_some h)
    obtain ⟨rfl, rfl⟩ := Prod.mk.inj h8
    exact kk _ _ _ _ _ hG hP hD hS hl
  · have h := gn_f h c9
    cases h
set_option maxRecDepth 100000 in
theorem lw_c12 (A : LC p s m meth c b L xs K) {n : Nat} (hn : n + 6 ≤ L) (hL : L ≤ 3072) {C : CS} {M : MS} {lt : Int64 × Int64} {o : Nat → Int64} {g : Gh} {H : Heap} {locs : List Loc} {cells slots : Nat} {C' : CS} {M' : MS} {lt' : Int64 × Int64} (hroom : cells + 620 ≤ 601024 ∧ slots + 1240 ≤ 7293034) (hG : Gi K g lt) (hP : va_P K.1 vwCl (wd K C M o g) H) (hD : va_D (inA K) (wd K C M o g)) (hS : va_S (inA K) s.heap H locs) (h : lc12 z (xs (n + 1)) (xs (n + 2)) (xs (n + 3)) (xs (n + 4)) (xs (n + 5)) C M lt = some (C', M', lt')) {ls : Array Slot} (hl : lv_has ls 7 [(0, .ref b), (1, .ref (K.2.2.1 0)), (2, .ref (K.2.2.1 12)), (3, .ref (K.2.2.1 17)), (4, .int (Int32.ofNat n))])
    (kk : ∀ (o' : Nat → Int64) (g' : Gh) (H' : Heap) (locs' : List Loc) (ls' : Array Slot), Gi K g' lt' → va_P K.1 vwCl (wd K C' M' o' g') H' → va_D (inA K) (wd K C' M' o' g') → va_S (inA K) s.heap H' locs' → lv_has ls' 7 [(0, .ref b), (1, .ref (K.2.2.1 0)), (2, .ref (K.2.2.1 12)), (3, .ref (K.2.2.1 17)), (4, .int (Int32.ofNat n))] → W p l e room_1 s m #[Value.ref b] below meth c H' locs' (cells + 620) (slots + 1240) Q (F0 m 1551 ls' [])) : W p l e room_1 s m #[Value.ref b] below meth c H locs cells slots Q (F0 m 856 ls []) := by
  obtain ⟨S0, hN, hF, hT, hK, hX, hbl, hbA⟩ := A
  have S9 := S0
  obtain ⟨hx, hb, hml, hown, hts⟩ := S9
  rw [lc12] at h
  refine lv_aload_n hx hb dL_law_856 rfl (lv_at hl 1 rfl) ?_
  refine lv_aload_n hx hb dL_law_857 rfl (lv_at hl 0 rfl) ?_
  refine lv_iload hx hb dL_law_858 (lv_at hl 4 rfl) ?_
  refine lv_iconst (v := (1 : Int32)) hx hb dL_law_860 (by decide) ?_
  refine lv_iadd hx hb dL_law_861 ?_
  refine sc_ld 1 hx hb hX hbl hbA hn hL hS rfl (by decide) dL_law_862 ?_
  refine lv_aload_n hx hb dL_law_863 rfl (lv_at hl 0 rfl) ?_
  refine lv_iload hx hb dL_law_864 (lv_at hl 4 rfl) ?_
  refine lv_iconst (v := (2 : Int32)) hx hb dL_law_866 (by decide) ?_
  refine lv_iadd hx hb dL_law_867 ?_
  refine sc_ld 2 hx hb hX hbl hbA hn hL hS rfl (by decide) dL_law_868 ?_
  refine lv_aload_n hx hb dL_law_869 rfl (lv_at hl 0 rfl) ?_
  refine lv_iload hx hb dL_law_870 (lv_at hl 4 rfl) ?_
  refine lv_iconst (v := (3 : Int32)) hx hb dL_law_872 (by decide) ?_
  refine lv_iadd hx hb dL_law_873 ?_
  refine sc_ld 3 hx hb hX hbl hbA hn hL hS rfl (by decide) dL_law_874 ?_
  obtain ⟨r, C1, q1, h⟩ := gn_bd2 h
  refine lc_V (rest := []) (rv := .long r) (C' := C1) (M' := M) (o' := o) (lt' := lt) S0 hN hF hK hP hD hS (c_X6_pyramid l z K M o g _ _ _ C r C1 q1) (post_R hG) (cwV 3 hts gL_law_X6_pyramid rfl rfl rfl (by decide +kernel) ⟨(Nat.le_of_ble_eq_true rfl), (Nat.le_of_ble_eq_true rfl)⟩) (va_recv hK hP (ci := 5) (q0 := 0) rfl rfl) rfl hl.1 rfl (Nat.le_of_ble_eq_true rfl) dL_law_875 ⟨Nat.le_trans (Nat.add_le_add_left (show rm_X6_pyramid.cells ≤ 620 from (Nat.le_of_ble_eq_true rfl)) _) hroom.1, Nat.le_trans (Nat.add_le_add_left (show rm_X6_pyramid.slots ≤ 1240 from (Nat.le_of_ble_eq_true rfl)) _) hroom.2⟩ (Nat.le_of_ble_eq_true rfl) (Nat.le_of_ble_eq_true rfl) (fun g H locs hG hP hD hS => ?_)
  refine W.eq (g2 := F0 m 878 ls [.long r]) rfl ?_
  refine lv_aload_n hx hb dL_law_878 rfl (lv_at hl 2 rfl) ?_
  refine lv_aload_n hx hb dL_law_879 rfl (lv_at hl 0 rfl) ?_
  refine lv_iload hx hb dL_law_880 (lv_at hl 4 rfl) ?_
  refine lv_iconst (v := (1 : Int32)) hx hb dL_law_882 (by decide) ?_
  refine lv_iadd hx hb dL_law_883 ?_
  refine sc_ld 1 hx hb hX hbl hbA hn hL hS rfl (by decide) dL_law_884 ?_
  refine lv_aload_n hx hb dL_law_885 rfl (lv_at hl 0 rfl) ?_
  refine lv_iload hx hb dL_law_886 (lv_at hl 4 rfl) ?_
  refine lv_iconst (v := (2 : Int32)) hx hb dL_law_888 (by decide) ?_
  refine lv_iadd hx hb dL_law_889 ?_
  refine sc_ld 2 hx hb hX hbl hbA hn hL hS rfl (by decide) dL_law_890 ?_
  refine lv_aload_n hx hb dL_law_891 rfl (lv_at hl 0 rfl) ?_
  refine lv_iload hx hb dL_law_892 (lv_at hl 4 rfl) ?_
  refine lv_iconst (v := (3 : Int32)) hx hb dL_law_894 (by decide) ?_
  refine lv_iadd hx hb dL_law_895 ?_
  refine sc_ld 3 hx hb hX hbl hbA hn hL hS rfl (by decide) dL_law_896 ?_
  obtain ⟨q, M1, eq, h⟩ := gn_bd2 h
  refine hc_V (rest := [.long r]) S0 hN hF hK hP hD hS (c_X7_pyramid l z K _ _ _ _ _ _ M q M1 eq) (cwV 3 hts gL_law_X7_pyramid rfl rfl rfl (by decide +kernel) ⟨(Nat.le_of_ble_eq_true rfl), (Nat.le_of_ble_eq_true rfl)⟩) (va_recv hK hP (ci := 6) (q0 := 12) rfl rfl) rfl hl.1 rfl (Nat.le_of_ble_eq_true rfl) dL_law_897 hroom.1 hroom.2 (fun H locs hP hD hS => ?_)
  refine W.eq (g2 := F0 m 900 ls [.long q, .long r]) rfl ?_
  refine ll_eq (tgt := 1551) hx hb dL_law_900 dL_law_901 (by decide) (fun c9 => ?_) (fun c9 => ?_)
  · have h := gn_t h c9
    obtain ⟨rfl, h8⟩ := Prod.mk.inj (gn_some h)
    obtain ⟨rfl, rfl⟩ := Prod.mk.inj h8
    exact kk _ _ _ _ _ hG hP hD hS hl
  · have h := gn_f h c9
    cases h
set_option maxRecDepth 100000 in
theorem lw_c13 (hlt : l.stackTraces = false) (A : LC p s m meth c b L xs K) {n : Nat} (hn : n + 6 ≤ L) (hL : L ≤ 3072) {C : CS} {M : MS} {lt : Int64 × Int64} {o : Nat → Int64} {g : Gh} {H : Heap} {locs : List Loc} {cells slots : Nat} {C' : CS} {M' : MS} {lt' : Int64 × Int64} (hroom : cells + 620 ≤ 601024 ∧ slots + 1240 ≤ 7293034) (hG : Gi K g lt) (hP : va_P K.1 vwCl (wd K C M o g) H) (hD : va_D (inA K) (wd K C M o g)) (hS : va_S (inA K) s.heap H locs) (h : lc13 z (xs (n + 1)) (xs (n + 2)) (xs (n + 3)) (xs (n + 4)) (xs (n + 5)) C M lt = some (C', M', lt')) {ls : Array Slot} (hl : lv_has ls 7 [(0, .ref b), (1, .ref (K.2.2.1 0)), (2, .ref (K.2.2.1 12)), (3, .ref (K.2.2.1 17)), (4, .int (Int32.ofNat n))])
    (kk : ∀ (o' : Nat → Int64) (g' : Gh) (H' : Heap) (locs' : List Loc) (ls' : Array Slot), Gi K g' lt' → va_P K.1 vwCl (wd K C' M' o' g') H' → va_D (inA K) (wd K C' M' o' g') → va_S (inA K) s.heap H' locs' → lv_has ls' 7 [(0, .ref b), (1, .ref (K.2.2.1 0)), (2, .ref (K.2.2.1 12)), (3, .ref (K.2.2.1 17)), (4, .int (Int32.ofNat n))] → W p l e room_1 s m #[Value.ref b] below meth c H' locs' (cells + 620) (slots + 1240) Q (F0 m 1551 ls' [])) : W p l e room_1 s m #[Value.ref b] below meth c H locs cells slots Q (F0 m 906 ls []) := by
  obtain ⟨S0, hN, hF, hT, hK, hX, hbl, hbA⟩ := A
  have S9 := S0
  obtain ⟨hx, hb, hml, hown, hts⟩ := S9
  rw [lc13] at h
  refine lv_aload_n hx hb dL_law_906 rfl (lv_at hl 1 rfl) ?_
  refine lv_aload_n hx hb dL_law_907 rfl (lv_at hl 0 rfl) ?_
  refine lv_iload hx hb dL_law_908 (lv_at hl 4 rfl) ?_
  refine lv_iconst (v := (1 : Int32)) hx hb dL_law_910 (by decide) ?_
  refine lv_iadd hx hb dL_law_911 ?_
  refine sc_ld 1 hx hb hX hbl hbA hn hL hS rfl (by decide) dL_law_912 ?_
  refine lv_aload_n hx hb dL_law_913 rfl (lv_at hl 3 rfl) ?_
  refine lc_O (rest := []) (av := [.ref (K.2.2.1 0), .int (xs (n + 1)), .ref (K.2.2.1 17)]) S0 hN hF hT hK hP hD hS (c_L_of l hlt K C M o g (xs (n + 1))) (vx_cwSW 3 hts gL_law_L_of rfl rfl rfl (by decide +kernel) ⟨(Nat.le_of_ble_eq_true rfl), (Nat.le_of_ble_eq_true rfl)⟩) rfl hl.1 rfl (Nat.le_of_ble_eq_true rfl) dL_law_914 ⟨Nat.le_trans (Nat.add_le_add_left (by decide) _) hroom.1, Nat.le_trans (Nat.add_le_add_left (by decide) _) hroom.2⟩ (fun H locs hP hD hS => ?_)
  obtain ⟨q, M1, eq, h⟩ := gn_bd2 h
  obtain ⟨q1, M2, eq1, h⟩ := gn_bd2 h
  rcases hof : ofV (xs (n + 1)) C with _ | r
  · rw [hof] at h
    have hq : lofV (xs (n + 1)) C o = (1, o) := by rw [lofV, hof]
    rw [hq] at hP hD ⊢
    refine lv_istore (lv' := [(5, .int 1), (0, .ref b), (1, .ref (K.2.2.1 0)), (2, .ref (K.2.2.1 12)), (3, .ref (K.2.2.1 17)), (4, .int (Int32.ofNat n))]) hx hb dL_law_917 hl (by decide) rfl (fun ls hl => ?_)
    refine lv_aload_n hx hb dL_law_919 rfl (lv_at hl 3 rfl) ?_
    refine lv_aload_n hx hb dL_law_920 rfl (lv_at hl 1 rfl) ?_
    refine lv_iload hx hb dL_law_921 (lv_at hl 5 rfl) ?_
    refine lv_iconst (v := (1 : Int32)) hx hb dL_law_923 (by decide) ?_
    refine lv_iadd hx hb dL_law_924 ?_
    refine sc_ld 1 hx hb hX hbl hbA hn hL hS rfl (by decide) dL_law_925 ?_
    refine hc_V (rest := []) S0 hN hF hK hP hD hS (c_X7_of l z K _ _ _ _ M q M1 eq) (cwV 1 hts gL_law_X7_of rfl rfl rfl (by decide +kernel) ⟨(Nat.le_of_ble_eq_true rfl), (Nat.le_of_ble_eq_true rfl)⟩) (va_recv hK hP (ci := 6) (q0 := 12) rfl rfl) rfl hl.1 rfl (Nat.le_of_ble_eq_true rfl) dL_law_926 hroom.1 hroom.2 (fun H locs hP hD hS => ?_)
    refine W.eq (g2 := F0 m 929 ls [.int q]) rfl ?_
    refine lv_istore (lv' := [(6, .int q), (5, .int 1), (0, .ref b), (1, .ref (K.2.2.1 0)), (2, .ref (K.2.2.1 12)), (3, .ref (K.2.2.1 17)), (4, .int (Int32.ofNat n))]) hx hb dL_law_929 hl (by decide) rfl (fun ls hl => ?_)
    refine lv_aload_n hx hb dL_law_931 rfl (lv_at hl 4 rfl) ?_
    refine hc_V (rest := []) S0 hN hF hK hP hD hS (c_X7_thrown l z K _ _ _ M1 q1 M2 eq1) (cwV 0 hts gL_law_X7_thrown rfl rfl rfl (by decide +kernel) ⟨(Nat.le_of_ble_eq_true rfl), (Nat.le_of_ble_eq_true rfl)⟩) (va_recv hK hP (ci := 6) (q0 := 12) rfl rfl) rfl hl.1 rfl (Nat.le_of_ble_eq_true rfl) dL_law_932 hroom.1 hroom.2 (fun H locs hP hD hS => ?_)
    refine W.eq (g2 := F0 m 935 ls [.int q1]) rfl ?_
    refine lv_iload hx hb dL_law_935 (lv_at hl 1 rfl) ?_
    have hl9 := lv_sub hl [2, 3, 4, 5, 6] rfl
    refine lv_icmp_eq (tgt := 942) hx hb dL_law_937 (by decide) (fun c9 => ?_) (fun c9 => ?_)
    · refine lv_iload hx hb dL_law_942 (lv_at hl 1 rfl) ?_
      refine lv_if_ne (tgt := 959) hx hb dL_law_944 (by decide) (fun _ => ?_) (fun c8 => absurd c8 (by decide))
      refine lv_goto (tgt := 1551) hx hb dL_law_959 (by decide) ?_
      have h := gn_t h c9
      obtain ⟨rfl, h8⟩ := Prod.mk.inj (gn_some h)
      obtain ⟨rfl, rfl⟩ := Prod.mk.inj h8
      exact kk _ _ _ _ _ hG hP hD hS hl9
    · have h := gn_f h c9
      cases h
  · rw [hof] at h
    have hq : lofV (xs (n + 1)) C o = (0, vp_updL o 0 r.toInt64) := by rw [lofV, hof]
    rw [hq] at hP hD ⊢
    refine lv_istore (lv' := [(5, .int 0), (0, .ref b), (1, .ref (K.2.2.1 0)), (2, .ref (K.2.2.1 12)), (3, .ref (K.2.2.1 17)), (4, .int (Int32.ofNat n))]) hx hb dL_law_917 hl (by decide) rfl (fun ls hl => ?_)
    refine lv_aload_n hx hb dL_law_919 rfl (lv_at hl 3 rfl) ?_
    refine lv_aload_n hx hb dL_law_920 rfl (lv_at hl 1 rfl) ?_
    refine lv_iload hx hb dL_law_921 (lv_at hl 5 rfl) ?_
    refine lv_iconst (v := (1 : Int32)) hx hb dL_law_923 (by decide) ?_
    refine lv_iadd hx hb dL_law_924 ?_
    refine sc_ld 1 hx hb hX hbl hbA hn hL hS rfl (by decide) dL_law_925 ?_
    refine hc_V (rest := []) S0 hN hF hK hP hD hS (c_X7_of l z K _ _ _ _ M q M1 eq) (cwV 1 hts gL_law_X7_of rfl rfl rfl (by decide +kernel) ⟨(Nat.le_of_ble_eq_true rfl), (Nat.le_of_ble_eq_true rfl)⟩) (va_recv hK hP (ci := 6) (q0 := 12) rfl rfl) rfl hl.1 rfl (Nat.le_of_ble_eq_true rfl) dL_law_926 hroom.1 hroom.2 (fun H locs hP hD hS => ?_)
    refine W.eq (g2 := F0 m 929 ls [.int q]) rfl ?_
    refine lv_istore (lv' := [(6, .int q), (5, .int 0), (0, .ref b), (1, .ref (K.2.2.1 0)), (2, .ref (K.2.2.1 12)), (3, .ref (K.2.2.1 17)), (4, .int (Int32.ofNat n))]) hx hb dL_law_929 hl (by decide) rfl (fun ls hl => ?_)
    refine lv_aload_n hx hb dL_law_931 rfl (lv_at hl 4 rfl) ?_
    refine hc_V (rest := []) S0 hN hF hK hP hD hS (c_X7_thrown l z K _ _ _ M1 q1 M2 eq1) (cwV 0 hts gL_law_X7_thrown rfl rfl rfl (by decide +kernel) ⟨(Nat.le_of_ble_eq_true rfl), (Nat.le_of_ble_eq_true rfl)⟩) (va_recv hK hP (ci := 6) (q0 := 12) rfl rfl) rfl hl.1 rfl (Nat.le_of_ble_eq_true rfl) dL_law_932 hroom.1 hroom.2 (fun H locs hP hD hS => ?_)
    refine W.eq (g2 := F0 m 935 ls [.int q1]) rfl ?_
    refine lv_iload hx hb dL_law_935 (lv_at hl 1 rfl) ?_
    have hl9 := lv_sub hl [2, 3, 4, 5, 6] rfl
    refine lv_icmp_eq (tgt := 942) hx hb dL_law_937 (by decide) (fun c9 => ?_) (fun c9 => ?_)
    · refine lv_iload hx hb dL_law_942 (lv_at hl 1 rfl) ?_
      refine lv_if_ne (tgt := 959) hx hb dL_law_944 (by decide) (fun c8 => absurd rfl c8) (fun _ => ?_)
      refine lv_aload_n hx hb dL_law_947 rfl (lv_at hl 5 rfl) ?_
      refine lv_iconst (v := (0 : Int32)) hx hb dL_law_948 (by decide) ?_
      refine va_lald hx hb hK hP 17 0 rfl rfl (ib_in (show ib (0 : Int32) 1 = true by decide)) dL_law_949 ?_
      refine lv_iload hx hb dL_law_950 (lv_at hl 0 rfl) ?_
      refine lv_i2l hx hb dL_law_952 rfl ?_
      refine ll_eq (tgt := 959) hx hb dL_law_953 dL_law_954 (by decide) (fun c8 => ?_) (fun c8 => ?_)
      · refine lv_goto (tgt := 1551) hx hb dL_law_959 (by decide) ?_
        have h := gn_t h ⟨c9, c8⟩
        obtain ⟨rfl, h8⟩ := Prod.mk.inj (gn_some h)
        obtain ⟨rfl, rfl⟩ := Prod.mk.inj h8
        exact kk _ _ _ _ _ hG hP hD hS hl9
      · have h := gn_f h (fun h9 => c8 h9.2)
        cases h
    · have h := gn_f h (fun h9 => c9 h9.1)
      cases h
set_option maxRecDepth 100000 in
theorem lw_c14 (A : LC p s m meth c b L xs K) {n : Nat} (hn : n + 6 ≤ L) (hL : L ≤ 3072) {C : CS} {M : MS} {lt : Int64 × Int64} {o : Nat → Int64} {g : Gh} {H : Heap} {locs : List Loc} {cells slots : Nat} {C' : CS} {M' : MS} {lt' : Int64 × Int64} (hroom : cells + 620 ≤ 601024 ∧ slots + 1240 ≤ 7293034) (hG : Gi K g lt) (hP : va_P K.1 vwCl (wd K C M o g) H) (hD : va_D (inA K) (wd K C M o g)) (hS : va_S (inA K) s.heap H locs) (h : lc14 z (xs (n + 1)) (xs (n + 2)) (xs (n + 3)) (xs (n + 4)) (xs (n + 5)) C M lt = some (C', M', lt')) {ls : Array Slot} (hl : lv_has ls 7 [(0, .ref b), (1, .ref (K.2.2.1 0)), (2, .ref (K.2.2.1 12)), (3, .ref (K.2.2.1 17)), (4, .int (Int32.ofNat n))])
    (kk : ∀ (o' : Nat → Int64) (g' : Gh) (H' : Heap) (locs' : List Loc) (ls' : Array Slot), Gi K g' lt' → va_P K.1 vwCl (wd K C' M' o' g') H' → va_D (inA K) (wd K C' M' o' g') → va_S (inA K) s.heap H' locs' → lv_has ls' 7 [(0, .ref b), (1, .ref (K.2.2.1 0)), (2, .ref (K.2.2.1 12)), (3, .ref (K.2.2.1 17)), (4, .int (Int32.ofNat n))] → W p l e room_1 s m #[Value.ref b] below meth c H' locs' (cells + 620) (slots + 1240) Q (F0 m 1551 ls' [])) : W p l e room_1 s m #[Value.ref b] below meth c H locs cells slots Q (F0 m 962 ls []) := by
  obtain ⟨S0, hN, hF, hT, hK, hX, hbl, hbA⟩ := A
  have S9 := S0
  obtain ⟨hx, hb, hml, hown, hts⟩ := S9
  rw [lc14] at h
  refine lv_aload_n hx hb dL_law_962 rfl (lv_at hl 1 rfl) ?_
  refine lv_aload_n hx hb dL_law_963 rfl (lv_at hl 0 rfl) ?_
  refine lv_iload hx hb dL_law_964 (lv_at hl 4 rfl) ?_
  refine lv_iconst (v := (1 : Int32)) hx hb dL_law_966 (by decide) ?_
  refine lv_iadd hx hb dL_law_967 ?_
  refine sc_ld 1 hx hb hX hbl hbA hn hL hS rfl (by decide) dL_law_968 ?_
  refine lv_aload_n hx hb dL_law_969 rfl (lv_at hl 0 rfl) ?_
  refine lv_iload hx hb dL_law_970 (lv_at hl 4 rfl) ?_
  refine lv_iconst (v := (2 : Int32)) hx hb dL_law_972 (by decide) ?_
  refine lv_iadd hx hb dL_law_973 ?_
  refine sc_ld 2 hx hb hX hbl hbA hn hL hS rfl (by decide) dL_law_974 ?_
  refine lv_aload_n hx hb dL_law_975 rfl (lv_at hl 0 rfl) ?_
  refine lv_iload hx hb dL_law_976 (lv_at hl 4 rfl) ?_
  refine lv_iconst (v := (3 : Int32)) hx hb dL_law_978 (by decide) ?_
  refine lv_iadd hx hb dL_law_979 ?_
  refine sc_ld 3 hx hb hX hbl hbA hn hL hS rfl (by decide) dL_law_980 ?_
  refine lv_aload_n hx hb dL_law_981 rfl (lv_at hl 0 rfl) ?_
  refine lv_iload hx hb dL_law_982 (lv_at hl 4 rfl) ?_
  refine lv_iconst (v := (4 : Int32)) hx hb dL_law_984 (by decide) ?_
  refine lv_iadd hx hb dL_law_985 ?_
  refine sc_ld 4 hx hb hX hbl hbA hn hL hS rfl (by decide) dL_law_986 ?_
  obtain ⟨r, C1, q1, h⟩ := gn_bd2 h
  refine lc_V (rest := []) (rv := .int r) (C' := C1) (M' := M) (o' := o) (lt' := lt) S0 hN hF hK hP hD hS (c_X6_set l z K M o g _ _ _ _ C r C1 q1) (post_R hG) (cwV 4 hts gL_law_X6_set rfl rfl rfl (by decide +kernel) ⟨(Nat.le_of_ble_eq_true rfl), (Nat.le_of_ble_eq_true rfl)⟩) (va_recv hK hP (ci := 5) (q0 := 0) rfl rfl) rfl hl.1 rfl (Nat.le_of_ble_eq_true rfl) dL_law_987 ⟨Nat.le_trans (Nat.add_le_add_left (show rm_X6_set.cells ≤ 620 from (Nat.le_of_ble_eq_true rfl)) _) hroom.1, Nat.le_trans (Nat.add_le_add_left (show rm_X6_set.slots ≤ 1240 from (Nat.le_of_ble_eq_true rfl)) _) hroom.2⟩ (Nat.le_of_ble_eq_true rfl) (Nat.le_of_ble_eq_true rfl) (fun g H locs hG hP hD hS => ?_)
  refine W.eq (g2 := F0 m 990 ls [.int r]) rfl ?_
  refine lv_aload_n hx hb dL_law_990 rfl (lv_at hl 2 rfl) ?_
  refine lv_aload_n hx hb dL_law_991 rfl (lv_at hl 0 rfl) ?_
  refine lv_iload hx hb dL_law_992 (lv_at hl 4 rfl) ?_
  refine lv_iconst (v := (1 : Int32)) hx hb dL_law_994 (by decide) ?_
  refine lv_iadd hx hb dL_law_995 ?_
  refine sc_ld 1 hx hb hX hbl hbA hn hL hS rfl (by decide) dL_law_996 ?_
  refine lv_aload_n hx hb dL_law_997 rfl (lv_at hl 0 rfl) ?_
  refine lv_iload hx hb dL_law_998 (lv_at hl 4 rfl) ?_
  refine lv_iconst (v := (2 : Int32)) hx hb dL_law_1000 (by decide) ?_
  refine lv_iadd hx hb dL_law_1001 ?_
  refine sc_ld 2 hx hb hX hbl hbA hn hL hS rfl (by decide) dL_law_1002 ?_
  refine lv_aload_n hx hb dL_law_1003 rfl (lv_at hl 0 rfl) ?_
  refine lv_iload hx hb dL_law_1004 (lv_at hl 4 rfl) ?_
  refine lv_iconst (v := (3 : Int32)) hx hb dL_law_1006 (by decide) ?_
  refine lv_iadd hx hb dL_law_1007 ?_
  refine sc_ld 3 hx hb hX hbl hbA hn hL hS rfl (by decide) dL_law_1008 ?_
  refine lv_aload_n hx hb dL_law_1009 rfl (lv_at hl 0 rfl) ?_
  refine lv_iload hx hb dL_law_1010 (lv_at hl 4 rfl) ?_
  refine lv_iconst (v := (4 : Int32)) hx hb dL_law_1012 (by decide) ?_
  refine lv_iadd hx hb dL_law_1013 ?_
  refine sc_ld 4 hx hb hX hbl hbA hn hL hS rfl (by decide) dL_law_1014 ?_
  obtain ⟨q, M1, eq, h⟩ := gn_bd2 h
  refine hc_V (rest := [.int r]) S0 hN hF hK hP hD hS (c_X7_set l z K _ _ _ _ _ _ _ M q M1 eq) (cwV 4 hts gL_law_X7_set rfl rfl rfl (by decide +kernel) ⟨(Nat.le_of_ble_eq_true rfl), (Nat.le_of_ble_eq_true rfl)⟩) (va_recv hK hP (ci := 6) (q0 := 12) rfl rfl) rfl hl.1 rfl (Nat.le_of_ble_eq_true rfl) dL_law_1015 hroom.1 hroom.2 (fun H locs hP hD hS => ?_)
  refine W.eq (g2 := F0 m 1018 ls [.int q, .int r]) rfl ?_
  refine lv_icmp_eq (tgt := 1551) hx hb dL_law_1018 (by decide) (fun c9 => ?_) (fun c9 => ?_)
  · have h := gn_t h c9
    obtain ⟨rfl, h8⟩ := Prod.mk.inj (gn_some h)
    obtain ⟨rfl, rfl⟩ := Prod.mk.inj h8
    exact kk _ _ _ _ _ hG hP hD hS hl
  · have h := gn_f h c9
    cases h
set_option maxRecDepth 100000 in
theorem lw_c15 (A : LC p s m meth c b L xs K) {n : Nat} (hn : n + 6 ≤ L) (hL : L ≤ 3072) {C : CS} {M : MS} {lt : Int64 × Int64} {o : Nat → Int64} {g : Gh} {H : Heap} {locs : List Loc} {cells slots : Nat} {C' : CS} {M' : MS} {lt' : Int64 × Int64} (hroom : cells + 620 ≤ 601024 ∧ slots + 1240 ≤ 7293034) (hG : Gi K g lt) (hP : va_P K.1 vwCl (wd K C M o g) H) (hD : va_D (inA K) (wd K C M o g)) (hS : va_S (inA K) s.heap H locs) (h : lc15 z (xs (n + 1)) (xs (n + 2)) (xs (n + 3)) (xs (n + 4)) (xs (n + 5)) C M lt = some (C', M', lt')) {ls : Array Slot} (hl : lv_has ls 7 [(0, .ref b), (1, .ref (K.2.2.1 0)), (2, .ref (K.2.2.1 12)), (3, .ref (K.2.2.1 17)), (4, .int (Int32.ofNat n))])
    (kk : ∀ (o' : Nat → Int64) (g' : Gh) (H' : Heap) (locs' : List Loc) (ls' : Array Slot), Gi K g' lt' → va_P K.1 vwCl (wd K C' M' o' g') H' → va_D (inA K) (wd K C' M' o' g') → va_S (inA K) s.heap H' locs' → lv_has ls' 7 [(0, .ref b), (1, .ref (K.2.2.1 0)), (2, .ref (K.2.2.1 12)), (3, .ref (K.2.2.1 17)), (4, .int (Int32.ofNat n))] → W p l e room_1 s m #[Value.ref b] below meth c H' locs' (cells + 620) (slots + 1240) Q (F0 m 1551 ls' [])) : W p l e room_1 s m #[Value.ref b] below meth c H locs cells slots Q (F0 m 1023 ls []) := by
  obtain ⟨S0, hN, hF, hT, hK, hX, hbl, hbA⟩ := A
  have S9 := S0
  obtain ⟨hx, hb, hml, hown, hts⟩ := S9
  rw [lc15] at h
  refine lv_aload_n hx hb dL_law_1023 rfl (lv_at hl 1 rfl) ?_
  obtain ⟨r, C1, q1, h⟩ := gn_bd2 h
  refine lc_V (rest := []) (rv := .int r) (C' := C1) (M' := M) (o' := o) (lt' := lt) S0 hN hF hK hP hD hS (c_X6_turn l z K M o g  C r C1 q1) (post_R hG) (cwV 0 hts gL_law_X6_turn rfl rfl rfl (by decide +kernel) ⟨(Nat.le_of_ble_eq_true rfl), (Nat.le_of_ble_eq_true rfl)⟩) (va_recv hK hP (ci := 5) (q0 := 0) rfl rfl) rfl hl.1 rfl (Nat.le_of_ble_eq_true rfl) dL_law_1024 ⟨Nat.le_trans (Nat.add_le_add_left (show rm_X6_turn.cells ≤ 620 from (Nat.le_of_ble_eq_true rfl)) _) hroom.1, Nat.le_trans (Nat.add_le_add_left (show rm_X6_turn.slots ≤ 1240 from (Nat.le_of_ble_eq_true rfl)) _) hroom.2⟩ (Nat.le_of_ble_eq_true rfl) (Nat.le_of_ble_eq_true rfl) (fun g H locs hG hP hD hS => ?_)
  refine W.eq (g2 := F0 m 1027 ls [.int r]) rfl ?_
  refine lv_aload_n hx hb dL_law_1027 rfl (lv_at hl 2 rfl) ?_
  obtain ⟨q, M1, eq, h⟩ := gn_bd2 h
  refine hc_V (rest := [.int r]) S0 hN hF hK hP hD hS (c_X7_turn l z K _ _ _  M q M1 eq) (cwV 0 hts gL_law_X7_turn rfl rfl rfl (by decide +kernel) ⟨(Nat.le_of_ble_eq_true rfl), (Nat.le_of_ble_eq_true rfl)⟩) (va_recv hK hP (ci := 6) (q0 := 12) rfl rfl) rfl hl.1 rfl (Nat.le_of_ble_eq_true rfl) dL_law_1028 hroom.1 hroom.2 (fun H locs hP hD hS => ?_)
  refine W.eq (g2 := F0 m 1031 ls [.int q, .int r]) rfl ?_
  refine lv_icmp_eq (tgt := 1551) hx hb dL_law_1031 (by decide) (fun c9 => ?_) (fun c9 => ?_)
  · have h := gn_t h c9
    obtain ⟨rfl, h8⟩ := Prod.mk.inj (gn_some h)
    obtain ⟨rfl, rfl⟩ := Prod.mk.inj h8
    exact kk _ _ _ _ _ hG hP hD hS hl
  · have h := gn_f h c9
    cases h
set_option maxRecDepth 100000 in
theorem lw_c16 (A : LC p s m meth c b L xs K) {n : Nat} (hn : n + 6 ≤ L) (hL : L ≤ 3072) {C : CS} {M : MS} {lt : Int64 × Int64} {o : Nat → Int64} {g : Gh} {H : Heap} {locs : List Loc} {cells slots : Nat} {C' : CS} {M' : MS} {lt' : Int64 × Int64} (hroom : cells + 620 ≤ 601024 ∧ slots + 1240 ≤ 7293034) (hG : Gi K g lt) (hP : va_P K.1 vwCl (wd K C M o g) H) (hD : va_D (inA K) (wd K C M o g)) (hS : va_S (inA K) s.heap H locs) (h : lc16 z (xs (n + 1)) (xs (n + 2)) (xs (n + 3)) (xs (n + 4)) (xs (n + 5)) C M lt = some (C', M', lt')) {ls : Array Slot} (hl : lv_has ls 7 [(0, .ref b), (1, .ref (K.2.2.1 0)), (2, .ref (K.2.2.1 12)), (3, .ref (K.2.2.1 17)), (4, .int (Int32.ofNat n))])
    (kk : ∀ (o' : Nat → Int64) (g' : Gh) (H' : Heap) (locs' : List Loc) (ls' : Array Slot), Gi K g' lt' → va_P K.1 vwCl (wd K C' M' o' g') H' → va_D (inA K) (wd K C' M' o' g') → va_S (inA K) s.heap H' locs' → lv_has ls' 7 [(0, .ref b), (1, .ref (K.2.2.1 0)), (2, .ref (K.2.2.1 12)), (3, .ref (K.2.2.1 17)), (4, .int (Int32.ofNat n))] → W p l e room_1 s m #[Value.ref b] below meth c H' locs' (cells + 620) (slots + 1240) Q (F0 m 1551 ls' [])) : W p l e room_1 s m #[Value.ref b] below meth c H locs cells slots Q (F0 m 1036 ls []) := by
  obtain ⟨S0, hN, hF, hT, hK, hX, hbl, hbA⟩ := A
  have S9 := S0
  obtain ⟨hx, hb, hml, hown, hts⟩ := S9
  rw [lc16] at h
  refine lv_aload_n hx hb dL_law_1036 rfl (lv_at hl 1 rfl) ?_
  refine lv_aload_n hx hb dL_law_1037 rfl (lv_at hl 0 rfl) ?_
  refine lv_iload hx hb dL_law_1038 (lv_at hl 4 rfl) ?_
  refine lv_iconst (v := (1 : Int32)) hx hb dL_law_1040 (by decide) ?_
  refine lv_iadd hx hb dL_law_1041 ?_
  refine sc_ld 1 hx hb hX hbl hbA hn hL hS rfl (by decide) dL_law_1042 ?_
  obtain ⟨r, C1, q1, h⟩ := gn_bd2 h
  refine lc_V (rest := []) (rv := .int r) (C' := C1) (M' := M) (o' := o) (lt' := lt) S0 hN hF hK hP hD hS (c_X6_shift l z K M o g _ C r C1 q1) (post_R hG) (cwV 1 hts gL_law_X6_shift rfl rfl rfl (by decide +kernel) ⟨(Nat.le_of_ble_eq_true rfl), (Nat.le_of_ble_eq_true rfl)⟩) (va_recv hK hP (ci := 5) (q0 := 0) rfl rfl) rfl hl.1 rfl (Nat.le_of_ble_eq_true rfl) dL_law_1043 ⟨Nat.le_trans (Nat.add_le_add_left (show rm_X6_shift.cells ≤ 620 from (Nat.le_of_ble_eq_true rfl)) _) hroom.1, Nat.le_trans (Nat.add_le_add_left (show rm_X6_shift.slots ≤ 1240 from (Nat.le_of_ble_eq_true rfl)) _) hroom.2⟩ (Nat.le_of_ble_eq_true rfl) (Nat.le_of_ble_eq_true rfl) (fun g H locs hG hP hD hS => ?_)
  refine W.eq (g2 := F0 m 1046 ls [.int r]) rfl ?_
  refine lv_aload_n hx hb dL_law_1046 rfl (lv_at hl 2 rfl) ?_
  refine lv_aload_n hx hb dL_law_1047 rfl (lv_at hl 0 rfl) ?_
  refine lv_iload hx hb dL_law_1048 (lv_at hl 4 rfl) ?_
  refine lv_iconst (v := (1 : Int32)) hx hb dL_law_1050 (by decide) ?_
  refine lv_iadd hx hb dL_law_1051 ?_
  refine sc_ld 1 hx hb hX hbl hbA hn hL hS rfl (by decide) dL_law_1052 ?_
  obtain ⟨q, M1, eq, h⟩ := gn_bd2 h
  refine hc_V (rest := [.int r]) S0 hN hF hK hP hD hS (c_X7_shift l z K _ _ _ _ M q M1 eq) (cwV 1 hts gL_law_X7_shift rfl rfl rfl (by decide +kernel) ⟨(Nat.le_of_ble_eq_true rfl), (Nat.le_of_ble_eq_true rfl)⟩) (va_recv hK hP (ci := 6) (q0 := 12) rfl rfl) rfl hl.1 rfl (Nat.le_of_ble_eq_true rfl) dL_law_1053 hroom.1 hroom.2 (fun H locs hP hD hS => ?_)
  refine W.eq (g2 := F0 m 1056 ls [.int q, .int r]) rfl ?_
  refine lv_icmp_eq (tgt := 1551) hx hb dL_law_1056 (by decide) (fun c9 => ?_) (fun c9 => ?_)
  · have h := gn_t h c9
    obtain ⟨rfl, h8⟩ := Prod.mk.inj (gn_some h)
    obtain ⟨rfl, rfl⟩ := Prod.mk.inj h8
    exact kk _ _ _ _ _ hG hP hD hS hl
  · have h := gn_f h c9
    cases h
set_option maxRecDepth 100000 in
theorem lw_c17 (A : LC p s m meth c b L xs K) {n : Nat} (hn : n + 6 ≤ L) (hL : L ≤ 3072) {C : CS} {M : MS} {lt : Int64 × Int64} {o : Nat → Int64} {g : Gh} {H : Heap} {locs : List Loc} {cells slots : Nat} {C' : CS} {M' : MS} {lt' : Int64 × Int64} (hroom : cells + 620 ≤ 601024 ∧ slots + 1240 ≤ 7293034) (hG : Gi K g lt) (hP : va_P K.1 vwCl (wd K C M o g) H) (hD : va_D (inA K) (wd K C M o g)) (hS : va_S (inA K) s.heap H locs) (h : lc17 z (xs (n + 1)) (xs (n + 2)) (xs (n + 3)) (xs (n + 4)) (xs (n + 5)) C M lt = some (C', M', lt')) {ls : Array Slot} (hl : lv_has ls 7 [(0, .ref b), (1, .ref (K.2.2.1 0)), (2, .ref (K.2.2.1 12)), (3, .ref (K.2.2.1 17)), (4, .int (Int32.ofNat n))])
    (kk : ∀ (o' : Nat → Int64) (g' : Gh) (H' : Heap) (locs' : List Loc) (ls' : Array Slot), Gi K g' lt' → va_P K.1 vwCl (wd K C' M' o' g') H' → va_D (inA K) (wd K C' M' o' g') → va_S (inA K) s.heap H' locs' → lv_has ls' 7 [(0, .ref b), (1, .ref (K.2.2.1 0)), (2, .ref (K.2.2.1 12)), (3, .ref (K.2.2.1 17)), (4, .int (Int32.ofNat n))] → W p l e room_1 s m #[Value.ref b] below meth c H' locs' (cells + 620) (slots + 1240) Q (F0 m 1551 ls' [])) : W p l e room_1 s m #[Value.ref b] below meth c H locs cells slots Q (F0 m 1061 ls []) := by
  obtain ⟨S0, hN, hF, hT, hK, hX, hbl, hbA⟩ := A
  have S9 := S0
  obtain ⟨hx, hb, hml, hown, hts⟩ := S9
  rw [lc17] at h
  refine lv_aload_n hx hb dL_law_1061 rfl (lv_at hl 1 rfl) ?_
  refine lv_aload_n hx hb dL_law_1062 rfl (lv_at hl 0 rfl) ?_
  refine lv_iload hx hb dL_law_1063 (lv_at hl 4 rfl) ?_
  refine lv_iconst (v := (1 : Int32)) hx hb dL_law_1065 (by decide) ?_
  refine lv_iadd hx hb dL_law_1066 ?_
  refine sc_ld 1 hx hb hX hbl hbA hn hL hS rfl (by decide) dL_law_1067 ?_
  refine lv_aload_n hx hb dL_law_1068 rfl (lv_at hl 0 rfl) ?_
  refine lv_iload hx hb dL_law_1069 (lv_at hl 4 rfl) ?_
  refine lv_iconst (v := (2 : Int32)) hx hb dL_law_1071 (by decide) ?_
  refine lv_iadd hx hb dL_law_1072 ?_
  refine sc_ld 2 hx hb hX hbl hbA hn hL hS rfl (by decide) dL_law_1073 ?_
  refine lv_aload_n hx hb dL_law_1074 rfl (lv_at hl 0 rfl) ?_
  refine lv_iload hx hb dL_law_1075 (lv_at hl 4 rfl) ?_
  refine lv_iconst (v := (3 : Int32)) hx hb dL_law_1077 (by decide) ?_
  refine lv_iadd hx hb dL_law_1078 ?_
  refine sc_ld 3 hx hb hX hbl hbA hn hL hS rfl (by decide) dL_law_1079 ?_
  refine lv_aload_n hx hb dL_law_1080 rfl (lv_at hl 0 rfl) ?_
  refine lv_iload hx hb dL_law_1081 (lv_at hl 4 rfl) ?_
  refine lv_iconst (v := (4 : Int32)) hx hb dL_law_1083 (by decide) ?_
  refine lv_iadd hx hb dL_law_1084 ?_
  refine sc_ld 4 hx hb hX hbl hbA hn hL hS rfl (by decide) dL_law_1085 ?_
  obtain ⟨r, C1, q1, h⟩ := gn_bd2 h
  refine lc_V (rest := []) (rv := .int r) (C' := C1) (M' := M) (o' := o) (lt' := lt) S0 hN hF hK hP hD hS (c_X6_times l z K M o g _ _ _ _ C r C1 q1) (post_R hG) (cwV 4 hts gL_law_X6_times rfl rfl rfl (by decide +kernel) ⟨(Nat.le_of_ble_eq_true rfl), (Nat.le_of_ble_eq_true rfl)⟩) (va_recv hK hP (ci := 5) (q0 := 0) rfl rfl) rfl hl.1 rfl (Nat.le_of_ble_eq_true rfl) dL_law_1086 ⟨Nat.le_trans (Nat.add_le_add_left (show rm_X6_times.cells ≤ 620 from (Nat.le_of_ble_eq_true rfl)) _) hroom.1, Nat.le_trans (Nat.add_le_add_left (show rm_X6_times.slots ≤ 1240 from (Nat.le_of_ble_eq_true rfl)) _) hroom.2⟩ (Nat.le_of_ble_eq_true rfl) (Nat.le_of_ble_eq_true rfl) (fun g H locs hG hP hD hS => ?_)
  refine W.eq (g2 := F0 m 1089 ls [.int r]) rfl ?_
  refine lv_aload_n hx hb dL_law_1089 rfl (lv_at hl 2 rfl) ?_
  refine lv_aload_n hx hb dL_law_1090 rfl (lv_at hl 0 rfl) ?_
  refine lv_iload hx hb dL_law_1091 (lv_at hl 4 rfl) ?_
  refine lv_iconst (v := (1 : Int32)) hx hb dL_law_1093 (by decide) ?_
  refine lv_iadd hx hb dL_law_1094 ?_
  refine sc_ld 1 hx hb hX hbl hbA hn hL hS rfl (by decide) dL_law_1095 ?_
  refine lv_aload_n hx hb dL_law_1096 rfl (lv_at hl 0 rfl) ?_
  refine lv_iload hx hb dL_law_1097 (lv_at hl 4 rfl) ?_
  refine lv_iconst (v := (2 : Int32)) hx hb dL_law_1099 (by decide) ?_
  refine lv_iadd hx hb dL_law_1100 ?_
  refine sc_ld 2 hx hb hX hbl hbA hn hL hS rfl (by decide) dL_law_1101 ?_
  refine lv_aload_n hx hb dL_law_1102 rfl (lv_at hl 0 rfl) ?_
  refine lv_iload hx hb dL_law_1103 (lv_at hl 4 rfl) ?_
  refine lv_iconst (v := (3 : Int32)) hx hb dL_law_1105 (by decide) ?_
  refine lv_iadd hx hb dL_law_1106 ?_
  refine sc_ld 3 hx hb hX hbl hbA hn hL hS rfl (by decide) dL_law_1107 ?_
  refine lv_aload_n hx hb dL_law_1108 rfl (lv_at hl 0 rfl) ?_
  refine lv_iload hx hb dL_law_1109 (lv_at hl 4 rfl) ?_
  refine lv_iconst (v := (4 : Int32)) hx hb dL_law_1111 (by decide) ?_
  refine lv_iadd hx hb dL_law_1112 ?_
  refine sc_ld 4 hx hb hX hbl hbA hn hL hS rfl (by decide) dL_law_1113 ?_
  obtain ⟨q, M1, eq, h⟩ := gn_bd2 h
  refine hc_V (rest := [.int r]) S0 hN hF hK hP hD hS (c_X7_times l z K _ _ _ _ _ _ _ M q M1 eq) (cwV 4 hts gL_law_X7_times rfl rfl rfl (by decide +kernel) ⟨(Nat.le_of_ble_eq_true rfl), (Nat.le_of_ble_eq_true rfl)⟩) (va_recv hK hP (ci := 6) (q0 := 12) rfl rfl) rfl hl.1 rfl (Nat.le_of_ble_eq_true rfl) dL_law_1114 hroom.1 hroom.2 (fun H locs hP hD hS => ?_)
  refine W.eq (g2 := F0 m 1117 ls [.int q, .int r]) rfl ?_
  refine lv_icmp_eq (tgt := 1551) hx hb dL_law_1117 (by decide) (fun c9 => ?_) (fun c9 => ?_)
  · have h := gn_t h c9
    obtain ⟨rfl, h8⟩ := Prod.mk.inj (gn_some h)
    obtain ⟨rfl, rfl⟩ := Prod.mk.inj h8
    exact kk _ _ _ _ _ hG hP hD hS hl
  · have h := gn_f h c9
    cases h
set_option maxRecDepth 100000 in
theorem lw_c18 (A : LC p s m meth c b L xs K) {n : Nat} (hn : n + 6 ≤ L) (hL : L ≤ 3072) {C : CS} {M : MS} {lt : Int64 × Int64} {o : Nat → Int64} {g : Gh} {H : Heap} {locs : List Loc} {cells slots : Nat} {C' : CS} {M' : MS} {lt' : Int64 × Int64} (hroom : cells + 620 ≤ 601024 ∧ slots + 1240 ≤ 7293034) (hG : Gi K g lt) (hP : va_P K.1 vwCl (wd K C M o g) H) (hD : va_D (inA K) (wd K C M o g)) (hS : va_S (inA K) s.heap H locs) (h : lc18 z (xs (n + 1)) (xs (n + 2)) (xs (n + 3)) (xs (n + 4)) (xs (n + 5)) C M lt = some (C', M', lt')) {ls : Array Slot} (hl : lv_has ls 7 [(0, .ref b), (1, .ref (K.2.2.1 0)), (2, .ref (K.2.2.1 12)), (3, .ref (K.2.2.1 17)), (4, .int (Int32.ofNat n))])
    (kk : ∀ (o' : Nat → Int64) (g' : Gh) (H' : Heap) (locs' : List Loc) (ls' : Array Slot), Gi K g' lt' → va_P K.1 vwCl (wd K C' M' o' g') H' → va_D (inA K) (wd K C' M' o' g') → va_S (inA K) s.heap H' locs' → lv_has ls' 7 [(0, .ref b), (1, .ref (K.2.2.1 0)), (2, .ref (K.2.2.1 12)), (3, .ref (K.2.2.1 17)), (4, .int (Int32.ofNat n))] → W p l e room_1 s m #[Value.ref b] below meth c H' locs' (cells + 620) (slots + 1240) Q (F0 m 1551 ls' [])) : W p l e room_1 s m #[Value.ref b] below meth c H locs cells slots Q (F0 m 1122 ls []) := by
  obtain ⟨S0, hN, hF, hT, hK, hX, hbl, hbA⟩ := A
  have S9 := S0
  obtain ⟨hx, hb, hml, hown, hts⟩ := S9
  rw [lc18] at h
  refine lv_aload_n hx hb dL_law_1122 rfl (lv_at hl 1 rfl) ?_
  obtain ⟨r, C1, q1, h⟩ := gn_bd2 h
  refine lc_V (rest := []) (rv := .int r) (C' := C1) (M' := M) (o' := o) (lt' := lt) S0 hN hF hK hP hD hS (c_X6_invert l z K M o g  C r C1 q1) (post_R hG) (cwV 0 hts gL_law_X6_invert rfl rfl rfl (by decide +kernel) ⟨(Nat.le_of_ble_eq_true rfl), (Nat.le_of_ble_eq_true rfl)⟩) (va_recv hK hP (ci := 5) (q0 := 0) rfl rfl) rfl hl.1 rfl (Nat.le_of_ble_eq_true rfl) dL_law_1123 ⟨Nat.le_trans (Nat.add_le_add_left (show rm_X6_invert.cells ≤ 620 from (Nat.le_of_ble_eq_true rfl)) _) hroom.1, Nat.le_trans (Nat.add_le_add_left (show rm_X6_invert.slots ≤ 1240 from (Nat.le_of_ble_eq_true rfl)) _) hroom.2⟩ (Nat.le_of_ble_eq_true rfl) (Nat.le_of_ble_eq_true rfl) (fun g H locs hG hP hD hS => ?_)
  refine W.eq (g2 := F0 m 1126 ls [.int r]) rfl ?_
  refine lv_aload_n hx hb dL_law_1126 rfl (lv_at hl 2 rfl) ?_
  obtain ⟨q, M1, eq, h⟩ := gn_bd2 h
  refine hc_V (rest := [.int r]) S0 hN hF hK hP hD hS (c_X7_invert l z K _ _ _  M q M1 eq) (cwV 0 hts gL_law_X7_invert rfl rfl rfl (by decide +kernel) ⟨(Nat.le_of_ble_eq_true rfl), (Nat.le_of_ble_eq_true rfl)⟩) (va_recv hK hP (ci := 6) (q0 := 12) rfl rfl) rfl hl.1 rfl (Nat.le_of_ble_eq_true rfl) dL_law_1127 hroom.1 hroom.2 (fun H locs hP hD hS => ?_)
  refine W.eq (g2 := F0 m 1130 ls [.int q, .int r]) rfl ?_
  refine lv_icmp_eq (tgt := 1551) hx hb dL_law_1130 (by decide) (fun c9 => ?_) (fun c9 => ?_)
  · have h := gn_t h c9
    obtain ⟨rfl, h8⟩ := Prod.mk.inj (gn_some h)
    obtain ⟨rfl, rfl⟩ := Prod.mk.inj h8
    exact kk _ _ _ _ _ hG hP hD hS hl
  · have h := gn_f h c9
    cases h
set_option maxRecDepth 100000 in
theorem lw_c19 (A : LC p s m meth c b L xs K) {n : Nat} (hn : n + 6 ≤ L) (hL : L ≤ 3072) {C : CS} {M : MS} {lt : Int64 × Int64} {o : Nat → Int64} {g : Gh} {H : Heap} {locs : List Loc} {cells slots : Nat} {C' : CS} {M' : MS} {lt' : Int64 × Int64} (hroom : cells + 620 ≤ 601024 ∧ slots + 1240 ≤ 7293034) (hG : Gi K g lt) (hP : va_P K.1 vwCl (wd K C M o g) H) (hD : va_D (inA K) (wd K C M o g)) (hS : va_S (inA K) s.heap H locs) (h : lc19 z (xs (n + 1)) (xs (n + 2)) (xs (n + 3)) (xs (n + 4)) (xs (n + 5)) C M lt = some (C', M', lt')) {ls : Array Slot} (hl : lv_has ls 7 [(0, .ref b), (1, .ref (K.2.2.1 0)), (2, .ref (K.2.2.1 12)), (3, .ref (K.2.2.1 17)), (4, .int (Int32.ofNat n))])
    (kk : ∀ (o' : Nat → Int64) (g' : Gh) (H' : Heap) (locs' : List Loc) (ls' : Array Slot), Gi K g' lt' → va_P K.1 vwCl (wd K C' M' o' g') H' → va_D (inA K) (wd K C' M' o' g') → va_S (inA K) s.heap H' locs' → lv_has ls' 7 [(0, .ref b), (1, .ref (K.2.2.1 0)), (2, .ref (K.2.2.1 12)), (3, .ref (K.2.2.1 17)), (4, .int (Int32.ofNat n))] → W p l e room_1 s m #[Value.ref b] below meth c H' locs' (cells + 620) (slots + 1240) Q (F0 m 1551 ls' [])) : W p l e room_1 s m #[Value.ref b] below meth c H locs cells slots Q (F0 m 1135 ls []) := by
  obtain ⟨S0, hN, hF, hT, hK, hX, hbl, hbA⟩ := A
  have S9 := S0
  obtain ⟨hx, hb, hml, hown, hts⟩ := S9
  rw [lc19] at h
  refine lv_aload_n hx hb dL_law_1135 rfl (lv_at hl 1 rfl) ?_
  refine lv_aload_n hx hb dL_law_1136 rfl (lv_at hl 0 rfl) ?_
  refine lv_iload hx hb dL_law_1137 (lv_at hl 4 rfl) ?_
  refine lv_iconst (v := (1 : Int32)) hx hb dL_law_1139 (by decide) ?_
  refine lv_iadd hx hb dL_law_1140 ?_
  refine sc_ld 1 hx hb hX hbl hbA hn hL hS rfl (by decide) dL_law_1141 ?_
  obtain ⟨r, C1, q1, h⟩ := gn_bd2 h
  refine lc_V (rest := []) (rv := .long r) (C' := C1) (M' := M) (o' := o) (lt' := lt) S0 hN hF hK hP hD hS (c_X6_phi l z K M o g _ C r C1 q1) (post_R hG) (cwV 1 hts gL_law_X6_phi rfl rfl rfl (by decide +kernel) ⟨(Nat.le_of_ble_eq_true rfl), (Nat.le_of_ble_eq_true rfl)⟩) (va_recv hK hP (ci := 5) (q0 := 0) rfl rfl) rfl hl.1 rfl (Nat.le_of_ble_eq_true rfl) dL_law_1142 ⟨Nat.le_trans (Nat.add_le_add_left (show rm_X6_phi.cells ≤ 620 from (Nat.le_of_ble_eq_true rfl)) _) hroom.1, Nat.le_trans (Nat.add_le_add_left (show rm_X6_phi.slots ≤ 1240 from (Nat.le_of_ble_eq_true rfl)) _) hroom.2⟩ (Nat.le_of_ble_eq_true rfl) (Nat.le_of_ble_eq_true rfl) (fun g H locs hG hP hD hS => ?_)
  refine W.eq (g2 := F0 m 1145 ls [.long r]) rfl ?_
  refine lv_aload_n hx hb dL_law_1145 rfl (lv_at hl 2 rfl) ?_
  refine lv_aload_n hx hb dL_law_1146 rfl (lv_at hl 0 rfl) ?_
  refine lv_iload hx hb dL_law_1147 (lv_at hl 4 rfl) ?_
  refine lv_iconst (v := (1 : Int32)) hx hb dL_law_1149 (by decide) ?_
  refine lv_iadd hx hb dL_law_1150 ?_
  refine sc_ld 1 hx hb hX hbl hbA hn hL hS rfl (by decide) dL_law_1151 ?_
  obtain ⟨q, M1, eq, h⟩ := gn_bd2 h
  refine hc_V (rest := [.long r]) S0 hN hF hK hP hD hS (c_X7_phi_ l z K _ _ _ _ M q M1 eq) (cwV 1 hts gL_law_X7_phi_ rfl rfl rfl (by decide +kernel) ⟨(Nat.le_of_ble_eq_true rfl), (Nat.le_of_ble_eq_true rfl)⟩) (va_recv hK hP (ci := 6) (q0 := 12) rfl rfl) rfl hl.1 rfl (Nat.le_of_ble_eq_true rfl) dL_law_1152 hroom.1 hroom.2 (fun H locs hP hD hS => ?_)
  refine W.eq (g2 := F0 m 1155 ls [.long q, .long r]) rfl ?_
  refine ll_eq (tgt := 1551) hx hb dL_law_1155 dL_law_1156 (by decide) (fun c9 => ?_) (fun c9 => ?_)
  · have h := gn_t h c9
    obtain ⟨rfl, h8⟩ := Prod.mk.inj (gn_some h)
    obtain ⟨rfl, rfl⟩ := Prod.mk.inj h8
    exact kk _ _ _ _ _ hG hP hD hS hl
  · have h := gn_f h c9
    cases h
set_option maxRecDepth 100000 in
theorem lw_c20 (A : LC p s m meth c b L xs K) {n : Nat} (hn : n + 6 ≤ L) (hL : L ≤ 3072) {C : CS} {M : MS} {lt : Int64 × Int64} {o : Nat → Int64} {g : Gh} {H : Heap} {locs : List Loc} {cells slots : Nat} {C' : CS} {M' : MS} {lt' : Int64 × Int64} (hroom : cells + 620 ≤ 601024 ∧ slots + 1240 ≤ 7293034) (hG : Gi K g lt) (hP : va_P K.1 vwCl (wd K C M o g) H) (hD : va_D (inA K) (wd K C M o g)) (hS : va_S (inA K) s.heap H locs) (h : lc20 z (xs (n + 1)) (xs (n + 2)) (xs (n + 3)) (xs (n + 4)) (xs (n + 5)) C M lt = some (C', M', lt')) {ls : Array Slot} (hl : lv_has ls 7 [(0, .ref b), (1, .ref (K.2.2.1 0)), (2, .ref (K.2.2.1 12)), (3, .ref (K.2.2.1 17)), (4, .int (Int32.ofNat n))])
    (kk : ∀ (o' : Nat → Int64) (g' : Gh) (H' : Heap) (locs' : List Loc) (ls' : Array Slot), Gi K g' lt' → va_P K.1 vwCl (wd K C' M' o' g') H' → va_D (inA K) (wd K C' M' o' g') → va_S (inA K) s.heap H' locs' → lv_has ls' 7 [(0, .ref b), (1, .ref (K.2.2.1 0)), (2, .ref (K.2.2.1 12)), (3, .ref (K.2.2.1 17)), (4, .int (Int32.ofNat n))] → W p l e room_1 s m #[Value.ref b] below meth c H' locs' (cells + 620) (slots + 1240) Q (F0 m 1551 ls' [])) : W p l e room_1 s m #[Value.ref b] below meth c H locs cells slots Q (F0 m 1161 ls []) := by
  obtain ⟨S0, hN, hF, hT, hK, hX, hbl, hbA⟩ := A
  have S9 := S0
  obtain ⟨hx, hb, hml, hown, hts⟩ := S9
  rw [lc20] at h
  refine lv_aload_n hx hb dL_law_1161 rfl (lv_at hl 1 rfl) ?_
  obtain ⟨r, C1, q1, h⟩ := gn_bd2 h
  refine lc_V (rest := []) (rv := .int r) (C' := C1) (M' := M) (o' := o) (lt' := lt) S0 hN hF hK hP hD hS (c_X6_kind l z K M o g  C r C1 q1) (post_R hG) (cwV 0 hts gL_law_X6_kind rfl rfl rfl (by decide +kernel) ⟨(Nat.le_of_ble_eq_true rfl), (Nat.le_of_ble_eq_true rfl)⟩) (va_recv hK hP (ci := 5) (q0 := 0) rfl rfl) rfl hl.1 rfl (Nat.le_of_ble_eq_true rfl) dL_law_1162 ⟨Nat.le_trans (Nat.add_le_add_left (show rm_X6_kind.cells ≤ 620 from (Nat.le_of_ble_eq_true rfl)) _) hroom.1, Nat.le_trans (Nat.add_le_add_left (show rm_X6_kind.slots ≤ 1240 from (Nat.le_of_ble_eq_true rfl)) _) hroom.2⟩ (Nat.le_of_ble_eq_true rfl) (Nat.le_of_ble_eq_true rfl) (fun g H locs hG hP hD hS => ?_)
  refine W.eq (g2 := F0 m 1165 ls [.int r]) rfl ?_
  refine lv_aload_n hx hb dL_law_1165 rfl (lv_at hl 2 rfl) ?_
  obtain ⟨q, M1, eq, h⟩ := gn_bd2 h
  refine hc_V (rest := [.int r]) S0 hN hF hK hP hD hS (c_X7_kind l z K _ _ _  M q M1 eq) (cwV 0 hts gL_law_X7_kind rfl rfl rfl (by decide +kernel) ⟨(Nat.le_of_ble_eq_true rfl), (Nat.le_of_ble_eq_true rfl)⟩) (va_recv hK hP (ci := 6) (q0 := 12) rfl rfl) rfl hl.1 rfl (Nat.le_of_ble_eq_true rfl) dL_law_1166 hroom.1 hroom.2 (fun H locs hP hD hS => ?_)
  refine W.eq (g2 := F0 m 1169 ls [.int q, .int r]) rfl ?_
  refine lv_icmp_eq (tgt := 1551) hx hb dL_law_1169 (by decide) (fun c9 => ?_) (fun c9 => ?_)
  · have h := gn_t h c9
    obtain ⟨rfl, h8⟩ := Prod.mk.inj (gn_some h)
    obtain ⟨rfl, rfl⟩ := Prod.mk.inj h8
    exact kk _ _ _ _ _ hG hP hD hS hl
  · have h := gn_f h c9
    cases h
set_option maxRecDepth 100000 in
theorem lw_c21 (A : LC p s m meth c b L xs K) {n : Nat} (hn : n + 6 ≤ L) (hL : L ≤ 3072) {C : CS} {M : MS} {lt : Int64 × Int64} {o : Nat → Int64} {g : Gh} {H : Heap} {locs : List Loc} {cells slots : Nat} {C' : CS} {M' : MS} {lt' : Int64 × Int64} (hroom : cells + 620 ≤ 601024 ∧ slots + 1240 ≤ 7293034) (hG : Gi K g lt) (hP : va_P K.1 vwCl (wd K C M o g) H) (hD : va_D (inA K) (wd K C M o g)) (hS : va_S (inA K) s.heap H locs) (h : lc21 z (xs (n + 1)) (xs (n + 2)) (xs (n + 3)) (xs (n + 4)) (xs (n + 5)) C M lt = some (C', M', lt')) {ls : Array Slot} (hl : lv_has ls 7 [(0, .ref b), (1, .ref (K.2.2.1 0)), (2, .ref (K.2.2.1 12)), (3, .ref (K.2.2.1 17)), (4, .int (Int32.ofNat n))])
    (kk : ∀ (o' : Nat → Int64) (g' : Gh) (H' : Heap) (locs' : List Loc) (ls' : Array Slot), Gi K g' lt' → va_P K.1 vwCl (wd K C' M' o' g') H' → va_D (inA K) (wd K C' M' o' g') → va_S (inA K) s.heap H' locs' → lv_has ls' 7 [(0, .ref b), (1, .ref (K.2.2.1 0)), (2, .ref (K.2.2.1 12)), (3, .ref (K.2.2.1 17)), (4, .int (Int32.ofNat n))] → W p l e room_1 s m #[Value.ref b] below meth c H' locs' (cells + 620) (slots + 1240) Q (F0 m 1551 ls' [])) : W p l e room_1 s m #[Value.ref b] below meth c H locs cells slots Q (F0 m 1174 ls []) := by
  obtain ⟨S0, hN, hF, hT, hK, hX, hbl, hbA⟩ := A
  have S9 := S0
  obtain ⟨hx, hb, hml, hown, hts⟩ := S9
  rw [lc21] at h
  refine lv_aload_n hx hb dL_law_1174 rfl (lv_at hl 1 rfl) ?_
  obtain ⟨r, C1, q1, h⟩ := gn_bd2 h
  refine lc_V (rest := []) (rv := .int r) (C' := C1) (M' := M) (o' := o) (lt' := lt) S0 hN hF hK hP hD hS (c_X6_order l z K M o g  C r C1 q1) (post_R hG) (cwV 0 hts gL_law_X6_order rfl rfl rfl (by decide +kernel) ⟨(Nat.le_of_ble_eq_true rfl), (Nat.le_of_ble_eq_true rfl)⟩) (va_recv hK hP (ci := 5) (q0 := 0) rfl rfl) rfl hl.1 rfl (Nat.le_of_ble_eq_true rfl) dL_law_1175 ⟨Nat.le_trans (Nat.add_le_add_left (show rm_X6_order.cells ≤ 620 from (Nat.le_of_ble_eq_true rfl)) _) hroom.1, Nat.le_trans (Nat.add_le_add_left (show rm_X6_order.slots ≤ 1240 from (Nat.le_of_ble_eq_true rfl)) _) hroom.2⟩ (Nat.le_of_ble_eq_true rfl) (Nat.le_of_ble_eq_true rfl) (fun g H locs hG hP hD hS => ?_)
  refine W.eq (g2 := F0 m 1178 ls [.int r]) rfl ?_
  refine lv_aload_n hx hb dL_law_1178 rfl (lv_at hl 2 rfl) ?_
  obtain ⟨q, M1, eq, h⟩ := gn_bd2 h
  refine hc_V (rest := [.int r]) S0 hN hF hK hP hD hS (c_X7_order l z K _ _ _  M q M1 eq) (cwV 0 hts gL_law_X7_order rfl rfl rfl (by decide +kernel) ⟨(Nat.le_of_ble_eq_true rfl), (Nat.le_of_ble_eq_true rfl)⟩) (va_recv hK hP (ci := 6) (q0 := 12) rfl rfl) rfl hl.1 rfl (Nat.le_of_ble_eq_true rfl) dL_law_1179 hroom.1 hroom.2 (fun H locs hP hD hS => ?_)
  refine W.eq (g2 := F0 m 1182 ls [.int q, .int r]) rfl ?_
  refine lv_icmp_eq (tgt := 1551) hx hb dL_law_1182 (by decide) (fun c9 => ?_) (fun c9 => ?_)
  · have h := gn_t h c9
    obtain ⟨rfl, h8⟩ := Prod.mk.inj (gn_some h)
    obtain ⟨rfl, rfl⟩ := Prod.mk.inj h8
    exact kk _ _ _ _ _ hG hP hD hS hl
  · have h := gn_f h c9
    cases h
set_option maxRecDepth 100000 in
theorem lw_c22 (A : LC p s m meth c b L xs K) {n : Nat} (hn : n + 6 ≤ L) (hL : L ≤ 3072) {C : CS} {M : MS} {lt : Int64 × Int64} {o : Nat → Int64} {g : Gh} {H : Heap} {locs : List Loc} {cells slots : Nat} {C' : CS} {M' : MS} {lt' : Int64 × Int64} (hroom : cells + 620 ≤ 601024 ∧ slots + 1240 ≤ 7293034) (hG : Gi K g lt) (hP : va_P K.1 vwCl (wd K C M o g) H) (hD : va_D (inA K) (wd K C M o g)) (hS : va_S (inA K) s.heap H locs) (h : lc22 z (xs (n + 1)) (xs (n + 2)) (xs (n + 3)) (xs (n + 4)) (xs (n + 5)) C M lt = some (C', M', lt')) {ls : Array Slot} (hl : lv_has ls 7 [(0, .ref b), (1, .ref (K.2.2.1 0)), (2, .ref (K.2.2.1 12)), (3, .ref (K.2.2.1 17)), (4, .int (Int32.ofNat n))])
    (kk : ∀ (o' : Nat → Int64) (g' : Gh) (H' : Heap) (locs' : List Loc) (ls' : Array Slot), Gi K g' lt' → va_P K.1 vwCl (wd K C' M' o' g') H' → va_D (inA K) (wd K C' M' o' g') → va_S (inA K) s.heap H' locs' → lv_has ls' 7 [(0, .ref b), (1, .ref (K.2.2.1 0)), (2, .ref (K.2.2.1 12)), (3, .ref (K.2.2.1 17)), (4, .int (Int32.ofNat n))] → W p l e room_1 s m #[Value.ref b] below meth c H' locs' (cells + 620) (slots + 1240) Q (F0 m 1551 ls' [])) : W p l e room_1 s m #[Value.ref b] below meth c H locs cells slots Q (F0 m 1187 ls []) := by
  obtain ⟨S0, hN, hF, hT, hK, hX, hbl, hbA⟩ := A
  have S9 := S0
  obtain ⟨hx, hb, hml, hown, hts⟩ := S9
  rw [lc22] at h
  refine lv_aload_n hx hb dL_law_1187 rfl (lv_at hl 1 rfl) ?_
  refine lv_aload_n hx hb dL_law_1188 rfl (lv_at hl 0 rfl) ?_
  refine lv_iload hx hb dL_law_1189 (lv_at hl 4 rfl) ?_
  refine lv_iconst (v := (1 : Int32)) hx hb dL_law_1191 (by decide) ?_
  refine lv_iadd hx hb dL_law_1192 ?_
  refine sc_ld 1 hx hb hX hbl hbA hn hL hS rfl (by decide) dL_law_1193 ?_
  obtain ⟨r, C1, q1, h⟩ := gn_bd2 h
  refine lc_V (rest := []) (rv := .long r) (C' := C1) (M' := M) (o' := o) (lt' := lt) S0 hN hF hK hP hD hS (c_X6_word l z K M o g _ C r C1 q1) (post_R hG) (cwV 1 hts gL_law_X6_word rfl rfl rfl (by decide +kernel) ⟨(Nat.le_of_ble_eq_true rfl), (Nat.le_of_ble_eq_true rfl)⟩) (va_recv hK hP (ci := 5) (q0 := 0) rfl rfl) rfl hl.1 rfl (Nat.le_of_ble_eq_true rfl) dL_law_1194 ⟨Nat.le_trans (Nat.add_le_add_left (show rm_X6_word.cells ≤ 620 from (Nat.le_of_ble_eq_true rfl)) _) hroom.1, Nat.le_trans (Nat.add_le_add_left (show rm_X6_word.slots ≤ 1240 from (Nat.le_of_ble_eq_true rfl)) _) hroom.2⟩ (Nat.le_of_ble_eq_true rfl) (Nat.le_of_ble_eq_true rfl) (fun g H locs hG hP hD hS => ?_)
  refine W.eq (g2 := F0 m 1197 ls [.long r]) rfl ?_
  refine lv_aload_n hx hb dL_law_1197 rfl (lv_at hl 2 rfl) ?_
  refine lv_aload_n hx hb dL_law_1198 rfl (lv_at hl 0 rfl) ?_
  refine lv_iload hx hb dL_law_1199 (lv_at hl 4 rfl) ?_
  refine lv_iconst (v := (1 : Int32)) hx hb dL_law_1201 (by decide) ?_
  refine lv_iadd hx hb dL_law_1202 ?_
  refine sc_ld 1 hx hb hX hbl hbA hn hL hS rfl (by decide) dL_law_1203 ?_
  obtain ⟨q, M1, eq, h⟩ := gn_bd2 h
  refine hc_V (rest := [.long r]) S0 hN hF hK hP hD hS (c_X7_word l z K _ _ _ _ M q M1 eq) (cwV 1 hts gL_law_X7_word rfl rfl rfl (by decide +kernel) ⟨(Nat.le_of_ble_eq_true rfl), (Nat.le_of_ble_eq_true rfl)⟩) (va_recv hK hP (ci := 6) (q0 := 12) rfl rfl) rfl hl.1 rfl (Nat.le_of_ble_eq_true rfl) dL_law_1204 hroom.1 hroom.2 (fun H locs hP hD hS => ?_)
  refine W.eq (g2 := F0 m 1207 ls [.long q, .long r]) rfl ?_
  refine ll_eq (tgt := 1551) hx hb dL_law_1207 dL_law_1208 (by decide) (fun c9 => ?_) (fun c9 => ?_)
  · have h := gn_t h c9
    obtain ⟨rfl, h8⟩ := Prod.mk.inj (gn_some h)
    obtain ⟨rfl, rfl⟩ := Prod.mk.inj h8
    exact kk _ _ _ _ _ hG hP hD hS hl
  · have h := gn_f h c9
    cases h
set_option maxRecDepth 100000 in
theorem lw_c23 (A : LC p s m meth c b L xs K) {n : Nat} (hn : n + 6 ≤ L) (hL : L ≤ 3072) {C : CS} {M : MS} {lt : Int64 × Int64} {o : Nat → Int64} {g : Gh} {H : Heap} {locs : List Loc} {cells slots : Nat} {C' : CS} {M' : MS} {lt' : Int64 × Int64} (hroom : cells + 620 ≤ 601024 ∧ slots + 1240 ≤ 7293034) (hG : Gi K g lt) (hP : va_P K.1 vwCl (wd K C M o g) H) (hD : va_D (inA K) (wd K C M o g)) (hS : va_S (inA K) s.heap H locs) (h : lc23 z (xs (n + 1)) (xs (n + 2)) (xs (n + 3)) (xs (n + 4)) (xs (n + 5)) C M lt = some (C', M', lt')) {ls : Array Slot} (hl : lv_has ls 7 [(0, .ref b), (1, .ref (K.2.2.1 0)), (2, .ref (K.2.2.1 12)), (3, .ref (K.2.2.1 17)), (4, .int (Int32.ofNat n))])
    (kk : ∀ (o' : Nat → Int64) (g' : Gh) (H' : Heap) (locs' : List Loc) (ls' : Array Slot), Gi K g' lt' → va_P K.1 vwCl (wd K C' M' o' g') H' → va_D (inA K) (wd K C' M' o' g') → va_S (inA K) s.heap H' locs' → lv_has ls' 7 [(0, .ref b), (1, .ref (K.2.2.1 0)), (2, .ref (K.2.2.1 12)), (3, .ref (K.2.2.1 17)), (4, .int (Int32.ofNat n))] → W p l e room_1 s m #[Value.ref b] below meth c H' locs' (cells + 620) (slots + 1240) Q (F0 m 1551 ls' [])) : W p l e room_1 s m #[Value.ref b] below meth c H locs cells slots Q (F0 m 1213 ls []) := by
  obtain ⟨S0, hN, hF, hT, hK, hX, hbl, hbA⟩ := A
  have S9 := S0
  obtain ⟨hx, hb, hml, hown, hts⟩ := S9
  rw [lc23] at h
  refine lv_aload_n hx hb dL_law_1213 rfl (lv_at hl 1 rfl) ?_
  refine lv_aload_n hx hb dL_law_1214 rfl (lv_at hl 0 rfl) ?_
  refine lv_iload hx hb dL_law_1215 (lv_at hl 4 rfl) ?_
  refine lv_iconst (v := (1 : Int32)) hx hb dL_law_1217 (by decide) ?_
  refine lv_iadd hx hb dL_law_1218 ?_
  refine sc_ld 1 hx hb hX hbl hbA hn hL hS rfl (by decide) dL_law_1219 ?_
  refine lv_aload_n hx hb dL_law_1220 rfl (lv_at hl 0 rfl) ?_
  refine lv_iload hx hb dL_law_1221 (lv_at hl 4 rfl) ?_
  refine lv_iconst (v := (2 : Int32)) hx hb dL_law_1223 (by decide) ?_
  refine lv_iadd hx hb dL_law_1224 ?_
  refine sc_ld 2 hx hb hX hbl hbA hn hL hS rfl (by decide) dL_law_1225 ?_
  refine lv_aload_n hx hb dL_law_1226 rfl (lv_at hl 0 rfl) ?_
  refine lv_iload hx hb dL_law_1227 (lv_at hl 4 rfl) ?_
  refine lv_iconst (v := (3 : Int32)) hx hb dL_law_1229 (by decide) ?_
  refine lv_iadd hx hb dL_law_1230 ?_
  refine sc_ld 3 hx hb hX hbl hbA hn hL hS rfl (by decide) dL_law_1231 ?_
  obtain ⟨r, C1, q1, h⟩ := gn_bd2 h
  refine lc_V (rest := []) (rv := .int r) (C' := C1) (M' := M) (o' := o) (lt' := lt) S0 hN hF hK hP hD hS (c_X6_same l z K M o g _ _ _ C r C1 q1) (post_R hG) (cwV 3 hts gL_law_X6_same rfl rfl rfl (by decide +kernel) ⟨(Nat.le_of_ble_eq_true rfl), (Nat.le_of_ble_eq_true rfl)⟩) (va_recv hK hP (ci := 5) (q0 := 0) rfl rfl) rfl hl.1 rfl (Nat.le_of_ble_eq_true rfl) dL_law_1232 ⟨Nat.le_trans (Nat.add_le_add_left (show rm_X6_same.cells ≤ 620 from (Nat.le_of_ble_eq_true rfl)) _) hroom.1, Nat.le_trans (Nat.add_le_add_left (show rm_X6_same.slots ≤ 1240 from (Nat.le_of_ble_eq_true rfl)) _) hroom.2⟩ (Nat.le_of_ble_eq_true rfl) (Nat.le_of_ble_eq_true rfl) (fun g H locs hG hP hD hS => ?_)
  refine W.eq (g2 := F0 m 1235 ls [.int r]) rfl ?_
  refine lv_aload_n hx hb dL_law_1235 rfl (lv_at hl 2 rfl) ?_
  refine lv_aload_n hx hb dL_law_1236 rfl (lv_at hl 0 rfl) ?_
  refine lv_iload hx hb dL_law_1237 (lv_at hl 4 rfl) ?_
  refine lv_iconst (v := (1 : Int32)) hx hb dL_law_1239 (by decide) ?_
  refine lv_iadd hx hb dL_law_1240 ?_
  refine sc_ld 1 hx hb hX hbl hbA hn hL hS rfl (by decide) dL_law_1241 ?_
  refine lv_aload_n hx hb dL_law_1242 rfl (lv_at hl 0 rfl) ?_
  refine lv_iload hx hb dL_law_1243 (lv_at hl 4 rfl) ?_
  refine lv_iconst (v := (2 : Int32)) hx hb dL_law_1245 (by decide) ?_
  refine lv_iadd hx hb dL_law_1246 ?_
  refine sc_ld 2 hx hb hX hbl hbA hn hL hS rfl (by decide) dL_law_1247 ?_
  refine lv_aload_n hx hb dL_law_1248 rfl (lv_at hl 0 rfl) ?_
  refine lv_iload hx hb dL_law_1249 (lv_at hl 4 rfl) ?_
  refine lv_iconst (v := (3 : Int32)) hx hb dL_law_1251 (by decide) ?_
  refine lv_iadd hx hb dL_law_1252 ?_
  refine sc_ld 3 hx hb hX hbl hbA hn hL hS rfl (by decide) dL_law_1253 ?_
  obtain ⟨q, M1, eq, h⟩ := gn_bd2 h
  refine hc_V (rest := [.int r]) S0 hN hF hK hP hD hS (c_X7_same l z K _ _ _ _ _ _ M q M1 eq) (cwV 3 hts gL_law_X7_same rfl rfl rfl (by decide +kernel) ⟨(Nat.le_of_ble_eq_true rfl), (Nat.le_of_ble_eq_true rfl)⟩) (va_recv hK hP (ci := 6) (q0 := 12) rfl rfl) rfl hl.1 rfl (Nat.le_of_ble_eq_true rfl) dL_law_1254 hroom.1 hroom.2 (fun H locs hP hD hS => ?_)
  refine W.eq (g2 := F0 m 1257 ls [.int q, .int r]) rfl ?_
  refine lv_icmp_eq (tgt := 1551) hx hb dL_law_1257 (by decide) (fun c9 => ?_) (fun c9 => ?_)
  · have h := gn_t h c9
    obtain ⟨rfl, h8⟩ := Prod.mk.inj (gn_some h)
    obtain ⟨rfl, rfl⟩ := Prod.mk.inj h8
    exact kk _ _ _ _ _ hG hP hD hS hl
  · have h := gn_f h c9
    cases h
set_option maxRecDepth 100000 in
theorem lw_c24 (A : LC p s m meth c b L xs K) {n : Nat} (hn : n + 6 ≤ L) (hL : L ≤ 3072) {C : CS} {M : MS} {lt : Int64 × Int64} {o : Nat → Int64} {g : Gh} {H : Heap} {locs : List Loc} {cells slots : Nat} {C' : CS} {M' : MS} {lt' : Int64 × Int64} (hroom : cells + 620 ≤ 601024 ∧ slots + 1240 ≤ 7293034) (hG : Gi K g lt) (hP : va_P K.1 vwCl (wd K C M o g) H) (hD : va_D (inA K) (wd K C M o g)) (hS : va_S (inA K) s.heap H locs) (h : lc24 z (xs (n + 1)) (xs (n + 2)) (xs (n + 3)) (xs (n + 4)) (xs (n + 5)) C M lt = some (C', M', lt')) {ls : Array Slot} (hl : lv_has ls 7 [(0, .ref b), (1, .ref (K.2.2.1 0)), (2, .ref (K.2.2.1 12)), (3, .ref (K.2.2.1 17)), (4, .int (Int32.ofNat n))])
    (kk : ∀ (o' : Nat → Int64) (g' : Gh) (H' : Heap) (locs' : List Loc) (ls' : Array Slot), Gi K g' lt' → va_P K.1 vwCl (wd K C' M' o' g') H' → va_D (inA K) (wd K C' M' o' g') → va_S (inA K) s.heap H' locs' → lv_has ls' 7 [(0, .ref b), (1, .ref (K.2.2.1 0)), (2, .ref (K.2.2.1 12)), (3, .ref (K.2.2.1 17)), (4, .int (Int32.ofNat n))] → W p l e room_1 s m #[Value.ref b] below meth c H' locs' (cells + 620) (slots + 1240) Q (F0 m 1551 ls' [])) : W p l e room_1 s m #[Value.ref b] below meth c H locs cells slots Q (F0 m 1262 ls []) := by
  obtain ⟨S0, hN, hF, hT, hK, hX, hbl, hbA⟩ := A
  have S9 := S0
  obtain ⟨hx, hb, hml, hown, hts⟩ := S9
  rw [lc24] at h
  refine lv_aload_n hx hb dL_law_1262 rfl (lv_at hl 1 rfl) ?_
  refine lv_aload_n hx hb dL_law_1263 rfl (lv_at hl 0 rfl) ?_
  refine lv_iload hx hb dL_law_1264 (lv_at hl 4 rfl) ?_
  refine lv_iconst (v := (1 : Int32)) hx hb dL_law_1266 (by decide) ?_
  refine lv_iadd hx hb dL_law_1267 ?_
  refine sc_ld 1 hx hb hX hbl hbA hn hL hS rfl (by decide) dL_law_1268 ?_
  refine lv_aload_n hx hb dL_law_1269 rfl (lv_at hl 0 rfl) ?_
  refine lv_iload hx hb dL_law_1270 (lv_at hl 4 rfl) ?_
  refine lv_iconst (v := (2 : Int32)) hx hb dL_law_1272 (by decide) ?_
  refine lv_iadd hx hb dL_law_1273 ?_
  refine sc_ld 2 hx hb hX hbl hbA hn hL hS rfl (by decide) dL_law_1274 ?_
  obtain ⟨r, C1, q1, h⟩ := gn_bd2 h
  refine lc_V (rest := []) (rv := .int r) (C' := C1) (M' := M) (o' := o) (lt' := lt) S0 hN hF hK hP hD hS (c_X6_ring l z K M o g _ _ C r C1 q1) (post_R hG) (cwV 2 hts gL_law_X6_ring rfl rfl rfl (by decide +kernel) ⟨(Nat.le_of_ble_eq_true rfl), (Nat.le_of_ble_eq_true rfl)⟩) (va_recv hK hP (ci := 5) (q0 := 0) rfl rfl) rfl hl.1 rfl (Nat.le_of_ble_eq_true rfl) dL_law_1275 ⟨Nat.le_trans (Nat.add_le_add_left (show rm_X6_ring.cells ≤ 620 from (Nat.le_of_ble_eq_true rfl)) _) hroom.1, Nat.le_trans (Nat.add_le_add_left (show rm_X6_ring.slots ≤ 1240 from (Nat.le_of_ble_eq_true rfl)) _) hroom.2⟩ (Nat.le_of_ble_eq_true rfl) (Nat.le_of_ble_eq_true rfl) (fun g H locs hG hP hD hS => ?_)
  refine W.eq (g2 := F0 m 1278 ls [.int r]) rfl ?_
  refine lv_aload_n hx hb dL_law_1278 rfl (lv_at hl 2 rfl) ?_
  refine lv_aload_n hx hb dL_law_1279 rfl (lv_at hl 0 rfl) ?_
  refine lv_iload hx hb dL_law_1280 (lv_at hl 4 rfl) ?_
  refine lv_iconst (v := (1 : Int32)) hx hb dL_law_1282 (by decide) ?_
  refine lv_iadd hx hb dL_law_1283 ?_
  refine sc_ld 1 hx hb hX hbl hbA hn hL hS rfl (by decide) dL_law_1284 ?_
  refine lv_aload_n hx hb dL_law_1285 rfl (lv_at hl 0 rfl) ?_
  refine lv_iload hx hb dL_law_1286 (lv_at hl 4 rfl) ?_
  refine lv_iconst (v := (2 : Int32)) hx hb dL_law_1288 (by decide) ?_
  refine lv_iadd hx hb dL_law_1289 ?_
  refine sc_ld 2 hx hb hX hbl hbA hn hL hS rfl (by decide) dL_law_1290 ?_
  obtain ⟨q, M1, eq, h⟩ := gn_bd2 h
  refine hc_V (rest := [.int r]) S0 hN hF hK hP hD hS (c_X7_ring l z K _ _ _ _ _ M q M1 eq) (cwV 2 hts gL_law_X7_ring rfl rfl rfl (by decide +kernel) ⟨(Nat.le_of_ble_eq_true rfl), (Nat.le_of_ble_eq_true rfl)⟩) (va_recv hK hP (ci := 6) (q0 := 12) rfl rfl) rfl hl.1 rfl (Nat.le_of_ble_eq_true rfl) dL_law_1291 hroom.1 hroom.2 (fun H locs hP hD hS => ?_)
  refine W.eq (g2 := F0 m 1294 ls [.int q, .int r]) rfl ?_
  refine lv_icmp_eq (tgt := 1551) hx hb dL_law_1294 (by decide) (fun c9 => ?_) (fun c9 => ?_)
  · have h := gn_t h c9
    obtain ⟨rfl, h8⟩ := Prod.mk.inj (gn_some h)
    obtain ⟨rfl, rfl⟩ := Prod.mk.inj h8
    exact kk _ _ _ _ _ hG hP hD hS hl
  · have h := gn_f h c9
    cases h
set_option maxRecDepth 100000 in
theorem lw_c25 (A : LC p s m meth c b L xs K) {n : Nat} (hn : n + 6 ≤ L) (hL : L ≤ 3072) {C : CS} {M : MS} {lt : Int64 × Int64} {o : Nat → Int64} {g : Gh} {H : Heap} {locs : List Loc} {cells slots : Nat} {C' : CS} {M' : MS} {lt' : Int64 × Int64} (hroom : cells + 620 ≤ 601024 ∧ slots + 1240 ≤ 7293034) (hG : Gi K g lt) (hP : va_P K.1 vwCl (wd K C M o g) H) (hD : va_D (inA K) (wd K C M o g)) (hS : va_S (inA K) s.heap H locs) (h : lc25 z (xs (n + 1)) (xs (n + 2)) (xs (n + 3)) (xs (n + 4)) (xs (n + 5)) C M lt = some (C', M', lt')) {ls : Array Slot} (hl : lv_has ls 7 [(0, .ref b), (1, .ref (K.2.2.1 0)), (2, .ref (K.2.2.1 12)), (3, .ref (K.2.2.1 17)), (4, .int (Int32.ofNat n))])
    (kk : ∀ (o' : Nat → Int64) (g' : Gh) (H' : Heap) (locs' : List Loc) (ls' : Array Slot), Gi K g' lt' → va_P K.1 vwCl (wd K C' M' o' g') H' → va_D (inA K) (wd K C' M' o' g') → va_S (inA K) s.heap H' locs' → lv_has ls' 7 [(0, .ref b), (1, .ref (K.2.2.1 0)), (2, .ref (K.2.2.1 12)), (3, .ref (K.2.2.1 17)), (4, .int (Int32.ofNat n))] → W p l e room_1 s m #[Value.ref b] below meth c H' locs' (cells + 620) (slots + 1240) Q (F0 m 1551 ls' [])) : W p l e room_1 s m #[Value.ref b] below meth c H locs cells slots Q (F0 m 1299 ls []) := by
  obtain ⟨S0, hN, hF, hT, hK, hX, hbl, hbA⟩ := A
  have S9 := S0
  obtain ⟨hx, hb, hml, hown, hts⟩ := S9
  rw [lc25] at h
  refine lv_aload_n hx hb dL_law_1299 rfl (lv_at hl 1 rfl) ?_
  refine lv_aload_n hx hb dL_law_1300 rfl (lv_at hl 0 rfl) ?_
  refine lv_iload hx hb dL_law_1301 (lv_at hl 4 rfl) ?_
  refine lv_iconst (v := (1 : Int32)) hx hb dL_law_1303 (by decide) ?_
  refine lv_iadd hx hb dL_law_1304 ?_
  refine sc_ld 1 hx hb hX hbl hbA hn hL hS rfl (by decide) dL_law_1305 ?_
  refine lv_aload_n hx hb dL_law_1306 rfl (lv_at hl 0 rfl) ?_
  refine lv_iload hx hb dL_law_1307 (lv_at hl 4 rfl) ?_
  refine lv_iconst (v := (2 : Int32)) hx hb dL_law_1309 (by decide) ?_
  refine lv_iadd hx hb dL_law_1310 ?_
  refine sc_ld 2 hx hb hX hbl hbA hn hL hS rfl (by decide) dL_law_1311 ?_
  obtain ⟨r, C1, q1, h⟩ := gn_bd2 h
  refine lc_V (rest := []) (rv := .int r) (C' := C1) (M' := M) (o' := o) (lt' := lt) S0 hN hF hK hP hD hS (c_X6_rings l z K M o g _ _ C r C1 q1) (post_R hG) (cwV 2 hts gL_law_X6_rings rfl rfl rfl (by decide +kernel) ⟨(Nat.le_of_ble_eq_true rfl), (Nat.le_of_ble_eq_true rfl)⟩) (va_recv hK hP (ci := 5) (q0 := 0) rfl rfl) rfl hl.1 rfl (Nat.le_of_ble_eq_true rfl) dL_law_1312 ⟨Nat.le_trans (Nat.add_le_add_left (show rm_X6_rings.cells ≤ 620 from (Nat.le_of_ble_eq_true rfl)) _) hroom.1, Nat.le_trans (Nat.add_le_add_left (show rm_X6_rings.slots ≤ 1240 from (Nat.le_of_ble_eq_true rfl)) _) hroom.2⟩ (Nat.le_of_ble_eq_true rfl) (Nat.le_of_ble_eq_true rfl) (fun g H locs hG hP hD hS => ?_)
  refine W.eq (g2 := F0 m 1315 ls [.int r]) rfl ?_
  refine lv_aload_n hx hb dL_law_1315 rfl (lv_at hl 2 rfl) ?_
  refine lv_aload_n hx hb dL_law_1316 rfl (lv_at hl 0 rfl) ?_
  refine lv_iload hx hb dL_law_1317 (lv_at hl 4 rfl) ?_
  refine lv_iconst (v := (1 : Int32)) hx hb dL_law_1319 (by decide) ?_
  refine lv_iadd hx hb dL_law_1320 ?_
  refine sc_ld 1 hx hb hX hbl hbA hn hL hS rfl (by decide) dL_law_1321 ?_
  refine lv_aload_n hx hb dL_law_1322 rfl (lv_at hl 0 rfl) ?_
  refine lv_iload hx hb dL_law_1323 (lv_at hl 4 rfl) ?_
  refine lv_iconst (v := (2 : Int32)) hx hb dL_law_1325 (by decide) ?_
  refine lv_iadd hx hb dL_law_1326 ?_
  refine sc_ld 2 hx hb hX hbl hbA hn hL hS rfl (by decide) dL_law_1327 ?_
  obtain ⟨q, M1, eq, h⟩ := gn_bd2 h
  refine hc_V (rest := [.int r]) S0 hN hF hK hP hD hS (c_X7_rings l z K _ _ _ _ _ M q M1 eq) (cwV 2 hts gL_law_X7_rings rfl rfl rfl (by decide +kernel) ⟨(Nat.le_of_ble_eq_true rfl), (Nat.le_of_ble_eq_true rfl)⟩) (va_recv hK hP (ci := 6) (q0 := 12) rfl rfl) rfl hl.1 rfl (Nat.le_of_ble_eq_true rfl) dL_law_1328 hroom.1 hroom.2 (fun H locs hP hD hS => ?_)
  refine W.eq (g2 := F0 m 1331 ls [.int q, .int r]) rfl ?_
  refine lv_icmp_eq (tgt := 1551) hx hb dL_law_1331 (by decide) (fun c9 => ?_) (fun c9 => ?_)
  · have h := gn_t h c9
    obtain ⟨rfl, h8⟩ := Prod.mk.inj (gn_some h)
    obtain ⟨rfl, rfl⟩ := Prod.mk.inj h8
    exact kk _ _ _ _ _ hG hP hD hS hl
  · have h := gn_f h c9
    cases h
set_option maxRecDepth 100000 in
theorem lw_c26 (A : LC p s m meth c b L xs K) {n : Nat} (hn : n + 6 ≤ L) (hL : L ≤ 3072) {C : CS} {M : MS} {lt : Int64 × Int64} {o : Nat → Int64} {g : Gh} {H : Heap} {locs : List Loc} {cells slots : Nat} {C' : CS} {M' : MS} {lt' : Int64 × Int64} (hroom : cells + 620 ≤ 601024 ∧ slots + 1240 ≤ 7293034) (hG : Gi K g lt) (hP : va_P K.1 vwCl (wd K C M o g) H) (hD : va_D (inA K) (wd K C M o g)) (hS : va_S (inA K) s.heap H locs) (h : lc26 z (xs (n + 1)) (xs (n + 2)) (xs (n + 3)) (xs (n + 4)) (xs (n + 5)) C M lt = some (C', M', lt')) {ls : Array Slot} (hl : lv_has ls 7 [(0, .ref b), (1, .ref (K.2.2.1 0)), (2, .ref (K.2.2.1 12)), (3, .ref (K.2.2.1 17)), (4, .int (Int32.ofNat n))])
    (kk : ∀ (o' : Nat → Int64) (g' : Gh) (H' : Heap) (locs' : List Loc) (ls' : Array Slot), Gi K g' lt' → va_P K.1 vwCl (wd K C' M' o' g') H' → va_D (inA K) (wd K C' M' o' g') → va_S (inA K) s.heap H' locs' → lv_has ls' 7 [(0, .ref b), (1, .ref (K.2.2.1 0)), (2, .ref (K.2.2.1 12)), (3, .ref (K.2.2.1 17)), (4, .int (Int32.ofNat n))] → W p l e room_1 s m #[Value.ref b] below meth c H' locs' (cells + 620) (slots + 1240) Q (F0 m 1551 ls' [])) : W p l e room_1 s m #[Value.ref b] below meth c H locs cells slots Q (F0 m 1336 ls []) := by
  obtain ⟨S0, hN, hF, hT, hK, hX, hbl, hbA⟩ := A
  have S9 := S0
  obtain ⟨hx, hb, hml, hown, hts⟩ := S9
  rw [lc26] at h
  refine lv_aload_n hx hb dL_law_1336 rfl (lv_at hl 1 rfl) ?_
  refine lv_aload_n hx hb dL_law_1337 rfl (lv_at hl 0 rfl) ?_
  refine lv_iload hx hb dL_law_1338 (lv_at hl 4 rfl) ?_
  refine lv_iconst (v := (1 : Int32)) hx hb dL_law_1340 (by decide) ?_
  refine lv_iadd hx hb dL_law_1341 ?_
  refine sc_ld 1 hx hb hX hbl hbA hn hL hS rfl (by decide) dL_law_1342 ?_
  refine lv_aload_n hx hb dL_law_1343 rfl (lv_at hl 0 rfl) ?_
  refine lv_iload hx hb dL_law_1344 (lv_at hl 4 rfl) ?_
  refine lv_iconst (v := (2 : Int32)) hx hb dL_law_1346 (by decide) ?_
  refine lv_iadd hx hb dL_law_1347 ?_
  refine sc_ld 2 hx hb hX hbl hbA hn hL hS rfl (by decide) dL_law_1348 ?_
  obtain ⟨r, C1, q1, h⟩ := gn_bd2 h
  refine lc_V (rest := []) (rv := .int r) (C' := C1) (M' := M) (o' := o) (lt' := lt) S0 hN hF hK hP hD hS (c_X6_twins l z K M o g _ _ C r C1 q1) (post_R hG) (cwV 2 hts gL_law_X6_twins rfl rfl rfl (by decide +kernel) ⟨(Nat.le_of_ble_eq_true rfl), (Nat.le_of_ble_eq_true rfl)⟩) (va_recv hK hP (ci := 5) (q0 := 0) rfl rfl) rfl hl.1 rfl (Nat.le_of_ble_eq_true rfl) dL_law_1349 ⟨Nat.le_trans (Nat.add_le_add_left (show rm_X6_twins.cells ≤ 620 from (Nat.le_of_ble_eq_true rfl)) _) hroom.1, Nat.le_trans (Nat.add_le_add_left (show rm_X6_twins.slots ≤ 1240 from (Nat.le_of_ble_eq_true rfl)) _) hroom.2⟩ (Nat.le_of_ble_eq_true rfl) (Nat.le_of_ble_eq_true rfl) (fun g H locs hG hP hD hS => ?_)
  refine W.eq (g2 := F0 m 1352 ls [.int r]) rfl ?_
  refine lv_aload_n hx hb dL_law_1352 rfl (lv_at hl 2 rfl) ?_
  refine lv_aload_n hx hb dL_law_1353 rfl (lv_at hl 0 rfl) ?_
  refine lv_iload hx hb dL_law_1354 (lv_at hl 4 rfl) ?_
  refine lv_iconst (v := (1 : Int32)) hx hb dL_law_1356 (by decide) ?_
  refine lv_iadd hx hb dL_law_1357 ?_
  refine sc_ld 1 hx hb hX hbl hbA hn hL hS rfl (by decide) dL_law_1358 ?_
  refine lv_aload_n hx hb dL_law_1359 rfl (lv_at hl 0 rfl) ?_
  refine lv_iload hx hb dL_law_1360 (lv_at hl 4 rfl) ?_
  refine lv_iconst (v := (2 : Int32)) hx hb dL_law_1362 (by decide) ?_
  refine lv_iadd hx hb dL_law_1363 ?_
  refine sc_ld 2 hx hb hX hbl hbA hn hL hS rfl (by decide) dL_law_1364 ?_
  obtain ⟨q, M1, eq, h⟩ := gn_bd2 h
  refine hc_V (rest := [.int r]) S0 hN hF hK hP hD hS (c_X7_twins l z K _ _ _ _ _ M q M1 eq) (cwV 2 hts gL_law_X7_twins rfl rfl rfl (by decide +kernel) ⟨(Nat.le_of_ble_eq_true rfl), (Nat.le_of_ble_eq_true rfl)⟩) (va_recv hK hP (ci := 6) (q0 := 12) rfl rfl) rfl hl.1 rfl (Nat.le_of_ble_eq_true rfl) dL_law_1365 hroom.1 hroom.2 (fun H locs hP hD hS => ?_)
  refine W.eq (g2 := F0 m 1368 ls [.int q, .int r]) rfl ?_
  refine lv_icmp_eq (tgt := 1551) hx hb dL_law_1368 (by decide) (fun c9 => ?_) (fun c9 => ?_)
  · have h := gn_t h c9
    obtain ⟨rfl, h8⟩ := Prod.mk.inj (gn_some h)
    obtain ⟨rfl, rfl⟩ := Prod.mk.inj h8
    exact kk _ _ _ _ _ hG hP hD hS hl
  · have h := gn_f h c9
    cases h
set_option maxRecDepth 100000 in
theorem lw_c27 (A : LC p s m meth c b L xs K) {n : Nat} (hn : n + 6 ≤ L) (hL : L ≤ 3072) {C : CS} {M : MS} {lt : Int64 × Int64} {o : Nat → Int64} {g : Gh} {H : Heap} {locs : List Loc} {cells slots : Nat} {C' : CS} {M' : MS} {lt' : Int64 × Int64} (hroom : cells + 620 ≤ 601024 ∧ slots + 1240 ≤ 7293034) (hG : Gi K g lt) (hP : va_P K.1 vwCl (wd K C M o g) H) (hD : va_D (inA K) (wd K C M o g)) (hS : va_S (inA K) s.heap H locs) (h : lc27 z (xs (n + 1)) (xs (n + 2)) (xs (n + 3)) (xs (n + 4)) (xs (n + 5)) C M lt = some (C', M', lt')) {ls : Array Slot} (hl : lv_has ls 7 [(0, .ref b), (1, .ref (K.2.2.1 0)), (2, .ref (K.2.2.1 12)), (3, .ref (K.2.2.1 17)), (4, .int (Int32.ofNat n))])
    (kk : ∀ (o' : Nat → Int64) (g' : Gh) (H' : Heap) (locs' : List Loc) (ls' : Array Slot), Gi K g' lt' → va_P K.1 vwCl (wd K C' M' o' g') H' → va_D (inA K) (wd K C' M' o' g') → va_S (inA K) s.heap H' locs' → lv_has ls' 7 [(0, .ref b), (1, .ref (K.2.2.1 0)), (2, .ref (K.2.2.1 12)), (3, .ref (K.2.2.1 17)), (4, .int (Int32.ofNat n))] → W p l e room_1 s m #[Value.ref b] below meth c H' locs' (cells + 620) (slots + 1240) Q (F0 m 1551 ls' [])) : W p l e room_1 s m #[Value.ref b] below meth c H locs cells slots Q (F0 m 1373 ls []) := by
  obtain ⟨S0, hN, hF, hT, hK, hX, hbl, hbA⟩ := A
  have S9 := S0
  obtain ⟨hx, hb, hml, hown, hts⟩ := S9
  rw [lc27] at h
  refine lv_aload_n hx hb dL_law_1373 rfl (lv_at hl 1 rfl) ?_
  refine lv_aload_n hx hb dL_law_1374 rfl (lv_at hl 0 rfl) ?_
  refine lv_iload hx hb dL_law_1375 (lv_at hl 4 rfl) ?_
  refine lv_iconst (v := (1 : Int32)) hx hb dL_law_1377 (by decide) ?_
  refine lv_iadd hx hb dL_law_1378 ?_
  refine sc_ld 1 hx hb hX hbl hbA hn hL hS rfl (by decide) dL_law_1379 ?_
  refine lv_aload_n hx hb dL_law_1380 rfl (lv_at hl 0 rfl) ?_
  refine lv_iload hx hb dL_law_1381 (lv_at hl 4 rfl) ?_
  refine lv_iconst (v := (2 : Int32)) hx hb dL_law_1383 (by decide) ?_
  refine lv_iadd hx hb dL_law_1384 ?_
  refine sc_ld 2 hx hb hX hbl hbA hn hL hS rfl (by decide) dL_law_1385 ?_
  refine lv_aload_n hx hb dL_law_1386 rfl (lv_at hl 0 rfl) ?_
  refine lv_iload hx hb dL_law_1387 (lv_at hl 4 rfl) ?_
  refine lv_iconst (v := (3 : Int32)) hx hb dL_law_1389 (by decide) ?_
  refine lv_iadd hx hb dL_law_1390 ?_
  refine sc_ld 3 hx hb hX hbl hbA hn hL hS rfl (by decide) dL_law_1391 ?_
  refine lv_aload_n hx hb dL_law_1392 rfl (lv_at hl 0 rfl) ?_
  refine lv_iload hx hb dL_law_1393 (lv_at hl 4 rfl) ?_
  refine lv_iconst (v := (4 : Int32)) hx hb dL_law_1395 (by decide) ?_
  refine lv_iadd hx hb dL_law_1396 ?_
  refine sc_ld 4 hx hb hX hbl hbA hn hL hS rfl (by decide) dL_law_1397 ?_
  refine lv_aload_n hx hb dL_law_1398 rfl (lv_at hl 0 rfl) ?_
  refine lv_iload hx hb dL_law_1399 (lv_at hl 4 rfl) ?_
  refine lv_iconst (v := (5 : Int32)) hx hb dL_law_1401 (by decide) ?_
  refine lv_iadd hx hb dL_law_1402 ?_
  refine sc_ld 5 hx hb hX hbl hbA hn hL hS rfl (by decide) dL_law_1403 ?_
  obtain ⟨r, C1, q1, h⟩ := gn_bd2 h
  refine lc_V (rest := []) (rv := .int r) (C' := C1) (M' := M) (o' := o) (lt' := lt) S0 hN hF hK hP hD hS (c_X6_feed l z K M o g _ _ _ _ _ C r C1 q1) (post_R hG) (cwV 5 hts gL_law_X6_feed rfl rfl rfl (by decide +kernel) ⟨(Nat.le_of_ble_eq_true rfl), (Nat.le_of_ble_eq_true rfl)⟩) (va_recv hK hP (ci := 5) (q0 := 0) rfl rfl) rfl hl.1 rfl (Nat.le_of_ble_eq_true rfl) dL_law_1404 ⟨Nat.le_trans (Nat.add_le_add_left (show rm_X6_feed.cells ≤ 620 from (Nat.le_of_ble_eq_true rfl)) _) hroom.1, Nat.le_trans (Nat.add_le_add_left (show rm_X6_feed.slots ≤ 1240 from (Nat.le_of_ble_eq_true rfl)) _) hroom.2⟩ (Nat.le_of_ble_eq_true rfl) (Nat.le_of_ble_eq_true rfl) (fun g H locs hG hP hD hS => ?_)
  refine W.eq (g2 := F0 m 1407 ls [.int r]) rfl ?_
  refine lv_aload_n hx hb dL_law_1407 rfl (lv_at hl 2 rfl) ?_
  refine lv_aload_n hx hb dL_law_1408 rfl (lv_at hl 0 rfl) ?_
  refine lv_iload hx hb dL_law_1409 (lv_at hl 4 rfl) ?_
  refine lv_iconst (v := (1 : Int32)) hx hb dL_law_1411 (by decide) ?_
  refine lv_iadd hx hb dL_law_1412 ?_
  refine sc_ld 1 hx hb hX hbl hbA hn hL hS rfl (by decide) dL_law_1413 ?_
  refine lv_aload_n hx hb dL_law_1414 rfl (lv_at hl 0 rfl) ?_
  refine lv_iload hx hb dL_law_1415 (lv_at hl 4 rfl) ?_
  refine lv_iconst (v := (2 : Int32)) hx hb dL_law_1417 (by decide) ?_
  refine lv_iadd hx hb dL_law_1418 ?_
  refine sc_ld 2 hx hb hX hbl hbA hn hL hS rfl (by decide) dL_law_1419 ?_
  refine lv_aload_n hx hb dL_law_1420 rfl (lv_at hl 0 rfl) ?_
  refine lv_iload hx hb dL_law_1421 (lv_at hl 4 rfl) ?_
  refine lv_iconst (v := (3 : Int32)) hx hb dL_law_1423 (by decide) ?_
  refine lv_iadd hx hb dL_law_1424 ?_
  refine sc_ld 3 hx hb hX hbl hbA hn hL hS rfl (by decide) dL_law_1425 ?_
  refine lv_aload_n hx hb dL_law_1426 rfl (lv_at hl 0 rfl) ?_
  refine lv_iload hx hb dL_law_1427 (lv_at hl 4 rfl) ?_
  refine lv_iconst (v := (4 : Int32)) hx hb dL_law_1429 (by decide) ?_
  refine lv_iadd hx hb dL_law_1430 ?_
  refine sc_ld 4 hx hb hX hbl hbA hn hL hS rfl (by decide) dL_law_1431 ?_
  refine lv_aload_n hx hb dL_law_1432 rfl (lv_at hl 0 rfl) ?_
  refine lv_iload hx hb dL_law_1433 (lv_at hl 4 rfl) ?_
  refine lv_iconst (v := (5 : Int32)) hx hb dL_law_1435 (by decide) ?_
  refine lv_iadd hx hb dL_law_1436 ?_
  refine sc_ld 5 hx hb hX hbl hbA hn hL hS rfl (by decide) dL_law_1437 ?_
  obtain ⟨q, M1, eq, h⟩ := gn_bd2 h
  refine hc_V (rest := [.int r]) S0 hN hF hK hP hD hS (c_X7_feed l z K _ _ _ _ _ _ _ _ M q M1 eq) (cwV 5 hts gL_law_X7_feed rfl rfl rfl (by decide +kernel) ⟨(Nat.le_of_ble_eq_true rfl), (Nat.le_of_ble_eq_true rfl)⟩) (va_recv hK hP (ci := 6) (q0 := 12) rfl rfl) rfl hl.1 rfl (Nat.le_of_ble_eq_true rfl) dL_law_1438 hroom.1 hroom.2 (fun H locs hP hD hS => ?_)
  refine W.eq (g2 := F0 m 1441 ls [.int q, .int r]) rfl ?_
  refine lv_icmp_eq (tgt := 1551) hx hb dL_law_1441 (by decide) (fun c9 => ?_) (fun c9 => ?_)
  · have h := gn_t h c9
    obtain ⟨rfl, h8⟩ := Prod.mk.inj (gn_some h)
    obtain ⟨rfl, rfl⟩ := Prod.mk.inj h8
    exact kk _ _ _ _ _ hG hP hD hS hl
  · have h := gn_f h c9
    cases h
set_option maxRecDepth 100000 in
theorem lw_c28 (A : LC p s m meth c b L xs K) {n : Nat} (hn : n + 6 ≤ L) (hL : L ≤ 3072) {C : CS} {M : MS} {lt : Int64 × Int64} {o : Nat → Int64} {g : Gh} {H : Heap} {locs : List Loc} {cells slots : Nat} {C' : CS} {M' : MS} {lt' : Int64 × Int64} (hroom : cells + 620 ≤ 601024 ∧ slots + 1240 ≤ 7293034) (hG : Gi K g lt) (hP : va_P K.1 vwCl (wd K C M o g) H) (hD : va_D (inA K) (wd K C M o g)) (hS : va_S (inA K) s.heap H locs) (h : lc28 z (xs (n + 1)) (xs (n + 2)) (xs (n + 3)) (xs (n + 4)) (xs (n + 5)) C M lt = some (C', M', lt')) {ls : Array Slot} (hl : lv_has ls 7 [(0, .ref b), (1, .ref (K.2.2.1 0)), (2, .ref (K.2.2.1 12)), (3, .ref (K.2.2.1 17)), (4, .int (Int32.ofNat n))])
    (kk : ∀ (o' : Nat → Int64) (g' : Gh) (H' : Heap) (locs' : List Loc) (ls' : Array Slot), Gi K g' lt' → va_P K.1 vwCl (wd K C' M' o' g') H' → va_D (inA K) (wd K C' M' o' g') → va_S (inA K) s.heap H' locs' → lv_has ls' 7 [(0, .ref b), (1, .ref (K.2.2.1 0)), (2, .ref (K.2.2.1 12)), (3, .ref (K.2.2.1 17)), (4, .int (Int32.ofNat n))] → W p l e room_1 s m #[Value.ref b] below meth c H' locs' (cells + 620) (slots + 1240) Q (F0 m 1551 ls' [])) : W p l e room_1 s m #[Value.ref b] below meth c H locs cells slots Q (F0 m 1446 ls []) := by
  obtain ⟨S0, hN, hF, hT, hK, hX, hbl, hbA⟩ := A
  have S9 := S0
  obtain ⟨hx, hb, hml, hown, hts⟩ := S9
  rw [lc28] at h
  refine lv_aload_n hx hb dL_law_1446 rfl (lv_at hl 1 rfl) ?_
  refine lv_aload_n hx hb dL_law_1447 rfl (lv_at hl 0 rfl) ?_
  refine lv_iload hx hb dL_law_1448 (lv_at hl 4 rfl) ?_
  refine lv_iconst (v := (1 : Int32)) hx hb dL_law_1450 (by decide) ?_
  refine lv_iadd hx hb dL_law_1451 ?_
  refine sc_ld 1 hx hb hX hbl hbA hn hL hS rfl (by decide) dL_law_1452 ?_
  obtain ⟨r, C1, q1, h⟩ := gn_bd2 h
  refine lc_V (rest := []) (rv := .int r) (C' := C1) (M' := M) (o' := o) (lt' := lt) S0 hN hF hK hP hD hS (c_X6_end l z K M o g _ C r C1 q1) (post_R hG) (cwV 1 hts gL_law_X6_end rfl rfl rfl (by decide +kernel) ⟨(Nat.le_of_ble_eq_true rfl), (Nat.le_of_ble_eq_true rfl)⟩) (va_recv hK hP (ci := 5) (q0 := 0) rfl rfl) rfl hl.1 rfl (Nat.le_of_ble_eq_true rfl) dL_law_1453 ⟨Nat.le_trans (Nat.add_le_add_left (show rm_X6_end.cells ≤ 620 from (Nat.le_of_ble_eq_true rfl)) _) hroom.1, Nat.le_trans (Nat.add_le_add_left (show rm_X6_end.slots ≤ 1240 from (Nat.le_of_ble_eq_true rfl)) _) hroom.2⟩ (Nat.le_of_ble_eq_true rfl) (Nat.le_of_ble_eq_true rfl) (fun g H locs hG hP hD hS => ?_)
  refine W.eq (g2 := F0 m 1456 ls [.int r]) rfl ?_
  refine lv_aload_n hx hb dL_law_1456 rfl (lv_at hl 2 rfl) ?_
  refine lv_aload_n hx hb dL_law_1457 rfl (lv_at hl 0 rfl) ?_
  refine lv_iload hx hb dL_law_1458 (lv_at hl 4 rfl) ?_
  refine lv_iconst (v := (1 : Int32)) hx hb dL_law_1460 (by decide) ?_
  refine lv_iadd hx hb dL_law_1461 ?_
  refine sc_ld 1 hx hb hX hbl hbA hn hL hS rfl (by decide) dL_law_1462 ?_
  obtain ⟨q, M1, eq, h⟩ := gn_bd2 h
  refine hc_V (rest := [.int r]) S0 hN hF hK hP hD hS (c_X7_end l z K _ _ _ _ M q M1 eq) (cwV 1 hts gL_law_X7_end rfl rfl rfl (by decide +kernel) ⟨(Nat.le_of_ble_eq_true rfl), (Nat.le_of_ble_eq_true rfl)⟩) (va_recv hK hP (ci := 6) (q0 := 12) rfl rfl) rfl hl.1 rfl (Nat.le_of_ble_eq_true rfl) dL_law_1463 hroom.1 hroom.2 (fun H locs hP hD hS => ?_)
  refine W.eq (g2 := F0 m 1466 ls [.int q, .int r]) rfl ?_
  refine lv_icmp_eq (tgt := 1551) hx hb dL_law_1466 (by decide) (fun c9 => ?_) (fun c9 => ?_)
  · have h := gn_t h c9
    obtain ⟨rfl, h8⟩ := Prod.mk.inj (gn_some h)
    obtain ⟨rfl, rfl⟩ := Prod.mk.inj h8
    exact kk _ _ _ _ _ hG hP hD hS hl
  · have h := gn_f h c9
    cases h
set_option maxRecDepth 100000 in
theorem lw_c29 (A : LC p s m meth c b L xs K) {n : Nat} (hn : n + 6 ≤ L) (hL : L ≤ 3072) {C : CS} {M : MS} {lt : Int64 × Int64} {o : Nat → Int64} {g : Gh} {H : Heap} {locs : List Loc} {cells slots : Nat} {C' : CS} {M' : MS} {lt' : Int64 × Int64} (hroom : cells + 620 ≤ 601024 ∧ slots + 1240 ≤ 7293034) (hG : Gi K g lt) (hP : va_P K.1 vwCl (wd K C M o g) H) (hD : va_D (inA K) (wd K C M o g)) (hS : va_S (inA K) s.heap H locs) (h : lc29 z (xs (n + 1)) (xs (n + 2)) (xs (n + 3)) (xs (n + 4)) (xs (n + 5)) C M lt = some (C', M', lt')) {ls : Array Slot} (hl : lv_has ls 7 [(0, .ref b), (1, .ref (K.2.2.1 0)), (2, .ref (K.2.2.1 12)), (3, .ref (K.2.2.1 17)), (4, .int (Int32.ofNat n))])
    (kk : ∀ (o' : Nat → Int64) (g' : Gh) (H' : Heap) (locs' : List Loc) (ls' : Array Slot), Gi K g' lt' → va_P K.1 vwCl (wd K C' M' o' g') H' → va_D (inA K) (wd K C' M' o' g') → va_S (inA K) s.heap H' locs' → lv_has ls' 7 [(0, .ref b), (1, .ref (K.2.2.1 0)), (2, .ref (K.2.2.1 12)), (3, .ref (K.2.2.1 17)), (4, .int (Int32.ofNat n))] → W p l e room_1 s m #[Value.ref b] below meth c H' locs' (cells + 620) (slots + 1240) Q (F0 m 1551 ls' [])) : W p l e room_1 s m #[Value.ref b] below meth c H locs cells slots Q (F0 m 1471 ls []) := by
  obtain ⟨S0, hN, hF, hT, hK, hX, hbl, hbA⟩ := A
  have S9 := S0
  obtain ⟨hx, hb, hml, hown, hts⟩ := S9
  rw [lc29] at h
  refine lv_aload_n hx hb dL_law_1471 rfl (lv_at hl 1 rfl) ?_
  obtain ⟨r, C1, lt1, n1, q1, h⟩ := gn_bd4 h
  obtain ⟨hn1, h⟩ := gn_yz h
  refine lc_V (rest := []) (rv := .int r) (C' := C1) (M' := M) (o' := o) (lt' := lt1) S0 hN hF hK hP hD hS (c_X6_tell l z K M o g hG.1 0 (by decide) lt hG.2 C r C1 lt1 n1 q1) (post_T hG) (cwV 0 hts gL_law_X6_tell rfl rfl rfl (by decide +kernel) ⟨(Nat.le_of_ble_eq_true rfl), (Nat.le_of_ble_eq_true rfl)⟩) (va_recv hK hP (ci := 5) (q0 := 0) rfl rfl) rfl hl.1 rfl (Nat.le_of_ble_eq_true rfl) dL_law_1472 ⟨Nat.le_trans (Nat.add_le_add_left (show (rm_X6_tell (620 - 0)).cells ≤ 620 from (Nat.le_of_ble_eq_true rfl)) _) hroom.1, Nat.le_trans (Nat.add_le_add_left (show (rm_X6_tell (620 - 0)).slots ≤ 1240 from (Nat.le_of_ble_eq_true rfl)) _) hroom.2⟩ (show n1 - 0 ≤ 620 by omega) (show 2 * (n1 - 0) ≤ 1240 by omega) (fun g H locs hG hP hD hS => ?_)
  refine W.eq (g2 := F0 m 1475 ls [.int r]) rfl ?_
  refine lv_aload_n hx hb dL_law_1475 rfl (lv_at hl 2 rfl) ?_
  obtain ⟨q, M1, eq, h⟩ := gn_bd2 h
  refine hc_V (rest := [.int r]) S0 hN hF hK hP hD hS (c_X7_tell l z K _ _ _  M q M1 eq) (cwV 0 hts gL_law_X7_tell rfl rfl rfl (by decide +kernel) ⟨(Nat.le_of_ble_eq_true rfl), (Nat.le_of_ble_eq_true rfl)⟩) (va_recv hK hP (ci := 6) (q0 := 12) rfl rfl) rfl hl.1 rfl (Nat.le_of_ble_eq_true rfl) dL_law_1476 hroom.1 hroom.2 (fun H locs hP hD hS => ?_)
  refine W.eq (g2 := F0 m 1479 ls [.int q, .int r]) rfl ?_
  refine lv_icmp_eq (tgt := 1551) hx hb dL_law_1479 (by decide) (fun c9 => ?_) (fun c9 => ?_)
  · have h := gn_t h c9
    obtain ⟨rfl, h8⟩ := Prod.mk.inj (gn_some h)
    obtain ⟨rfl, rfl⟩ := Prod.mk.inj h8
    exact kk _ _ _ _ _ hG hP hD hS hl
  · have h := gn_f h c9
    cases h
set_option maxRecDepth 100000 in
theorem lw_c30 (A : LC p s m meth c b L xs K) {n : Nat} (hn : n + 6 ≤ L) (hL : L ≤ 3072) {C : CS} {M : MS} {lt : Int64 × Int64} {o : Nat → Int64} {g : Gh} {H : Heap} {locs : List Loc} {cells slots : Nat} {C' : CS} {M' : MS} {lt' : Int64 × Int64} (hroom : cells + 620 ≤ 601024 ∧ slots + 1240 ≤ 7293034) (hG : Gi K g lt) (hP : va_P K.1 vwCl (wd K C M o g) H) (hD : va_D (inA K) (wd K C M o g)) (hS : va_S (inA K) s.heap H locs) (h : lc30 z (xs (n + 1)) (xs (n + 2)) (xs (n + 3)) (xs (n + 4)) (xs (n + 5)) C M lt = some (C', M', lt')) {ls : Array Slot} (hl : lv_has ls 7 [(0, .ref b), (1, .ref (K.2.2.1 0)), (2, .ref (K.2.2.1 12)), (3, .ref (K.2.2.1 17)), (4, .int (Int32.ofNat n))])
    (kk : ∀ (o' : Nat → Int64) (g' : Gh) (H' : Heap) (locs' : List Loc) (ls' : Array Slot), Gi K g' lt' → va_P K.1 vwCl (wd K C' M' o' g') H' → va_D (inA K) (wd K C' M' o' g') → va_S (inA K) s.heap H' locs' → lv_has ls' 7 [(0, .ref b), (1, .ref (K.2.2.1 0)), (2, .ref (K.2.2.1 12)), (3, .ref (K.2.2.1 17)), (4, .int (Int32.ofNat n))] → W p l e room_1 s m #[Value.ref b] below meth c H' locs' (cells + 620) (slots + 1240) Q (F0 m 1551 ls' [])) : W p l e room_1 s m #[Value.ref b] below meth c H locs cells slots Q (F0 m 1484 ls []) := by
  obtain ⟨S0, hN, hF, hT, hK, hX, hbl, hbA⟩ := A
  have S9 := S0
  obtain ⟨hx, hb, hml, hown, hts⟩ := S9
  rw [lc30] at h
  by_cases cb : xs (n + 1) = 0
  · rw [show bo (xs (n + 1)) = 0 from if_pos cb] at h
    refine lv_aload_n hx hb dL_law_1484 rfl (lv_at hl 1 rfl) ?_
    refine lv_aload_n hx hb dL_law_1485 rfl (lv_at hl 0 rfl) ?_
    refine lv_iload hx hb dL_law_1486 (lv_at hl 4 rfl) ?_
    refine lv_iconst (v := (1 : Int32)) hx hb dL_law_1488 (by decide) ?_
    refine lv_iadd hx hb dL_law_1489 ?_
    refine sc_ld 1 hx hb hX hbl hbA hn hL hS rfl (by decide) dL_law_1490 ?_
    refine lv_if_eq (tgt := 1498) hx hb dL_law_1491 (by decide) (fun _ => ?_) (fun c9 => absurd cb c9)
    refine lv_iconst (v := (0 : Int32)) hx hb dL_law_1498 (by decide) ?_
    obtain ⟨r, q1, h⟩ := gn_bd h
    refine lc_V (rest := []) (rv := .long r) (C' := C) (M' := M) (o' := o) (lt' := lt) S0 hN hF hK hP hD hS (c_X6_told l z K C M o g hG.1 lt hG.2 _ r q1) (post_R hG) (cwV 1 hts gL_law_X6_told rfl rfl rfl (by decide +kernel) ⟨(Nat.le_of_ble_eq_true rfl), (Nat.le_of_ble_eq_true rfl)⟩) (va_recv hK hP (ci := 5) (q0 := 0) rfl rfl) rfl hl.1 rfl (Nat.le_of_ble_eq_true rfl) dL_law_1499 ⟨Nat.le_trans (Nat.add_le_add_left (show rm_X6_told.cells ≤ 620 from (Nat.le_of_ble_eq_true rfl)) _) hroom.1, Nat.le_trans (Nat.add_le_add_left (show rm_X6_told.slots ≤ 1240 from (Nat.le_of_ble_eq_true rfl)) _) hroom.2⟩ (Nat.le_of_ble_eq_true rfl) (Nat.le_of_ble_eq_true rfl) (fun g H locs hG hP hD hS => ?_)
    refine W.eq (g2 := F0 m 1502 ls [.long r]) rfl ?_
    refine lv_aload_n hx hb dL_law_1502 rfl (lv_at hl 2 rfl) ?_
    refine lv_aload_n hx hb dL_law_1503 rfl (lv_at hl 0 rfl) ?_
    refine lv_iload hx hb dL_law_1504 (lv_at hl 4 rfl) ?_
    refine lv_iconst (v := (1 : Int32)) hx hb dL_law_1506 (by decide) ?_
    refine lv_iadd hx hb dL_law_1507 ?_
    refine sc_ld 1 hx hb hX hbl hbA hn hL hS rfl (by decide) dL_law_1508 ?_
    refine lv_if_eq (tgt := 1516) hx hb dL_law_1509 (by decide) (fun _ => ?_) (fun c9 => absurd cb c9)
    refine lv_iconst (v := (0 : Int32)) hx hb dL_law_1516 (by decide) ?_
    obtain ⟨q, M1, eq, h⟩ := gn_bd2 h
    refine hc_V (rest := [.long r]) S0 hN hF hK hP hD hS (c_X7_told l z K _ _ _ _ M q M1 eq) (cwV 1 hts gL_law_X7_told rfl rfl rfl (by decide +kernel) ⟨(Nat.le_of_ble_eq_true rfl), (Nat.le_of_ble_eq_true rfl)⟩) (va_recv hK hP (ci := 6) (q0 := 12) rfl rfl) rfl hl.1 rfl (Nat.le_of_ble_eq_true rfl) dL_law_1517 hroom.1 hroom.2 (fun H locs hP hD hS => ?_)
    refine W.eq (g2 := F0 m 1520 ls [.long q, .long r]) rfl ?_
    refine ll_eq (tgt := 1551) hx hb dL_law_1520 dL_law_1521 (by decide) (fun c9 => ?_) (fun c9 => ?_)
    · have h := gn_t h c9
      obtain ⟨rfl, h8⟩ := Prod.mk.inj (gn_some h)
      obtain ⟨rfl, rfl⟩ := Prod.mk.inj h8
      exact kk _ _ _ _ _ hG hP hD hS hl
    · have h := gn_f h c9
      cases h
  · rw [show bo (xs (n + 1)) = 1 from if_neg cb] at h
    refine lv_aload_n hx hb dL_law_1484 rfl (lv_at hl 1 rfl) ?_
    refine lv_aload_n hx hb dL_law_1485 rfl (lv_at hl 0 rfl) ?_
    refine lv_iload hx hb dL_law_1486 (lv_at hl 4 rfl) ?_
    refine lv_iconst (v := (1 : Int32)) hx hb dL_law_1488 (by decide) ?_
    refine lv_iadd hx hb dL_law_1489 ?_
    refine sc_ld 1 hx hb hX hbl hbA hn hL hS rfl (by decide) dL_law_1490 ?_
    refine lv_if_eq (tgt := 1498) hx hb dL_law_1491 (by decide) (fun c9 => absurd c9 cb) (fun _ => ?_)
    refine lv_iconst (v := (1 : Int32)) hx hb dL_law_1494 (by decide) ?_
    refine lv_goto (tgt := 1499) hx hb dL_law_1495 (by decide) ?_
    obtain ⟨r, q1, h⟩ := gn_bd h
    refine lc_V (rest := []) (rv := .long r) (C' := C) (M' := M) (o' := o) (lt' := lt) S0 hN hF hK hP hD hS (c_X6_told l z K C M o g hG.1 lt hG.2 _ r q1) (post_R hG) (cwV 1 hts gL_law_X6_told rfl rfl rfl (by decide +kernel) ⟨(Nat.le_of_ble_eq_true rfl), (Nat.le_of_ble_eq_true rfl)⟩) (va_recv hK hP (ci := 5) (q0 := 0) rfl rfl) rfl hl.1 rfl (Nat.le_of_ble_eq_true rfl) dL_law_1499 ⟨Nat.le_trans (Nat.add_le_add_left (show rm_X6_told.cells ≤ 620 from (Nat.le_of_ble_eq_true rfl)) _) hroom.1, Nat.le_trans (Nat.add_le_add_left (show rm_X6_told.slots ≤ 1240 from (Nat.le_of_ble_eq_true rfl)) _) hroom.2⟩ (Nat.le_of_ble_eq_true rfl) (Nat.le_of_ble_eq_true rfl) (fun g H locs hG hP hD hS => ?_)
    refine W.eq (g2 := F0 m 1502 ls [.long r]) rfl ?_
    refine lv_aload_n hx hb dL_law_1502 rfl (lv_at hl 2 rfl) ?_
    refine lv_aload_n hx hb dL_law_1503 rfl (lv_at hl 0 rfl) ?_
    refine lv_iload hx hb dL_law_1504 (lv_at hl 4 rfl) ?_
    refine lv_iconst (v := (1 : Int32)) hx hb dL_law_1506 (by decide) ?_
    refine lv_iadd hx hb dL_law_1507 ?_
    refine sc_ld 1 hx hb hX hbl hbA hn hL hS rfl (by decide) dL_law_1508 ?_
    refine lv_if_eq (tgt := 1516) hx hb dL_law_1509 (by decide) (fun c9 => absurd c9 cb) (fun _ => ?_)
    refine lv_iconst (v := (1 : Int32)) hx hb dL_law_1512 (by decide) ?_
    refine lv_goto (tgt := 1517) hx hb dL_law_1513 (by decide) ?_
    obtain ⟨q, M1, eq, h⟩ := gn_bd2 h
    refine hc_V (rest := [.long r]) S0 hN hF hK hP hD hS (c_X7_told l z K _ _ _ _ M q M1 eq) (cwV 1 hts gL_law_X7_told rfl rfl rfl (by decide +kernel) ⟨(Nat.le_of_ble_eq_true rfl), (Nat.le_of_ble_eq_true rfl)⟩) (va_recv hK hP (ci := 6) (q0 := 12) rfl rfl) rfl hl.1 rfl (Nat.le_of_ble_eq_true rfl) dL_law_1517 hroom.1 hroom.2 (fun H locs hP hD hS => ?_)
    refine W.eq (g2 := F0 m 1520 ls [.long q, .long r]) rfl ?_
    refine ll_eq (tgt := 1551) hx hb dL_law_1520 dL_law_1521 (by decide) (fun c9 => ?_) (fun c9 => ?_)
    · have h := gn_t h c9
      obtain ⟨rfl, h8⟩ := Prod.mk.inj (gn_some h)
      obtain ⟨rfl, rfl⟩ := Prod.mk.inj h8
      exact kk _ _ _ _ _ hG hP hD hS hl
    · have h := gn_f h c9
      cases h
set_option maxRecDepth 100000 in
theorem lw_c31 (A : LC p s m meth c b L xs K) {n : Nat} (hn : n + 6 ≤ L) (hL : L ≤ 3072) {C : CS} {M : MS} {lt : Int64 × Int64} {o : Nat → Int64} {g : Gh} {H : Heap} {locs : List Loc} {cells slots : Nat} {C' : CS} {M' : MS} {lt' : Int64 × Int64} (hroom : cells + 620 ≤ 601024 ∧ slots + 1240 ≤ 7293034) (hG : Gi K g lt) (hP : va_P K.1 vwCl (wd K C M o g) H) (hD : va_D (inA K) (wd K C M o g)) (hS : va_S (inA K) s.heap H locs) (h : lc31 z (xs (n + 1)) (xs (n + 2)) (xs (n + 3)) (xs (n + 4)) (xs (n + 5)) C M lt = some (C', M', lt')) {ls : Array Slot} (hl : lv_has ls 7 [(0, .ref b), (1, .ref (K.2.2.1 0)), (2, .ref (K.2.2.1 12)), (3, .ref (K.2.2.1 17)), (4, .int (Int32.ofNat n))])
    (kk : ∀ (o' : Nat → Int64) (g' : Gh) (H' : Heap) (locs' : List Loc) (ls' : Array Slot), Gi K g' lt' → va_P K.1 vwCl (wd K C' M' o' g') H' → va_D (inA K) (wd K C' M' o' g') → va_S (inA K) s.heap H' locs' → lv_has ls' 7 [(0, .ref b), (1, .ref (K.2.2.1 0)), (2, .ref (K.2.2.1 12)), (3, .ref (K.2.2.1 17)), (4, .int (Int32.ofNat n))] → W p l e room_1 s m #[Value.ref b] below meth c H' locs' (cells + 620) (slots + 1240) Q (F0 m 1551 ls' [])) : W p l e room_1 s m #[Value.ref b] below meth c H locs cells slots Q (F0 m 1526 ls []) := by
  obtain ⟨S0, hN, hF, hT, hK, hX, hbl, hbA⟩ := A
  have S9 := S0
  obtain ⟨hx, hb, hml, hown, hts⟩ := S9
  rw [lc31] at h
  refine lv_aload_n hx hb dL_law_1526 rfl (lv_at hl 1 rfl) ?_
  refine lv_aload_n hx hb dL_law_1527 rfl (lv_at hl 0 rfl) ?_
  refine lv_iload hx hb dL_law_1528 (lv_at hl 4 rfl) ?_
  refine lv_iconst (v := (1 : Int32)) hx hb dL_law_1530 (by decide) ?_
  refine lv_iadd hx hb dL_law_1531 ?_
  refine sc_ld 1 hx hb hX hbl hbA hn hL hS rfl (by decide) dL_law_1532 ?_
  obtain ⟨r, C1, q1, h⟩ := gn_bd2 h
  refine lc_V (rest := []) (rv := .int r) (C' := C1) (M' := M) (o' := o) (lt' := lt) S0 hN hF hK hP hD hS (c_X6_count l z K M o g _ C r C1 q1) (post_R hG) (cwV 1 hts gL_law_X6_count rfl rfl rfl (by decide +kernel) ⟨(Nat.le_of_ble_eq_true rfl), (Nat.le_of_ble_eq_true rfl)⟩) (va_recv hK hP (ci := 5) (q0 := 0) rfl rfl) rfl hl.1 rfl (Nat.le_of_ble_eq_true rfl) dL_law_1533 ⟨Nat.le_trans (Nat.add_le_add_left (show rm_X6_count.cells ≤ 620 from (Nat.le_of_ble_eq_true rfl)) _) hroom.1, Nat.le_trans (Nat.add_le_add_left (show rm_X6_count.slots ≤ 1240 from (Nat.le_of_ble_eq_true rfl)) _) hroom.2⟩ (Nat.le_of_ble_eq_true rfl) (Nat.le_of_ble_eq_true rfl) (fun g H locs hG hP hD hS => ?_)
  refine W.eq (g2 := F0 m 1536 ls [.int r]) rfl ?_
  refine lv_aload_n hx hb dL_law_1536 rfl (lv_at hl 2 rfl) ?_
  refine lv_aload_n hx hb dL_law_1537 rfl (lv_at hl 0 rfl) ?_
  refine lv_iload hx hb dL_law_1538 (lv_at hl 4 rfl) ?_
  refine lv_iconst (v := (1 : Int32)) hx hb dL_law_1540 (by decide) ?_
  refine lv_iadd hx hb dL_law_1541 ?_
  refine sc_ld 1 hx hb hX hbl hbA hn hL hS rfl (by decide) dL_law_1542 ?_
  obtain ⟨q, M1, eq, h⟩ := gn_bd2 h
  refine hc_V (rest := [.int r]) S0 hN hF hK hP hD hS (c_X7_count l z K _ _ _ _ M q M1 eq) (cwV 1 hts gL_law_X7_count rfl rfl rfl (by decide +kernel) ⟨(Nat.le_of_ble_eq_true rfl), (Nat.le_of_ble_eq_true rfl)⟩) (va_recv hK hP (ci := 6) (q0 := 12) rfl rfl) rfl hl.1 rfl (Nat.le_of_ble_eq_true rfl) dL_law_1543 hroom.1 hroom.2 (fun H locs hP hD hS => ?_)
  refine W.eq (g2 := F0 m 1546 ls [.int q, .int r]) rfl ?_
  refine lv_icmp_eq (tgt := 1551) hx hb dL_law_1546 (by decide) (fun c9 => ?_) (fun c9 => ?_)
  · have h := gn_t h c9
    obtain ⟨rfl, h8⟩ := Prod.mk.inj (gn_some h)
    obtain ⟨rfl, rfl⟩ := Prod.mk.inj h8
    exact kk _ _ _ _ _ hG hP hD hS hl
  · have h := gn_f h c9
    cases h
end LCASES
