/-! of, and the law's own of: a throw, and its catching -/
/-- what a throw needs of the start -/
def TF (K : Ev) (U : State) : Prop := vk_R RX6 160 "what is 0 to 3" (K.2.2.1 23) U ∧ va_Nw (.declares ⟨"java/lang/RuntimeException", "<init>", "(Ljava/lang/String;)V"⟩) U ∧ va_Nw (.declares ⟨"java/lang/Exception", "<init>", "(Ljava/lang/String;)V"⟩) U ∧ va_Nw (.declares ⟨"java/lang/Throwable", "<init>", "(Ljava/lang/String;)V"⟩) U ∧ va_Nw (.castable XN XN) U ∧ vx_Zq Bundle.tN "UNASSIGNED_STACK" Bundle.steD (inA K) U U.heap ∧ vx_Zq Bundle.tN "SUPPRESSED_SENTINEL" Bundle.listD (inA K) U U.heap
theorem TF.same {K : Ev} {u U : State} (hv : u.vm = U.vm) (hh : u.heap = U.heap) (h : TF K u) : TF K U := by
  obtain ⟨h1, h2, h3, h4, h5, h6, h7⟩ := h
  have hal : u.vm.Alike U.vm := by rw [hv]; exact Vm.Alike.refl U.vm
  rw [hh] at h6 h7
  exact ⟨h1.same hv.symm, va_Nw.same rfl hv h2, va_Nw.same rfl hv h3, va_Nw.same rfl hv h4, va_Nw.same rfl hv h5, h6.moved hal, h7.moved hal⟩
theorem TF.pass {K : Ev} {s U : State} {H : Heap} {locs : List Loc} (h : TF K s) (hS : va_S (inA K) s.heap H locs) (hh : U.heap = H) (hW : s.WarmedH U.vm) : TF K U := by
  obtain ⟨h1, h2, h3, h4, h5, h6, h7⟩ := h
  rw [TF, hh]
  exact ⟨h1.warm hW, va_Nw.warmD hW h2, va_Nw.warmD hW h3, va_Nw.warmD hW h4, va_Nw.warmC hW h5, (h6.kept hS.2.1).moved hW.alike, (h7.kept hS.2.1).moved hW.alike⟩
def qO (K : Ev) (av : List Value) (C : CS) (M : MS) (o : Nat → Int64) (g : Gh) : Array Value → State → Prop := fun v U => qH K av C M o g v U ∧ TF K U
theorem qO.blind (K : Ev) (av : List Value) (C : CS) (M : MS) (o : Nat → Int64) (g : Gh) : FrameBlind (qO K av C M o g) := fun a U gg mk h => ⟨qH.blind K av C M o g a U gg mk h.1, TF.same rfl rfl h.2⟩
def ofV (a : Int32) (C : CS) : Option Int32 := if a = 0 then some (cg_ma C) else if a = 1 then some (cg_mb C) else if a = 2 then some (cg_mc C) else if a = 3 then some (cg_md C) else none
def rm_X6_of : Room := { frames := 6, cells := 1, slots := 6, locals := 100 }
theorem in_X6_of_X6 : ∀ w ∈ wsX60, w ∈ wsO_of := fun _ h => List.mem_cons_of_mem _ (List.mem_append_left _ (List.mem_append_left _ (List.mem_append_right _ h)))
theorem in_X6_of_X2 : ∀ w ∈ wsX20, w ∈ wsO_of := fun _ h => List.mem_cons_of_mem _ (List.mem_append_left _ (List.mem_append_right _ h))
theorem in_X6_of_t : ∀ w ∈ xo_at.filter goodWord, w ∈ wsO_of := fun _ h => List.mem_cons_of_mem _ (List.mem_append_right _ h)
theorem of_bad : ∀ w ∈ xo_at.filter (fun w => !goodWord w), w ∈ [Cond.declares ⟨"java/lang/RuntimeException", "<init>", "(Ljava/lang/String;)V"⟩, Cond.declares ⟨"java/lang/Exception", "<init>", "(Ljava/lang/String;)V"⟩, Cond.declares ⟨"java/lang/Throwable", "<init>", "(Ljava/lang/String;)V"⟩, Cond.castable XN XN] := by decide +kernel
theorem of_ot : ∀ w ∈ Cond.classLink RX6 158 XN :: Cond.initialized XN :: xo_at, vx_ot w = true := by decide +kernel
def ofQ (K : Ev) (a : Int32) (C : CS) (M : MS) (o : Nat → Int64) (g : Gh) : Array Value → State → Outcome → State → Prop := fun _ st oc t => ∃ r : Int32, ofV a C = some r ∧ oc = .returned (some (.int r)) ∧ va_P K.1 vwCl (wd K C M o g) t.heap ∧ va_D (inA K) (wd K C M o g) ∧ va_F (inA K) st t
def ofX (K : Ev) (a : Int32) (C : CS) (M : MS) (o : Nat → Int64) (g : Gh) : String → State → State → Prop := fun E st t => ofV a C = none ∧ E = XN ∧ va_P K.1 vwCl (wd K C M o g) t.heap ∧ va_D (inA K) (wd K C M o g) ∧ va_F (inA K) st t
set_option maxRecDepth 100000 in
theorem c_X6_of (l : Launch) (hlt : l.stackTraces = false) (K : Ev) (C : CS) (M : MS) (o : Nat → Int64) (g : Gh) (a0 : Int32) : vx_Met l yX6_of wsO_of rm_X6_of (qO K [.ref (K.2.2.1 0), .int a0] C M o g) (ofQ K a0 C M o g) (ofX K a0 C M o g) 1 6 (inA K) := by
  refine vx_ofW (cc := cX6_of) (maxL := 2) (ret := (some .int)) (by decide) rfl ?_
  intro p e s m args below meth c s₁ B hml htab hv
  obtain ⟨⟨rfl, hN, hP, hK, hD, hF⟩, hT⟩ := hv
  have hx := B.exec
  have hb := B.bytes
  have hr := B.returns
  have hts := atoms_spec (ws := wsO_of) B.pre
  have hown : s.vm.findClass RX6 = some m.cls := findClass_of_methodNamed B.named
  have hlk := B.notSynchronized
  have hS : va_S (inA K) s.heap s.heap [] := va_S.rf
  have hl := lv_entry ([.ref (K.2.2.1 0), .int a0]) (n := 2) (Nat.le_of_ble_eq_true rfl)
  rw [lg_entry_eq]
  generalize (lg_sl ([.ref (K.2.2.1 0), .int a0]) ++ List.replicate (2 - (lg_sl ([.ref (K.2.2.1 0), .int a0])).length) Slot.unset).toArray = ls at hl ⊢
  have hl : lv_has ls 2 [(0, .ref (K.2.2.1 0)), (1, .int a0)] := hl
  refine lv_iload_n hx hb dX6_of_0 rfl (lv_at hl 1 rfl) ?_
  by_cases c0 : a0 = (0 : Int32)
  · refine lv_tableIn (off := 31) (tgt := 32) hx hb dX6_of_1 (by rw [c0]; decide) (by rw [c0]; decide) (by rw [c0]; rfl) (by decide) ?_
    refine lv_aload_n hx hb dX6_of_32 rfl (lv_at hl 0 rfl) ?_
    refine va_get (D := K.1) (ci := 5) (v := .ref (K.2.2.1 1)) (C := RX6) (T := TX6) (N := 9) hx hb hts in_X6_of_X6 hown hK hP 0 rfl rfl 0 (by decide) (hts (.fieldLink RX6 10 "SawSums" "matrix" "LSawSums$Matrix;") (by decide +kernel)) (fun _ h9 => h9) rfl dX6_of_33 ?_
    refine va_getN (D := K.1) (ci := 2) (v := .int (cg_ma C)) (C := RX2) (T := TX2) (N := 4) hx hb hts in_X6_of_X2 hown hK hP 1 rfl rfl 0 (by decide) (va_Nw.use rfl hN.2.2.1) (fun _ h9 => h9) rfl dX6_of_36 ?_
    refine vx_ret ?_
    refine W.widen (k := 1) (n := 6) (Nat.le_of_ble_eq_true rfl) (Nat.le_of_ble_eq_true rfl) ?_
    exact W.iret hx hb hr (fun t ht _ => ⟨_, by rw [ofV, if_pos c0], rfl, by rw [ht]; exact hP, hD, hS.F ht⟩) hS.2.2 dX6_of_39 hlk
  by_cases c1 : a0 = (1 : Int32)
  · refine lv_tableIn (off := 39) (tgt := 40) hx hb dX6_of_1 (by rw [c1]; decide) (by rw [c1]; decide) (by rw [c1]; rfl) (by decide) ?_
    refine lv_aload_n hx hb dX6_of_40 rfl (lv_at hl 0 rfl) ?_
    refine va_get (D := K.1) (ci := 5) (v := .ref (K.2.2.1 1)) (C := RX6) (T := TX6) (N := 9) hx hb hts in_X6_of_X6 hown hK hP 0 rfl rfl 0 (by decide) (hts (.fieldLink RX6 10 "SawSums" "matrix" "LSawSums$Matrix;") (by decide +kernel)) (fun _ h9 => h9) rfl dX6_of_41 ?_
    refine va_getN (D := K.1) (ci := 2) (v := .int (cg_mb C)) (C := RX2) (T := TX2) (N := 4) hx hb hts in_X6_of_X2 hown hK hP 1 rfl rfl 1 (by decide) (va_Nw.use rfl hN.2.2.2.1) (fun _ h9 => h9) rfl dX6_of_44 ?_
    refine vx_ret ?_
    refine W.widen (k := 1) (n := 6) (Nat.le_of_ble_eq_true rfl) (Nat.le_of_ble_eq_true rfl) ?_
    exact W.iret hx hb hr (fun t ht _ => ⟨_, by rw [ofV, if_neg c0, if_pos c1], rfl, by rw [ht]; exact hP, hD, hS.F ht⟩) hS.2.2 dX6_of_47 hlk
  by_cases c2 : a0 = (2 : Int32)
  · refine lv_tableIn (off := 47) (tgt := 48) hx hb dX6_of_1 (by rw [c2]; decide) (by rw [c2]; decide) (by rw [c2]; rfl) (by decide) ?_
    refine lv_aload_n hx hb dX6_of_48 rfl (lv_at hl 0 rfl) ?_
    refine va_get (D := K.1) (ci := 5) (v := .ref (K.2.2.1 1)) (C := RX6) (T := TX6) (N := 9) hx hb hts in_X6_of_X6 hown hK hP 0 rfl rfl 0 (by decide) (hts (.fieldLink RX6 10 "SawSums" "matrix" "LSawSums$Matrix;") (by decide +kernel)) (fun _ h9 => h9) rfl dX6_of_49 ?_
    refine va_getN (D := K.1) (ci := 2) (v := .int (cg_mc C)) (C := RX2) (T := TX2) (N := 4) hx hb hts in_X6_of_X2 hown hK hP 1 rfl rfl 2 (by decide) (va_Nw.use rfl hN.2.2.2.2.1) (fun _ h9 => h9) rfl dX6_of_52 ?_
    refine vx_ret ?_
    refine W.widen (k := 1) (n := 6) (Nat.le_of_ble_eq_true rfl) (Nat.le_of_ble_eq_true rfl) ?_
    exact W.iret hx hb hr (fun t ht _ => ⟨_, by rw [ofV, if_neg c0, if_neg c1, if_pos c2], rfl, by rw [ht]; exact hP, hD, hS.F ht⟩) hS.2.2 dX6_of_55 hlk
  by_cases c3 : a0 = (3 : Int32)
  · refine lv_tableIn (off := 55) (tgt := 56) hx hb dX6_of_1 (by rw [c3]; decide) (by rw [c3]; decide) (by rw [c3]; rfl) (by decide) ?_
    refine lv_aload_n hx hb dX6_of_56 rfl (lv_at hl 0 rfl) ?_
    refine va_get (D := K.1) (ci := 5) (v := .ref (K.2.2.1 1)) (C := RX6) (T := TX6) (N := 9) hx hb hts in_X6_of_X6 hown hK hP 0 rfl rfl 0 (by decide) (hts (.fieldLink RX6 10 "SawSums" "matrix" "LSawSums$Matrix;") (by decide +kernel)) (fun _ h9 => h9) rfl dX6_of_57 ?_
    refine va_getN (D := K.1) (ci := 2) (v := .int (cg_md C)) (C := RX2) (T := TX2) (N := 4) hx hb hts in_X6_of_X2 hown hK hP 1 rfl rfl 3 (by decide) (va_Nw.use rfl hN.2.2.2.2.2.1) (fun _ h9 => h9) rfl dX6_of_60 ?_
    refine vx_ret ?_
    refine W.widen (k := 1) (n := 6) (Nat.le_of_ble_eq_true rfl) (Nat.le_of_ble_eq_true rfl) ?_
    exact W.iret hx hb hr (fun t ht _ => ⟨_, by rw [ofV, if_neg c0, if_neg c1, if_neg c2, if_pos c3], rfl, by rw [ht]; exact hP, hD, hS.F ht⟩) hS.2.2 dX6_of_63 hlk
  refine lv_tableOut (tgt := 64) hx hb dX6_of_1 (tsw_out_4 c0 c1 c2 c3) (by decide) ?_
  have hat : ∀ w ∈ xo_at, w.before #[Value.ref (K.2.2.1 0), Value.int a0] s = true := vx_hat (fun w h => hts w (in_X6_of_t w h)) of_bad (vx_c (va_Nw.use rfl hT.2.1) (vx_c (va_Nw.use rfl hT.2.2.1) (vx_c (va_Nw.use rfl hT.2.2.2.1) (vx_c (va_Nw.use rfl hT.2.2.2.2.1) vx_n))))
  exact xo_throw (A := inA K) (sa := K.2.2.1 23) (text := "what is 0 to 3") hx hb hlt hown (hts (.classLink RX6 158 XN) (by decide +kernel)) (hts (.initialized XN) (by decide +kernel)) hT.1 hat of_ot hT.2.2.2.2.2.1 hT.2.2.2.2.2.2 hS (hl.1.trans hml.symm) dX6_of_64 dX6_of_67 dX6_of_68 dX6_of_70 dX6_of_73 (fun x hx => (htab x hx).elim) (Nat.lt_of_lt_of_le (by decide) (Nat.le_refl _)) (Nat.le_of_ble_eq_true rfl) (Nat.le_of_ble_eq_true rfl) (Nat.le_of_ble_eq_true rfl) hlk
    (fun t _ hz hk => ⟨by rw [ofV, if_neg c0, if_neg c1, if_neg c2, if_neg c3], rfl, hP.kept (fun k q h => hk q.1 ((hP k q h).lt)), hD, ⟨hz, fun q h _ => hk q h⟩⟩) hS.2.2 (Nat.le_of_ble_eq_true rfl) (Nat.le_of_ble_eq_true rfl)
def lofV (a : Int32) (C : CS) (o : Nat → Int64) : Int32 × (Nat → Int64) := match ofV a C with
  | some r => (0, vp_updL o 0 r.toInt64)
  | none => (1, o)
def rm_L_of : Room := { frames := 8, cells := 1, slots := 6, locals := 130 }
set_option maxRecDepth 100000 in
theorem c_L_of (l : Launch) (hlt : l.stackTraces = false) (K : Ev) (C : CS) (M : MS) (o : Nat → Int64) (g : Gh) (a0 : Int32) : Met l yL_of wsL_of rm_L_of (qO K [.ref (K.2.2.1 0), .int a0, .ref (K.2.2.1 17)] C M o g) (qR K (some (.int (lofV a0 C o).1)) C M (lofV a0 C o).2 g) 1 6 (inA K) := by
  refine va_MetW (cc := cL_of) (maxL := 4) (ret := (some .int)) (hh := [(0, 9, 12, 13)]) (by decide) rfl ?_
  intro p e s m args below meth c s₁ B hml hv
  obtain ⟨⟨rfl, hN, hP, hK, hD, hF⟩, hT⟩ := hv
  have hx := B.exec
  have hb := B.bytes
  have hr := B.returns
  have hts := atoms_spec (ws := wsL_of) B.pre
  have htab := vx_table (x := yL_of) B (hts (.codeWith yL_of cL_of 4 (some .int) [(0, 9, 12, 13)]) List.mem_cons_self)
  have hown : s.vm.findClass RL = some m.cls := findClass_of_methodNamed B.named
  have hlk := B.notSynchronized
  have hS : va_S (inA K) s.heap s.heap [] := va_S.rf
  have hl := lv_entry ([.ref (K.2.2.1 0), .int a0, .ref (K.2.2.1 17)]) (n := 4) (Nat.le_of_ble_eq_true rfl)
  rw [lg_entry_eq]
  generalize (lg_sl ([.ref (K.2.2.1 0), .int a0, .ref (K.2.2.1 17)]) ++ List.replicate (4 - (lg_sl ([.ref (K.2.2.1 0), .int a0, .ref (K.2.2.1 17)])).length) Slot.unset).toArray = ls at hl ⊢
  have hl : lv_has ls 4 [(0, .ref (K.2.2.1 0)), (1, .int a0), (2, .ref (K.2.2.1 17))] := hl
  refine lv_aload_n hx hb dL_of_0 rfl (lv_at hl 2 rfl) ?_
  refine lv_iconst (v := (0 : Int32)) hx hb dL_of_1 (by decide) ?_
  refine lv_aload_n hx hb dL_of_2 rfl (lv_at hl 0 rfl) ?_
  refine lv_iload_n hx hb dL_of_3 rfl (lv_at hl 1 rfl) ?_
  refine W.eq (g2 := F0 m 4 ls [.int a0, .ref (K.2.2.1 0), .int 0, .ref (K.2.2.1 17)]) rfl ?_
  have hrn := vx_runV (H := s.heap) (locs := []) (cells := 0) (slots := 0) (below := below) (e := e) (meth := meth) (R := (headSpec wsL_of rm_L_of).room) (g := F0 m 4 ls [.int a0, .ref (K.2.2.1 0), .int 0, .ref (K.2.2.1 17)]) (As := [.int a0]) (rest := [.int 0, .ref (K.2.2.1 17)]) ⟨hx, hb, hml, hown, hts⟩ (c_X6_of l hlt K C M o g a0) (cwV 1 hts gL_of_X6_of rfl rfl rfl (by decide +kernel) ⟨(Nat.le_of_ble_eq_true rfl), (Nat.le_of_ble_eq_true rfl)⟩) ⟨qO.blind K _ C M o g, va_recv hK hP (ci := 5) (q0 := 0) rfl rfl, fun U hU hw => ⟨⟨rfl, NW.warm hw hN, by rw [hU]; exact hP, va_K.moved hw.alike hK, hD, SF.pass hF hS hU hw⟩, TF.pass hT hS hU hw⟩⟩ rfl rfl hl.1 rfl (lv_room (Nat.le_of_ble_eq_true rfl)) dL_of_4 ⟨(Nat.le_of_ble_eq_true rfl), (Nat.le_of_ble_eq_true rfl)⟩
  intro T hTT X
  rcases hrn T hTT X with ⟨v, st₀, t, T', L, h0, X', hL, e1, e2, ⟨r, hr1, hv, hP1, hD1, hF1⟩, st⟩ | ⟨q, st₀, t, T', L, E, ce, h0, X', hL, e1, e2, ⟨hn1, hE, hP1, hD1, hF1⟩, hce, hcv, hcl, st⟩
  · cases hv
    have hS1 := hs_join hS h0 e1 hF1 hL
    have hP2 : va_P K.1 vwCl (wd K C M o g) T'.heap := by rw [e1]; exact hP1
    have k1 : W p l e (headSpec wsL_of rm_L_of).room s m #[Value.ref (K.2.2.1 0), Value.int a0, Value.ref (K.2.2.1 17)] below meth c T'.heap ([] ++ L) (0 + 1) (0 + 6) (MQ below (qR K (some (.int (lofV a0 C o).1)) C M (lofV a0 C o).2 g) #[Value.ref (K.2.2.1 0), Value.int a0, Value.ref (K.2.2.1 17)] s 1 6 (inA K)) (F0 m 7 ls [.int r, .int 0, .ref (K.2.2.1 17)]) := by
      refine lv_i2l hx hb dL_of_7 rfl ?_
      refine va_last hx hb hK hP2 hD1 hS1 17 0 rfl rfl (ib_in (show ib (0 : Int32) 1 = true by decide)) dL_of_8 (fun H locs hP hD hS => ?_)
      have hP : va_P K.1 vwCl (wd K C M (vp_updL o 0 r.toInt64) g) H := hP
      have hD : va_D (inA K) (wd K C M (vp_updL o 0 r.toInt64) g) := hD
      refine lv_goto (tgt := 15) hx hb dL_of_9 (by decide) ?_
      refine lv_iconst (v := (0 : Int32)) hx hb dL_of_15 (by decide) ?_
      have hq : lofV a0 C o = (0, vp_updL o 0 r.toInt64) := by rw [lofV, hr1]
      rw [hq]
      exact W.iret hx hb hr (fun t ht _ => ⟨rfl, by rw [ht]; exact hP, hD, hS.F ht⟩) hS.2.2 dL_of_16 hlk
    obtain ⟨t2, a1, b1⟩ := k1 T' rfl X'
    exact ⟨t2, st t2 a1, b1⟩
  · subst hE
    have hS1 := hs_join hS h0 e1 hF1 hL
    have hP2 : va_P K.1 vwCl (wd K C M o g) T'.heap := by rw [e1]; exact hP1
    have k2 : vx_W p l e (headSpec wsL_of rm_L_of).room s m #[Value.ref (K.2.2.1 0), Value.int a0, Value.ref (K.2.2.1 17)] below meth c T'.heap ([] ++ L) (0 + 1) (0 + 6) (MQ below (qR K (some (.int (lofV a0 C o).1)) C M (lofV a0 C o).2 g) #[Value.ref (K.2.2.1 0), Value.int a0, Value.ref (K.2.2.1 17)] s 1 6 (inA K)) (F0 m 4 ls [.int 0, .ref (K.2.2.1 17)]) q := by
      refine vx_catch hown [] ⟨0, 9, 12, 13⟩ [] htab (fun z h => nomatch h) rfl (by decide) (hts (.classLink RL 13 XN) (by decide +kernel)) (va_Nw.use rfl hT.2.2.2.2.1) (by rw [e1]; exact hce) hcv hcl ?_
      refine lv_astore_n (lv' := [(3, .ref q), (0, .ref (K.2.2.1 0)), (1, .int a0), (2, .ref (K.2.2.1 17))]) hx hb dL_of_12 rfl hl (by decide) rfl (fun ls hl => ?_)
      refine lv_iconst (v := (1 : Int32)) hx hb dL_of_13 (by decide) ?_
      have hq : lofV a0 C o = (1, o) := by rw [lofV, hn1]
      rw [hq]
      exact W.iret hx hb hr (fun t ht _ => ⟨rfl, by rw [ht]; exact hP2, hD1, hS1.F ht⟩) hS1.2.2 dL_of_14 hlk
    obtain ⟨t2, a1, b1⟩ := k2 T' rfl X'
    exact ⟨t2, st.trans a1, b1⟩
