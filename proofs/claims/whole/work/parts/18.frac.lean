/-! the fractions: pooled, never written once made -/
def Ext (g g' : Gh) : Prop := g'.1 = g.1 ∧ ∀ a, a ∈ g.2.1 → a ∈ g'.2.1 ∧ g'.2.2 a = g.2.2 a
theorem Ext.rf {g : Gh} : Ext g g := ⟨rfl, fun _ h => ⟨h, rfl⟩⟩
theorem Ext.tr {g g1 g2 : Gh} (h : Ext g g1) (h' : Ext g1 g2) : Ext g g2 := ⟨h'.1.trans h.1, fun a ha => ⟨(h'.2 a (h.2 a ha).1).1, ((h'.2 a (h.2 a ha).1).2).trans (h.2 a ha).2⟩⟩
theorem Ext.mv {g g' : Gh} (x : Ext g g') {a : Nat} {u : Int64 × Int64} (m : a ∈ g.2.1 ∧ g.2.2 a = u) : a ∈ g'.2.1 ∧ g'.2.2 a = u := ⟨(x.2 a m.1).1, ((x.2 a m.1).2).trans m.2⟩
def gpush (g : Gh) (q : Nat) (v : Int64 × Int64) : Gh := (g.1, g.2.1 ++ [q], va_up g.2.2 q v)
def gset (g : Gh) (q : Nat) (v : Int64 × Int64) : Gh := (g.1, g.2.1, va_up g.2.2 q v)
theorem frE_up (f : Nat → Int64 × Int64) (q : Nat) (v : Int64 × Int64) : va_up (frE f) q (.inr (1, [.long v.1, .long v.2])) = frE (va_up f q v) := by
  funext b
  by_cases hb : b = q
  · subst hb; simp [frE, va_up]
  · simp [frE, va_up, hb]
theorem wd_push {K : Ev} {C : CS} {M : MS} {o : Nat → Int64} {g : Gh} {q : Nat} (hq : q ∉ g.2.1) (v : Int64 × Int64) : wd K C M o g ++ [(q, .inr (1, [.long v.1, .long v.2]))] = wd K C M o (gpush g q v) := by
  unfold wd gpush
  rw [List.append_assoc, va_pl_push hq, frE_up]
theorem wd_set {K : Ev} {C : CS} {M : MS} {o : Nat → Int64} {g : Gh} {A : Nat → Prop} {q k : Nat} (hD : va_D A (wd K C M o g)) (hq : q ∈ g.2.1) (hk : (wd K C M o g)[k]? = some (q, frE g.2.2 q)) (v : Int64 × Int64) : (wd K C M o g).set k (q, .inr (1, [.long v.1, .long v.2])) = wd K C M o (gset g q v) := by
  unfold wd gset at *
  rw [va_pl_set hD hq hk, frE_up]
theorem gset_ext {g : Gh} {q : Nat} {v w : Int64 × Int64} (hq : q ∉ g.2.1) : Ext g (gset (gpush g q w) q v) := by
  refine ⟨rfl, fun a ha => ⟨List.mem_append.mpr (Or.inl ha), ?_⟩⟩
  have : a ≠ q := fun e => hq (e ▸ ha)
  show va_up (va_up g.2.2 q w) q v a = _
  rw [va_up_ne _ _ this, va_up_ne _ _ this]
theorem wd_at {K : Ev} {C : CS} {M : MS} {o : Nat → Int64} {g : Gh} {a : Nat} (ha : a ∈ g.2.1) : ∃ k : Nat, (wd K C M o g)[k]? = some (a, .inr (1, [.long (g.2.2 a).1, .long (g.2.2 a).2])) := va_pl_get (X := wx K C M o g.1) (f := frE g.2.2) ha
theorem wd_bs {K : Ev} {C : CS} {M : MS} {o : Nat → Int64} {g : Gh} {H : Heap} (hP : va_P K.1 vwCl (wd K C M o g) H) (hD : va_D (inA K) (wd K C M o g)) : K.2.2.2 ≤ H.size := by
  have h1 := hD.2 1 _ rfl
  have h2 := (hP 1 _ rfl).lt
  exact Nat.le_of_lt (Nat.lt_of_le_of_lt h1 h2)
/-- ends: an answer that is a fraction; an answer that isn't, fractions having come -/
def qF (K : Ev) (v : Int64 × Int64) (C : CS) (M : MS) (o : Nat → Int64) (g : Gh) (P : Prop) : Array Value → State → Outcome → State → Prop := fun _ st oc t => ∃ (a : Nat) (g' : Gh), oc = .returned (some (.ref a)) ∧ Ext g g' ∧ (a ∈ g'.2.1 ∧ g'.2.2 a = v) ∧ P ∧ va_P K.1 vwCl (wd K C M o g') t.heap ∧ va_D (inA K) (wd K C M o g') ∧ va_F (inA K) st t
def qN (K : Ev) (rv : Option Value) (C : CS) (M : MS) (o : Nat → Int64) (g : Gh) (P : Prop) : Array Value → State → Outcome → State → Prop := fun _ st oc t => ∃ g' : Gh, oc = .returned rv ∧ Ext g g' ∧ P ∧ va_P K.1 vwCl (wd K C M o g') t.heap ∧ va_D (inA K) (wd K C M o g') ∧ va_F (inA K) st t
def bd3 {α β γ δ : Type} (o : Option (α × β × γ)) (f : α → β → γ → Option δ) : Option δ := o.bind fun q => f q.1 q.2.1 q.2.2
theorem gn_bd3 {α β γ δ : Type} {o : Option (α × β × γ)} {f : α → β → γ → Option δ} {r : δ} (h : bd3 o f = some r) : ∃ a b c, o = some (a, b, c) ∧ f a b c = some r := by
  cases o with
  | none => cases h
  | some q => exact ⟨q.1, q.2.1, q.2.2, rfl, h⟩
section FCALL
variable {p : Program} {l : Launch} {e : Env} {R : Room} {s : State} {m : MethodId} {args : Array Value} {below : List Frame} {meth : Method} {c : Code} {H : Heap} {locs : List Loc} {cells slots : Nat} {Q : State → Prop}
variable {cc : ByteArray} {pc nL : Nat} {ls : Array Slot} {rest st0 : List Value} {own : String} {Ts : List Cond}
theorem back_ofX {ws : List Cond} {rm : Room} {Pc : Array Value → State → Prop} {Qc : Array Value → State → Outcome → State → Prop} {mc ms : Nat} {free : Addr → Prop} {bytes : ByteArray} {maxL : Nat} {ret : Option FieldType} {sargs : Array Value} {y : MethodName} {len W : Nat}
    (hM : Met l y ws rm Pc Qc mc ms free) (hblind : FrameBlind Pc) (hframes : rm.frames + 1 ≤ R.frames) (hlocals : W + (maxL + 11) + rm.locals ≤ R.locals)
    (hws : ∀ w ∈ ws, ∀ a' U, s.WarmedH U.vm → w.before a' U = true) (hcode : Cond.code y bytes maxL ret ∈ ws) (hinit : ∀ a' U, s.WarmedH U.vm → (Cond.initialized y.cls).before a' U = true) :
    Back l R p e below s sargs y len W (PreOf R rm.cells rm.slots Pc) (PostOf Qc mc ms free) := by
  refine Back.of_free (S := headSpec ws rm) (P := Pc) (K := fun _ _ _ _ _ => True) (Q := fun a st o t => Qc a st o t ∧ ∃ L, FrameEnd st o t L mc ms ∧ ∀ q ∈ L, free q.base) (bytes := bytes) (maxL := maxL) (ret := ret)
    (E := fun a st o t L k n => k = mc ∧ n = ms ∧ ∀ q ∈ L, free q.base) hM hframes hlocals ?_ ?_ (fun _ _ _ _ _ _ _ _ _ => trivial) ?_ ?_
  · intro m meth c A a X hp
    exact ⟨atoms_intro fun w hw => hws w hw _ _ X.warmed, hws _ hcode _ _ X.warmed, hinit _ _ X.warmed, hp.1, hp.2.1⟩
  · intro m meth c A a g mk X hp
    exact hblind _ _ _ _ hp.2.2
  · intro a st o t ⟨hq, L, hF, hL⟩
    exact ⟨L, mc, ms, hF, rfl, rfl, hL⟩
  · intro m meth c A a g mk v t L k n X hp hq hF ⟨e1, e2, hL⟩
    subst e1; subst e2
    exact ⟨g, mk, t, L, rfl, rfl, hq.1, rfl, hL, rfl, rfl⟩
theorem run_VX {y : MethodName} {bytes : ByteArray} {maxL mc ms n index : Nat} {ret : Option FieldType} {ws : List Cond} {rm : Room} {Pc : Array Value → State → Prop} {Qc : Array Value → State → Outcome → State → Prop} {free : Addr → Prop} {C : String} {b : Addr} {As : List Value} {g : JFrame}
    (S : CallFix p m c cc nL s args Ts own) (hM : Met l y ws rm Pc Qc mc ms free) (cw : CallW R s args own C index y bytes maxL ret ws rm rm.cells rm.slots n) (hp : PreV s H C b Pc As)
    (hg : g.method = m) (hn : As.length = n) (hsize : g.locals.size = nL) (hstack : g.stack = As.reverse ++ .ref b :: rest) (hW : 2 * g.monitorRoom + (rest.map fun v => v.category).sum ≤ 8) (hdg : decode cc g.pc = .ok (.invokevirtual index, 3)) (hf : cells + rm.cells ≤ R.cells ∧ slots + rm.slots ≤ R.slots) :
    va_Run p l e R s m args below meth c H locs cells slots mc ms g rest (Qc (Value.ref b :: As).toArray) (free) := by
  obtain ⟨⟨-, -, hfr, hlo, hws, hcw, hcode, hini, hy, hlen, hl⟩, hin, hse⟩ := cw
  have hK : Back l R p e below s args y 3 8 (PreOf R rm.cells rm.slots Pc) (PostOf Qc mc ms free) := back_ofX (bytes := bytes) (maxL := maxL) (ret := ret) hM hp.1 hfr hlo hws hcw (fun a' U hW => word_at hW (Or.inl (by first | rfl | simp [Cond.onTables, Cond.keeps, Cond.steady])) hini)
  obtain ⟨hx, hb, hml, ho, -⟩ := S
  obtain ⟨-, ⟨cellB, hcB, hoB, hclB⟩, hPc⟩ := hp
  intro T hT X
  obtain ⟨v, vm₁, ⟨U', l2, c2, s2⟩, hW₁, X', ⟨g', mk, t, L, e1, e2, hq, h1, hL, h2, h3⟩, st⟩ := callV X hx (C := C) (bytes := bytes) (maxL := maxL) (ret := ret) ho hl hin hse hcode hy hK (by rw [hT]; exact hcB) hoB hclB hg (hsize.trans hml.symm) (argsL := As) (rest := rest) (fun sig h => hn.trans (hlen sig h)) hstack hW (by rw [hb]; exact hdg)
    (fun vm₁ hW₁ => ⟨hf.1, hf.2, hPc (T.setVm vm₁) hT hW₁⟩)
  dsimp only [Pt.U, Pt.locs, Pt.cells, Pt.slots] at X' e1 e2 h1 h2 h3 st
  subst h1; subst h2; subst h3
  exact ⟨v, (T.setVm vm₁).calling g' mk (Value.ref b :: As).toArray, t, U', L, hT, X', hL, e1, e2, hq, st⟩
theorem run_SX {y : MethodName} {bytes : ByteArray} {maxL mc ms n index : Nat} {ret : Option FieldType} {ws : List Cond} {rm : Room} {Pc : Array Value → State → Prop} {Qc : Array Value → State → Outcome → State → Prop} {free : Addr → Prop} {As : List Value} {g : JFrame}
    (S : CallFix p m c cc nL s args Ts own) (hM : Met l y ws rm Pc Qc mc ms free) (cw : CallB R s args own index y bytes maxL ret ws rm rm.cells rm.slots n ∧ (Cond.static y).before args s = true) (hp : PreS s H Pc As)
    (hg : g.method = m) (hn : As.length = n) (hsize : g.locals.size = nL) (hstack : g.stack = As.reverse ++ rest) (hW : 2 * g.monitorRoom + (rest.map fun v => v.category).sum ≤ 8) (hdg : decode cc g.pc = .ok (.invokestatic index, 3)) (hf : cells + rm.cells ≤ R.cells ∧ slots + rm.slots ≤ R.slots) :
    va_Run p l e R s m args below meth c H locs cells slots mc ms g rest (Qc As.toArray) (free) := by
  obtain ⟨⟨-, -, hfr, hlo, hws, hcw, hcode, hini, hy, hlen, hl⟩, hstt⟩ := cw
  have hK : Back l R p e below s args y 3 8 (PreOf R rm.cells rm.slots Pc) (PostOf Qc mc ms free) := back_ofX (bytes := bytes) (maxL := maxL) (ret := ret) hM hp.1 hfr hlo hws hcw (fun a' U hW => word_at hW (Or.inl (by first | rfl | simp [Cond.onTables, Cond.keeps, Cond.steady])) hini)
  obtain ⟨hx, hb, hml, ho, -⟩ := S
  intro T hT X
  obtain ⟨v, vm₁, ⟨U', l2, c2, s2⟩, hW₁, X', ⟨g', mk, t, L, e1, e2, hq, h1, hL, h2, h3⟩, st⟩ := callS X hx (bytes := bytes) (maxL := maxL) (ret := ret) ho hl hstt hini hcode hy hK hg (hsize.trans hml.symm) (argsL := As) (rest := rest) (fun sig h => hn.trans (hlen sig h)) hstack hW (by rw [hb]; exact hdg)
    (fun vm₁ hW₁ => ⟨hf.1, hf.2, hp.2 (T.setVm vm₁) hT hW₁⟩)
  dsimp only [Pt.U, Pt.locs, Pt.cells, Pt.slots] at X' e1 e2 h1 h2 h3 st
  subst h1; subst h2; subst h3
  exact ⟨v, (T.setVm vm₁).calling g' mk As.toArray, t, U', L, hT, X', hL, e1, e2, hq, st⟩
/-- calls whose answer is a fraction -/
theorem fc_V {y : MethodName} {bytes : ByteArray} {maxL mc ms n index : Nat} {ret : Option FieldType} {ws : List Cond} {rm : Room} {av : List Value} {v : Int64 × Int64} {Cn : String} {b : Addr} {K : Ev} {C C' : CS} {M : MS} {o : Nat → Int64} {g : Gh} {P : Prop}
    (S : CallFix p m c cc nL s args Ts own) (N : NW s) (F : SF K s) (hK : va_K K.1 vwCl (tysOf K) s) (hP : va_P K.1 vwCl (wd K C M o g) H) (hD : va_D (inA K) (wd K C M o g)) (hS : va_S (inA K) s.heap H locs)
    (hM : Met l y ws rm (qH K (.ref b :: av) C M o g) (qF K v C' M o g P) mc ms (inA K)) (cw : CallW R s args own Cn index y bytes maxL ret ws rm rm.cells rm.slots n) (hrc : ∃ cell : Cell, H[b]? = some cell ∧ cell.vm.isStatics = false ∧ s.vm.findClass Cn = some cell.cls)
    (hn : av.length = n) (hsize : ls.size = nL) (hst : st0 = av.reverse ++ .ref b :: rest) (hW : (rest.map fun v => v.category).sum ≤ 8) (hdg : decode cc pc = .ok (.invokevirtual index, 3)) (hf : cells + rm.cells ≤ R.cells ∧ slots + rm.slots ≤ R.slots)
    (kk : ∀ (a : Nat) (g' : Gh) (H1 : Heap) (locs1 : List Loc), Ext g g' → (a ∈ g'.2.1 ∧ g'.2.2 a = v) → P → va_P K.1 vwCl (wd K C' M o g') H1 → va_D (inA K) (wd K C' M o g') → va_S (inA K) s.heap H1 locs1 → W p l e R s m args below meth c H1 locs1 (cells + mc) (slots + ms) Q (F0 m (pc + 3) ls (.ref a :: rest))) : W p l e R s m args below meth c H locs cells slots Q (F0 m pc ls st0) := by
  have hr := run_VX (H := H) (locs := locs) (cells := cells) (slots := slots) (below := below) (e := e) (meth := meth) (g := F0 m pc ls st0) (rest := rest) S hM cw ⟨qH.blind K _ C M o g, hrc, fun U hU hw => ⟨rfl, NW.warm hw N, by rw [hU]; exact hP, va_K.moved hw.alike hK, hD, SF.pass F hS hU hw⟩⟩ rfl hn hsize hst (lv_room hW) hdg hf
  intro T hT X
  obtain ⟨v, st₀, t, T', L, h0, X', hL, e1, e2, ⟨a, g', hv, hx1, ha, hp1, hP1, hD1, hF⟩, st⟩ := hr T hT X
  cases hv
  obtain ⟨t2, a1, b1⟩ := kk a g' T'.heap (locs ++ L) hx1 ha hp1 (by rw [e1]; exact hP1) hD1 (hs_join hS h0 e1 hF hL) T' rfl X'
  exact ⟨t2, st t2 a1, b1⟩
theorem fc_S {y : MethodName} {bytes : ByteArray} {maxL mc ms n index : Nat} {ret : Option FieldType} {ws : List Cond} {rm : Room} {av : List Value} {v : Int64 × Int64} {K : Ev} {C C' : CS} {M : MS} {o : Nat → Int64} {g : Gh} {P : Prop}
    (S : CallFix p m c cc nL s args Ts own) (N : NW s) (F : SF K s) (hK : va_K K.1 vwCl (tysOf K) s) (hP : va_P K.1 vwCl (wd K C M o g) H) (hD : va_D (inA K) (wd K C M o g)) (hS : va_S (inA K) s.heap H locs)
    (hM : Met l y ws rm (qH K av C M o g) (qF K v C' M o g P) mc ms (inA K)) (cw : CallB R s args own index y bytes maxL ret ws rm rm.cells rm.slots n ∧ (Cond.static y).before args s = true)
    (hn : av.length = n) (hsize : ls.size = nL) (hst : st0 = av.reverse ++ rest) (hW : (rest.map fun v => v.category).sum ≤ 8) (hdg : decode cc pc = .ok (.invokestatic index, 3)) (hf : cells + rm.cells ≤ R.cells ∧ slots + rm.slots ≤ R.slots)
    (kk : ∀ (a : Nat) (g' : Gh) (H1 : Heap) (locs1 : List Loc), Ext g g' → (a ∈ g'.2.1 ∧ g'.2.2 a = v) → P → va_P K.1 vwCl (wd K C' M o g') H1 → va_D (inA K) (wd K C' M o g') → va_S (inA K) s.heap H1 locs1 → W p l e R s m args below meth c H1 locs1 (cells + mc) (slots + ms) Q (F0 m (pc + 3) ls (.ref a :: rest))) : W p l e R s m args below meth c H locs cells slots Q (F0 m pc ls st0) := by
  have hr := run_SX (H := H) (locs := locs) (cells := cells) (slots := slots) (below := below) (e := e) (meth := meth) (g := F0 m pc ls st0) (rest := rest) S hM cw ⟨qH.blind K _ C M o g, fun U hU hw => ⟨rfl, NW.warm hw N, by rw [hU]; exact hP, va_K.moved hw.alike hK, hD, SF.pass F hS hU hw⟩⟩ rfl hn hsize hst (lv_room hW) hdg hf
  intro T hT X
  obtain ⟨v, st₀, t, T', L, h0, X', hL, e1, e2, ⟨a, g', hv, hx1, ha, hp1, hP1, hD1, hF⟩, st⟩ := hr T hT X
  cases hv
  obtain ⟨t2, a1, b1⟩ := kk a g' T'.heap (locs ++ L) hx1 ha hp1 (by rw [e1]; exact hP1) hD1 (hs_join hS h0 e1 hF hL) T' rfl X'
  exact ⟨t2, st t2 a1, b1⟩
/-- the constructor's call on a new fraction -/
theorem fc_I {y : MethodName} {bytes : ByteArray} {maxL n index : Nat} {ws : List Cond} {rm : Room} {av : List Value} {b : Addr} {K : Ev} {C : CS} {M : MS} {o : Nat → Int64} {g g' : Gh}
    (S : CallFix p m c cc nL s args Ts own) (N : NW s) (F : SF K s) (hK : va_K K.1 vwCl (tysOf K) s) (hP : va_P K.1 vwCl (wd K C M o g) H) (hD : va_D (inA K) (wd K C M o g)) (hS : va_S (inA K) s.heap H locs)
    (hM : Met l y ws rm (qH K (.ref b :: av) C M o g) (qR K none C M o g') 0 0 (inA K)) (cw : CallB R s args own index y bytes maxL none ws rm 0 0 n ∧ y.name = "<init>" ∧ (Cond.instanceMethod y).before args s = true)
    (hn : av.length = n) (hsize : ls.size = nL) (hst : st0 = av.reverse ++ .ref b :: rest) (hW : (rest.map fun v => v.category).sum ≤ 8) (hdg : decode cc pc = .ok (.invokespecial index, 3)) (hc : cells ≤ R.cells) (hs : slots ≤ R.slots)
    (kk : ∀ (H1 : Heap) (locs1 : List Loc), va_P K.1 vwCl (wd K C M o g') H1 → va_D (inA K) (wd K C M o g') → va_S (inA K) s.heap H1 locs1 → W p l e R s m args below meth c H1 locs1 cells slots Q (F0 m (pc + 3) ls rest)) : W p l e R s m args below meth c H locs cells slots Q (F0 m pc ls st0) := by
  have hr := va_runI (H := H) (locs := locs) (cells := cells) (slots := slots) (below := below) (e := e) (meth := meth) (g := F0 m pc ls st0) (rest := rest) S hM cw ⟨qH.blind K _ C M o g, fun U hU hw => ⟨rfl, NW.warm hw N, by rw [hU]; exact hP, va_K.moved hw.alike hK, hD, SF.pass F hS hU hw⟩⟩ rfl hn hsize hst (lv_room hW) hdg ⟨hc, hs⟩
  intro T hT X
  obtain ⟨v, st₀, t, T', L, h0, X', hL, e1, e2, ⟨hv, hP1, hD1, hF⟩, st⟩ := hr T hT X
  cases hv
  obtain ⟨t2, a1, b1⟩ := kk T'.heap (locs ++ L) (by rw [e1]; exact hP1) hD1 (hs_join hS h0 e1 hF hL) T' rfl X'
  exact ⟨t2, st t2 a1, b1⟩
theorem fr_get0 (hx : p.tables.exec = Jvm.exec) (hb : c.code = cc) {index : Nat} {K : Ev} {C : CS} {M : MS} {o : Nat → Int64} {g : Gh} {a : Nat} {u : Int64 × Int64} (hts : ∀ w ∈ Ts, w.before args s = true) (hin : ∀ w ∈ wsX10, w ∈ Ts) (hown : s.vm.findClass own = some m.cls) (hK : va_K K.1 vwCl (tysOf K) s) (hP : va_P K.1 vwCl (wd K C M o g) H) (ha : a ∈ g.2.1 ∧ g.2.2 a = u) (hlink : (Cond.fieldLink own index "SawSums$Fraction" "upper" "J").before args s = true) (hdg : decode cc pc = .ok (.getfield index, 3))
    (kk : W p l e R s m args below meth c H locs cells slots Q (F0 m (pc + 3) ls (.long u.1 :: rest))) : W p l e R s m args below meth c H locs cells slots Q (F0 m pc ls (.ref a :: rest)) := by
  obtain ⟨k, hk⟩ := wd_at (K := K) (C := C) (M := M) (o := o) ha.1
  rw [ha.2] at hk
  exact va_get (D := K.1) (ci := 1) (v := .long u.1) (C := RX1) (T := TX1) (N := 2) hx hb hts hin hown hK hP k hk rfl 0 (by decide) hlink (fun _ h9 => h9) rfl hdg kk
theorem fr_get1 (hx : p.tables.exec = Jvm.exec) (hb : c.code = cc) {index : Nat} {K : Ev} {C : CS} {M : MS} {o : Nat → Int64} {g : Gh} {a : Nat} {u : Int64 × Int64} (hts : ∀ w ∈ Ts, w.before args s = true) (hin : ∀ w ∈ wsX10, w ∈ Ts) (hown : s.vm.findClass own = some m.cls) (hK : va_K K.1 vwCl (tysOf K) s) (hP : va_P K.1 vwCl (wd K C M o g) H) (ha : a ∈ g.2.1 ∧ g.2.2 a = u) (hlink : (Cond.fieldLink own index "SawSums$Fraction" "lower" "J").before args s = true) (hdg : decode cc pc = .ok (.getfield index, 3))
    (kk : W p l e R s m args below meth c H locs cells slots Q (F0 m (pc + 3) ls (.long u.2 :: rest))) : W p l e R s m args below meth c H locs cells slots Q (F0 m pc ls (.ref a :: rest)) := by
  obtain ⟨k, hk⟩ := wd_at (K := K) (C := C) (M := M) (o := o) ha.1
  rw [ha.2] at hk
  exact va_get (D := K.1) (ci := 1) (v := .long u.2) (C := RX1) (T := TX1) (N := 2) hx hb hts hin hown hK hP k hk rfl 1 (by decide) hlink (fun _ h9 => h9) rfl hdg kk
theorem fr_recv {K : Ev} {C : CS} {M : MS} {o : Nat → Int64} {g : Gh} {a : Nat} {u : Int64 × Int64} (hK : va_K K.1 vwCl (tysOf K) s) (hP : va_P K.1 vwCl (wd K C M o g) H) (ha : a ∈ g.2.1 ∧ g.2.2 a = u) : ∃ cell : Cell, H[a]? = some cell ∧ cell.vm.isStatics = false ∧ s.vm.findClass RX1 = some cell.cls := by
  obtain ⟨k, hk⟩ := wd_at (K := K) (C := C) (M := M) (o := o) ha.1
  exact va_recv hK hP (ci := 1) (q := (RX1, TX1, 2)) rfl hk
theorem fr_new (hx : p.tables.exec = Jvm.exec) (hb : c.code = cc) {index : Nat} {K : Ev} {C : CS} {M : MS} {o : Nat → Int64} {g : Gh} (hts : ∀ w ∈ Ts, w.before args s = true) (hin : ∀ w ∈ wsX10, w ∈ Ts) (hown : s.vm.findClass own = some m.cls) (hcl : (Cond.classLink own index RX1).before args s = true) (hinst : (Cond.instantiable RX1 2).before args s = true) (hini : (Cond.initialized RX1).before args s = true)
    (hK : va_K K.1 vwCl (tysOf K) s) (hP : va_P K.1 vwCl (wd K C M o g) H) (hD : va_D (inA K) (wd K C M o g)) (hS : va_S (inA K) s.heap H locs) (hbs : K.2.2.2 ≤ s.heap.size) (hcells : cells + 1 ≤ R.cells) (hslots : slots + 2 ≤ R.slots) (hdg : decode cc pc = .ok (.new index, 3))
    (kk : ∀ (q : Nat) (H1 : Heap), q ∉ g.2.1 → va_P K.1 vwCl (wd K C M o (gpush g q (0, 0))) H1 → va_D (inA K) (wd K C M o (gpush g q (0, 0))) → va_S (inA K) s.heap H1 locs → W p l e R s m args below meth c H1 locs (cells + 1) (slots + 2) Q (F0 m (pc + 3) ls (.ref q :: rest))) : W p l e R s m args below meth c H locs cells slots Q (F0 m pc ls rest) := by
  refine va_new (ci := 1) (fs := [.long 0, .long 0]) (C := RX1) (T := TX1) (N := 2) hx hb hts hin tyX1 tyX1_ok hown hcl hinst hini hK hP hD hS (fun q h => Nat.le_trans hbs h) rfl (fun j hj => by rcases (show j = 0 ∨ j = 1 by omega) with rfl | rfl <;> rfl) hcells hslots hdg (fun q H1 hP1 hD1 hS1 => ?_)
  have hq : q ∉ g.2.1 := va_pl_fresh2 (X := wx K C M o g.1) (f := frE g.2.2) hD1
  rw [wd_push hq (0, 0)] at hP1 hD1
  exact kk q H1 hq hP1 hD1 hS1
theorem gpush_in {g : Gh} {q : Nat} {v : Int64 × Int64} : q ∈ (gpush g q v).2.1 ∧ (gpush g q v).2.2 q = v := ⟨List.mem_append.mpr (Or.inr List.mem_cons_self), va_up_self _ _ _⟩
theorem gpush_ext {g : Gh} {q : Nat} {v : Int64 × Int64} (hq : q ∉ g.2.1) : Ext g (gpush g q v) := ⟨rfl, fun a ha => ⟨List.mem_append.mpr (Or.inl ha), va_up_ne _ _ (fun e => hq (e ▸ ha))⟩⟩
theorem gset_in {g : Gh} {q : Nat} {v : Int64 × Int64} (hq : q ∈ g.2.1) : q ∈ (gset g q v).2.1 ∧ (gset g q v).2.2 q = v := ⟨hq, va_up_self _ _ _⟩
end FCALL
