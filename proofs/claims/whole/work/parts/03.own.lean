/-! own rows: equations of partial functions read step by step, calls of methods that touch no cell -/
theorem gn_bd {α β : Type} {o : Option α} {f : α → Option β} {r : β} (h : o.bind f = some r) : ∃ x, o = some x ∧ f x = some r := by
  cases o with
  | none => cases h
  | some x => exact ⟨x, rfl, h⟩
def bd2 {α β γ : Type} (o : Option (α × β)) (f : α → β → Option γ) : Option γ := o.bind fun q => f q.1 q.2
theorem gn_bd2 {α β γ : Type} {o : Option (α × β)} {f : α → β → Option γ} {r : γ} (h : bd2 o f = some r) : ∃ a b, o = some (a, b) ∧ f a b = some r := by
  cases o with
  | none => cases h
  | some q => exact ⟨q.1, q.2, rfl, h⟩
theorem gn_nm {α β : Type} {x : α} {f : α → Option β} {r : β} (h : (some x).bind f = some r) : ∃ y, y = x ∧ f y = some r := ⟨x, rfl, h⟩
theorem gn_nz {β : Type} {q : Prop} [Decidable q] {A : Option β} {r : β} (h : (if q then none else A) = some r) : ¬ q ∧ A = some r := by
  by_cases g : q
  · rw [if_pos g] at h; cases h
  · rw [if_neg g] at h; exact ⟨g, h⟩
theorem gn_yz {β : Type} {q : Prop} [Decidable q] {A : Option β} {r : β} (h : (if q then A else none) = some r) : q ∧ A = some r := by
  by_cases g : q
  · rw [if_pos g] at h; exact ⟨g, h⟩
  · rw [if_neg g] at h; cases h
theorem gn_t {β : Type} {q : Prop} [Decidable q] {A B : Option β} {r : β} (h : (if q then A else B) = some r) (g : q) : A = some r := by
  rw [if_pos g] at h; exact h
theorem gn_f {β : Type} {q : Prop} [Decidable q] {A B : Option β} {r : β} (h : (if q then A else B) = some r) (g : ¬ q) : B = some r := by
  rw [if_neg g] at h; exact h
theorem gn_some {β : Type} {x r : β} (h : (some x : Option β) = some r) : x = r := Option.some.inj h
/-- an index within a row of n places -/
def ib (i : Int32) (n : Nat) : Bool := decide (0 ≤ i.toInt) && decide (i.toInt < (n : Int))
theorem ib_in {i : Int32} {n : Nat} (h : ib i n = true) : vp_in i n := by
  rw [vp_in_iff]
  simpa [ib] using h
/-- a number that a boolean may be -/
def nb (r : Int32) : Bool := decide (r = 0) || decide (r = 1)
theorem nb_ok {r : Int32} (h : nb r = true) : narrow .boolean (.int r) = .int r := by
  simp [nb] at h
  rcases h with rfl | rfl <;> rfl
theorem tsw_out_3 {x : Int32} (h0 : ¬ x = (0 : Int32)) (h1 : ¬ x = (1 : Int32)) (h2 : ¬ x = (2 : Int32)) : x.toInt < 0 ∨ 2 < x.toInt := by
  have g0 : ¬ x.toInt = 0 := fun q => h0 (Int32.toInt_inj.mp q)
  have g1 : ¬ x.toInt = 1 := fun q => h1 (Int32.toInt_inj.mp q)
  have g2 : ¬ x.toInt = 2 := fun q => h2 (Int32.toInt_inj.mp q)
  omega
theorem tsw_out_4 {x : Int32} (h0 : ¬ x = (0 : Int32)) (h1 : ¬ x = (1 : Int32)) (h2 : ¬ x = (2 : Int32)) (h3 : ¬ x = (3 : Int32)) : x.toInt < 0 ∨ 3 < x.toInt := by
  have g0 : ¬ x.toInt = 0 := fun q => h0 (Int32.toInt_inj.mp q)
  have g1 : ¬ x.toInt = 1 := fun q => h1 (Int32.toInt_inj.mp q)
  have g2 : ¬ x.toInt = 2 := fun q => h2 (Int32.toInt_inj.mp q)
  have g3 : ¬ x.toInt = 3 := fun q => h3 (Int32.toInt_inj.mp q)
  omega
theorem tsw_out_32 {x : Int32} (h0 : ¬ x = (0 : Int32)) (h1 : ¬ x = (1 : Int32)) (h2 : ¬ x = (2 : Int32)) (h3 : ¬ x = (3 : Int32)) (h4 : ¬ x = (4 : Int32)) (h5 : ¬ x = (5 : Int32)) (h6 : ¬ x = (6 : Int32)) (h7 : ¬ x = (7 : Int32)) (h8 : ¬ x = (8 : Int32)) (h9 : ¬ x = (9 : Int32)) (h10 : ¬ x = (10 : Int32)) (h11 : ¬ x = (11 : Int32)) (h12 : ¬ x = (12 : Int32)) (h13 : ¬ x = (13 : Int32)) (h14 : ¬ x = (14 : Int32)) (h15 : ¬ x = (15 : Int32)) (h16 : ¬ x = (16 : Int32)) (h17 : ¬ x = (17 : Int32)) (h18 : ¬ x = (18 : Int32)) (h19 : ¬ x = (19 : Int32)) (h20 : ¬ x = (20 : Int32)) (h21 : ¬ x = (21 : Int32)) (h22 : ¬ x = (22 : Int32)) (h23 : ¬ x = (23 : Int32)) (h24 : ¬ x = (24 : Int32)) (h25 : ¬ x = (25 : Int32)) (h26 : ¬ x = (26 : Int32)) (h27 : ¬ x = (27 : Int32)) (h28 : ¬ x = (28 : Int32)) (h29 : ¬ x = (29 : Int32)) (h30 : ¬ x = (30 : Int32)) (h31 : ¬ x = (31 : Int32)) : x.toInt < 0 ∨ 31 < x.toInt := by
  have g0 : ¬ x.toInt = 0 := fun q => h0 (Int32.toInt_inj.mp q)
  have g1 : ¬ x.toInt = 1 := fun q => h1 (Int32.toInt_inj.mp q)
  have g2 : ¬ x.toInt = 2 := fun q => h2 (Int32.toInt_inj.mp q)
  have g3 : ¬ x.toInt = 3 := fun q => h3 (Int32.toInt_inj.mp q)
  have g4 : ¬ x.toInt = 4 := fun q => h4 (Int32.toInt_inj.mp q)
  have g5 : ¬ x.toInt = 5 := fun q => h5 (Int32.toInt_inj.mp q)
  have g6 : ¬ x.toInt = 6 := fun q => h6 (Int32.toInt_inj.mp q)
  have g7 : ¬ x.toInt = 7 := fun q => h7 (Int32.toInt_inj.mp q)
  have g8 : ¬ x.toInt = 8 := fun q => h8 (Int32.toInt_inj.mp q)
  have g9 : ¬ x.toInt = 9 := fun q => h9 (Int32.toInt_inj.mp q)
  have g10 : ¬ x.toInt = 10 := fun q => h10 (Int32.toInt_inj.mp q)
  have g11 : ¬ x.toInt = 11 := fun q => h11 (Int32.toInt_inj.mp q)
  have g12 : ¬ x.toInt = 12 := fun q => h12 (Int32.toInt_inj.mp q)
  have g13 : ¬ x.toInt = 13 := fun q => h13 (Int32.toInt_inj.mp q)
  have g14 : ¬ x.toInt = 14 := fun q => h14 (Int32.toInt_inj.mp q)
  have g15 : ¬ x.toInt = 15 := fun q => h15 (Int32.toInt_inj.mp q)
  have g16 : ¬ x.toInt = 16 := fun q => h16 (Int32.toInt_inj.mp q)
  have g17 : ¬ x.toInt = 17 := fun q => h17 (Int32.toInt_inj.mp q)
  have g18 : ¬ x.toInt = 18 := fun q => h18 (Int32.toInt_inj.mp q)
  have g19 : ¬ x.toInt = 19 := fun q => h19 (Int32.toInt_inj.mp q)
  have g20 : ¬ x.toInt = 20 := fun q => h20 (Int32.toInt_inj.mp q)
  have g21 : ¬ x.toInt = 21 := fun q => h21 (Int32.toInt_inj.mp q)
  have g22 : ¬ x.toInt = 22 := fun q => h22 (Int32.toInt_inj.mp q)
  have g23 : ¬ x.toInt = 23 := fun q => h23 (Int32.toInt_inj.mp q)
  have g24 : ¬ x.toInt = 24 := fun q => h24 (Int32.toInt_inj.mp q)
  have g25 : ¬ x.toInt = 25 := fun q => h25 (Int32.toInt_inj.mp q)
  have g26 : ¬ x.toInt = 26 := fun q => h26 (Int32.toInt_inj.mp q)
  have g27 : ¬ x.toInt = 27 := fun q => h27 (Int32.toInt_inj.mp q)
  have g28 : ¬ x.toInt = 28 := fun q => h28 (Int32.toInt_inj.mp q)
  have g29 : ¬ x.toInt = 29 := fun q => h29 (Int32.toInt_inj.mp q)
  have g30 : ¬ x.toInt = 30 := fun q => h30 (Int32.toInt_inj.mp q)
  have g31 : ¬ x.toInt = 31 := fun q => h31 (Int32.toInt_inj.mp q)
  omega
/-- the links between nest mates -/
def NW (U : State) : Prop := va_Nw (.methodLinkNest RX0 27 yX6_lies RX6) U ∧ va_Nw (.methodLinkNest RX2 28 yX6_lies RX6) U ∧ va_Nw (.fieldLinkNest RX6 146 RX2 "a" "I" RX6) U ∧ va_Nw (.fieldLinkNest RX6 149 RX2 "b" "I" RX6) U ∧ va_Nw (.fieldLinkNest RX6 152 RX2 "c" "I" RX6) U ∧ va_Nw (.fieldLinkNest RX6 155 RX2 "d" "I" RX6) U ∧ va_Nw (.fieldLinkNest RX6 235 RX3 "sawSums" "I" RX6) U
theorem NW.same {u U : State} (h : u.vm = U.vm) (g : NW u) : NW U := ⟨va_Nw.same rfl h g.1, va_Nw.same rfl h g.2.1, va_Nw.same rfl h g.2.2.1, va_Nw.same rfl h g.2.2.2.1, va_Nw.same rfl h g.2.2.2.2.1, va_Nw.same rfl h g.2.2.2.2.2.1, va_Nw.same rfl h g.2.2.2.2.2.2⟩
theorem NW.warm {s U : State} (h : s.WarmedH U.vm) (g : NW s) : NW U := ⟨va_Nw.warmM h g.1, va_Nw.warmM h g.2.1, va_Nw.warmF h g.2.2.1, va_Nw.warmF h g.2.2.2.1, va_Nw.warmF h g.2.2.2.2.1, va_Nw.warmF h g.2.2.2.2.2.1, va_Nw.warmF h g.2.2.2.2.2.2⟩
/-- start and end of a method that touches no cell -/
def qA (av : List Value) : Array Value → State → Prop := fun v U => v = av.toArray ∧ NW U
def qP (rv : Value) : Array Value → State → Outcome → State → Prop := fun _ st oc t => oc = .returned (some rv) ∧ t.heap = st.heap
theorem qA.blind (av : List Value) : FrameBlind (qA av) := fun _ _ _ _ h => ⟨h.1, NW.same rfl h.2⟩
/-- where a method's body stands: the machine, its code, its class, its words -/
def Cx (p : Program) (s : State) (m : MethodId) (args : Array Value) (meth : Method) (c : Code) (cc : ByteArray) (nL : Nat) (own : String) (Ts : List Cond) (ret : Option FieldType) : Prop :=
  p.tables.exec = Jvm.exec ∧ c.code = cc ∧ c.maxLocals = nL ∧ s.vm.findClass own = some m.cls ∧ (∀ w ∈ Ts, w.before args s = true) ∧ meth.sig.returnType = ret ∧ meth.locks = false ∧ NW s
section OWN
variable {p : Program} {l : Launch} {e : Env} {R : Room} {s : State} {m : MethodId} {args : Array Value} {below : List Frame} {meth : Method} {c : Code} {H : Heap} {locs : List Loc} {cells slots : Nat} {Q : State → Prop}
variable {cc : ByteArray} {pc nL : Nat} {ls : Array Slot} {rest st0 : List Value} {own : String} {Ts : List Cond}
theorem ln_i {x y : Int32} (h : y = x) (k : W p l e R s m args below meth c H locs cells slots Q (F0 m pc ls (.int y :: rest))) : W p l e R s m args below meth c H locs cells slots Q (F0 m pc ls (.int x :: rest)) := by
  rw [← h]; exact k
theorem ln_l {x y : Int64} (h : y = x) (k : W p l e R s m args below meth c H locs cells slots Q (F0 m pc ls (.long y :: rest))) : W p l e R s m args below meth c H locs cells slots Q (F0 m pc ls (.long x :: rest)) := by
  rw [← h]; exact k
theorem ll_lt (hx : p.tables.exec = Jvm.exec) (hb : c.code = cc) {x y : Int64} {off : Int} {tgt : Nat} (d1 : decode cc pc = .ok (.lcmp, 1)) (d2 : decode cc (pc + 1) = .ok (.ifCond .lt off, 3)) (ht : ((pc + 1 : Nat) : Int) + off = (tgt : Int))
    (kt : x < y → W p l e R s m args below meth c H locs cells slots Q (F0 m tgt ls rest)) (kf : ¬ x < y → W p l e R s m args below meth c H locs cells slots Q (F0 m (pc + 4) ls rest)) : W p l e R s m args below meth c H locs cells slots Q (F0 m pc ls (.long y :: .long x :: rest)) :=
  W.lcmp hx hb d1 (lv_if_lt hx hb d2 ht (fun g => kt ((lg_cmp_lt x y).mp g)) (fun g => kf (fun q => g ((lg_cmp_lt x y).mpr q))))
theorem ll_ge (hx : p.tables.exec = Jvm.exec) (hb : c.code = cc) {x y : Int64} {off : Int} {tgt : Nat} (d1 : decode cc pc = .ok (.lcmp, 1)) (d2 : decode cc (pc + 1) = .ok (.ifCond .ge off, 3)) (ht : ((pc + 1 : Nat) : Int) + off = (tgt : Int))
    (kt : y ≤ x → W p l e R s m args below meth c H locs cells slots Q (F0 m tgt ls rest)) (kf : ¬ y ≤ x → W p l e R s m args below meth c H locs cells slots Q (F0 m (pc + 4) ls rest)) : W p l e R s m args below meth c H locs cells slots Q (F0 m pc ls (.long y :: .long x :: rest)) :=
  W.lcmp hx hb d1 (lv_if_ge hx hb d2 ht (fun g => kt ((lg_cmp_ge x y).mp g)) (fun g => kf (fun q => g ((lg_cmp_ge x y).mpr q))))
theorem ll_gt (hx : p.tables.exec = Jvm.exec) (hb : c.code = cc) {x y : Int64} {off : Int} {tgt : Nat} (d1 : decode cc pc = .ok (.lcmp, 1)) (d2 : decode cc (pc + 1) = .ok (.ifCond .gt off, 3)) (ht : ((pc + 1 : Nat) : Int) + off = (tgt : Int))
    (kt : y < x → W p l e R s m args below meth c H locs cells slots Q (F0 m tgt ls rest)) (kf : ¬ y < x → W p l e R s m args below meth c H locs cells slots Q (F0 m (pc + 4) ls rest)) : W p l e R s m args below meth c H locs cells slots Q (F0 m pc ls (.long y :: .long x :: rest)) :=
  W.lcmp hx hb d1 (lv_if_gt hx hb d2 ht (fun g => kt ((lg_cmp_gt x y).mp g)) (fun g => kf (fun q => g ((lg_cmp_gt x y).mpr q))))
theorem ll_le (hx : p.tables.exec = Jvm.exec) (hb : c.code = cc) {x y : Int64} {off : Int} {tgt : Nat} (d1 : decode cc pc = .ok (.lcmp, 1)) (d2 : decode cc (pc + 1) = .ok (.ifCond .le off, 3)) (ht : ((pc + 1 : Nat) : Int) + off = (tgt : Int))
    (kt : x ≤ y → W p l e R s m args below meth c H locs cells slots Q (F0 m tgt ls rest)) (kf : ¬ x ≤ y → W p l e R s m args below meth c H locs cells slots Q (F0 m (pc + 4) ls rest)) : W p l e R s m args below meth c H locs cells slots Q (F0 m pc ls (.long y :: .long x :: rest)) :=
  W.lcmp hx hb d1 (lv_if_le hx hb d2 ht (fun g => kt ((lg_cmp_le x y).mp g)) (fun g => kf (fun q => g ((lg_cmp_le x y).mpr q))))
theorem ll_eq (hx : p.tables.exec = Jvm.exec) (hb : c.code = cc) {x y : Int64} {off : Int} {tgt : Nat} (d1 : decode cc pc = .ok (.lcmp, 1)) (d2 : decode cc (pc + 1) = .ok (.ifCond .eq off, 3)) (ht : ((pc + 1 : Nat) : Int) + off = (tgt : Int))
    (kt : x = y → W p l e R s m args below meth c H locs cells slots Q (F0 m tgt ls rest)) (kf : ¬ x = y → W p l e R s m args below meth c H locs cells slots Q (F0 m (pc + 4) ls rest)) : W p l e R s m args below meth c H locs cells slots Q (F0 m pc ls (.long y :: .long x :: rest)) :=
  W.lcmp hx hb d1 (lv_if_eq hx hb d2 ht (fun g => kt ((lg_cmp_eq x y).mp g)) (fun g => kf (fun q => g ((lg_cmp_eq x y).mpr q))))
theorem ll_ne (hx : p.tables.exec = Jvm.exec) (hb : c.code = cc) {x y : Int64} {off : Int} {tgt : Nat} (d1 : decode cc pc = .ok (.lcmp, 1)) (d2 : decode cc (pc + 1) = .ok (.ifCond .ne off, 3)) (ht : ((pc + 1 : Nat) : Int) + off = (tgt : Int))
    (kt : ¬ x = y → W p l e R s m args below meth c H locs cells slots Q (F0 m tgt ls rest)) (kf : x = y → W p l e R s m args below meth c H locs cells slots Q (F0 m (pc + 4) ls rest)) : W p l e R s m args below meth c H locs cells slots Q (F0 m pc ls (.long y :: .long x :: rest)) :=
  W.lcmp hx hb d1 (lv_if_ne hx hb d2 ht (fun g => kt (fun q => g ((lg_cmp_eq x y).mpr q))) (fun g => kf ((lg_cmp_eq x y).mp g)))
/-- a call of a static method that touches no cell -/
theorem pc_S {y : MethodName} {bytes : ByteArray} {maxL n index : Nat} {ret : Option FieldType} {ws : List Cond} {rm : Room} {av : List Value} {rv : Value} (S : CallFix p m c cc nL s args Ts own) (N : NW s) (hM : Met l y ws rm (qA av) (qP rv) 0 0 (fun _ => False)) (cw : CallB R s args own index y bytes maxL ret ws rm 0 0 n ∧ (Cond.static y).before args s = true)
    (hn : av.length = n) (hsize : ls.size = nL) (hst : st0 = av.reverse ++ rest) (hW : (rest.map fun v => v.category).sum ≤ 8) (hdg : decode cc pc = .ok (.invokestatic index, 3)) (hc : cells ≤ R.cells) (hs : slots ≤ R.slots)
    (kk : W p l e R s m args below meth c H locs cells slots Q (F0 m (pc + 3) ls (rv :: rest))) : W p l e R s m args below meth c H locs cells slots Q (F0 m pc ls st0) := by
  have hr := W.runS (H := H) (locs := locs) (cells := cells) (slots := slots) (below := below) (e := e) (meth := meth) (g := F0 m pc ls st0) (rest := rest) S hM cw ⟨qA.blind av, fun U _ hU => ⟨rfl, NW.warm hU N⟩⟩ rfl hn hsize hst (lv_room hW) hdg ⟨hc, hs⟩
  intro T hT X
  obtain ⟨v, st₀, t, T', L, h0, X', hL, e1, ⟨hv, hh⟩, st⟩ := hr T hT X
  cases hv
  obtain ⟨t2, a1, b1⟩ := kk T' (by rw [e1, hh, h0]) (Stand.forget X' (fun q h => (hL q h).elim))
  exact ⟨t2, st t2 a1, b1⟩
/-- the same, of a private method of a nest mate -/
theorem pc_SN {y : MethodName} {bytes : ByteArray} {maxL n index : Nat} {ret : Option FieldType} {ws : List Cond} {rm : Room} {av : List Value} {rv : Value} {host : String} (S : CallFix p m c cc nL s args Ts own) (N : NW s) (hM : Met l y ws rm (qA av) (qP rv) 0 0 (fun _ => False)) (cw : va_CN R s args own index y host bytes maxL ret ws rm 0 0 n ∧ (Cond.static y).before args s = true ∧ True)
    (hn : av.length = n) (hsize : ls.size = nL) (hst : st0 = av.reverse ++ rest) (hW : (rest.map fun v => v.category).sum ≤ 8) (hdg : decode cc pc = .ok (.invokestatic index, 3)) (hc : cells ≤ R.cells) (hs : slots ≤ R.slots)
    (kk : W p l e R s m args below meth c H locs cells slots Q (F0 m (pc + 3) ls (rv :: rest))) : W p l e R s m args below meth c H locs cells slots Q (F0 m pc ls st0) := by
  have hr := va_runSN (H := H) (locs := locs) (cells := cells) (slots := slots) (below := below) (e := e) (meth := meth) (g := F0 m pc ls st0) (rest := rest) S hM cw ⟨qA.blind av, fun U _ hU => ⟨rfl, NW.warm hU N⟩⟩ rfl hn hsize hst (lv_room hW) hdg ⟨hc, hs⟩
  intro T hT X
  obtain ⟨v, st₀, t, T', L, h0, X', hL, e1, e2, ⟨hv, hh⟩, st⟩ := hr T hT X
  cases hv
  obtain ⟨t2, a1, b1⟩ := kk T' (by rw [e1, hh, h0]) (Stand.forget X' (fun q h => (hL q h).elim))
  exact ⟨t2, st t2 a1, b1⟩
end OWN
