/-! the law from its entry: what the statement gives of the start, the two objects, the out row, the loop -/
theorem st_K {b : Nat} {s : State} (hts : ∀ w ∈ lw_tbl, w.before #[Value.ref b] s = true) : ∃ (D : va_G) (cy : Nat → ClassId), va_K D vwCl (tysC cy) s := by
  obtain ⟨c0, i0, k0⟩ := u_known (C := RX0) (T := TX0) (N := 3) (n := 3) hts inX0 (hts (.instantiable RX0 3) (by decide +kernel))
  obtain ⟨c1, i1, k1⟩ := u_known (C := RX1) (T := TX1) (N := 2) (n := 2) hts inX1 (hts (.instantiable RX1 2) (by decide +kernel))
  obtain ⟨c2, i2, k2⟩ := u_known (C := RX2) (T := TX2) (N := 4) (n := 4) hts inX2 (hts (.instantiable RX2 4) (by decide +kernel))
  obtain ⟨c3, i3, k3⟩ := u_known (C := RX3) (T := TX3) (N := 8) (n := 8) hts inX3 (hts (.instantiable RX3 8) (by decide +kernel))
  obtain ⟨c4, i4, k4⟩ := u_known (C := RX4) (T := TX4) (N := 6) (n := 6) hts inX4 (hts (.instantiable RX4 6) (by decide +kernel))
  obtain ⟨c5, i5, k5⟩ := u_known (C := RX6) (T := TX6) (N := 9) (n := 9) hts inX6 (hts (.instantiable RX6 9) (by decide +kernel))
  obtain ⟨c6, i6, k6⟩ := u_known (C := RX7) (T := TX7) (N := 24) (n := 24) hts inX7 (hts (.instantiable RX7 24) (by decide +kernel))
  obtain ⟨a0, m0, p0, h0, g0, e0⟩ := Cond.arrayClass_spec (hts (.arrayClass .long) (by decide +kernel))
  obtain ⟨a1, m1, p1, h1, g1, e1⟩ := Cond.arrayClass_spec (hts (.arrayClass .byte) (by decide +kernel))
  obtain ⟨a2, m2, p2, h2, g2, e2⟩ := Cond.arrayClass_spec (hts (.arrayClass .int) (by decide +kernel))
  refine ⟨(fun k => [c0, c1, c2, c3, c4, c5, c6].getD k c0, fun k => [i0, i1, i2, i3, i4, i5, i6].getD k i0), fun k => [a0, a1, a2].getD k a0, ?_, ?_⟩
  · intro k q hq
    match k, hq with
    | 0, hq => cases hq; exact k0
    | 1, hq => cases hq; exact k1
    | 2, hq => cases hq; exact k2
    | 3, hq => cases hq; exact k3
    | 4, hq => cases hq; exact k4
    | 5, hq => cases hq; exact k5
    | 6, hq => cases hq; exact k6
    | k + 7, hq => simp at hq
  · intro k q hq
    match k, hq with
    | 0, hq => cases hq; exact ⟨fun n z => ⟨fun k h => (by cases h), m0, g0, p0, e0⟩, h0⟩
    | 1, hq => cases hq; exact ⟨fun n z => ⟨fun k h => (by cases h), m1, g1, p1, e1⟩, h1⟩
    | 2, hq => cases hq; exact ⟨fun n z => ⟨fun k h => (by cases h), m2, g2, p2, e2⟩, h2⟩
    | k + 3, hq => simp [tysC] at hq
theorem st_N {b : Nat} {s : State} (hts : ∀ w ∈ lw_tbl, w.before #[Value.ref b] s = true) : NW s := ⟨va_Nw.of rfl (hts (.methodLinkNest RX0 27 yX6_lies RX6) (by decide +kernel)), va_Nw.of rfl (hts (.methodLinkNest RX2 28 yX6_lies RX6) (by decide +kernel)), va_Nw.of rfl (hts (.fieldLinkNest RX6 146 RX2 "a" "I" RX6) (by decide +kernel)), va_Nw.of rfl (hts (.fieldLinkNest RX6 149 RX2 "b" "I" RX6) (by decide +kernel)), va_Nw.of rfl (hts (.fieldLinkNest RX6 152 RX2 "c" "I" RX6) (by decide +kernel)), va_Nw.of rfl (hts (.fieldLinkNest RX6 155 RX2 "d" "I" RX6) (by decide +kernel)), va_Nw.of rfl (hts (.fieldLinkNest RX6 235 RX3 "sawSums" "I" RX6) (by decide +kernel))⟩
def st_tm : Nat → Term := fun i => .string RX4 ([62, 68, 70].getD i 0)
theorem lt3 {P : Nat → Prop} (h0 : P 0) (h1 : P 1) (h2 : P 2) : ∀ i : Nat, i < 3 → P i := fun i hi => match i, hi with
  | 0, _ => h0
  | 1, _ => h1
  | 2, _ => h2
theorem st_S {b : Nat} {s : State} {A : Nat → Prop} (hA : ∀ a : Nat, a < s.heap.size → ¬ A a) (hgv : (Jvm.Cond.and given_1 narrow_1).before #[Value.ref b] s = true) : ∃ adK adV : Nat → Nat, vk_S 3 lenS bytS adK adV A s s.heap ∧ ∀ i : Nat, i < 3 → (st_tm i).eval #[Value.ref b] s none [] s = some (.ref (adK i)) := by
  have hg := flat_of_before _ hgv
  refine vk_Sof (tm := st_tm) (lt3 (by decide) (by decide) (by decide)) (lt3 (hg _ (by decide +kernel)) (hg _ (by decide +kernel)) (hg _ (by decide +kernel))) (lt3 (hg _ (by decide +kernel)) (hg _ (by decide +kernel)) (hg _ (by decide +kernel))) (lt3 (hg _ (by decide +kernel)) (hg _ (by decide +kernel)) (hg _ (by decide +kernel))) (lt3 (hg _ (by decide +kernel)) (hg _ (by decide +kernel)) (hg _ (by decide +kernel))) (lt3 ?_ (lt3 (hg _ (by decide +kernel)) (hg _ (by decide +kernel)) (hg _ (by decide +kernel))) (lt3 (hg _ (by decide +kernel)) (hg _ (by decide +kernel)) (hg _ (by decide +kernel)))) ?_ hA
  · intro j hj
    match j, hj with
    | 0, _ => exact hg _ (by decide +kernel)
    | j + 1, hj => exact absurd (show j + 1 < 1 from hj) (by omega)
  · intro i j hi hj hij
    match i, hi, j, hj with
    | 0, _, 0, _ => exact absurd rfl hij
    | 0, _, 1, _ => exact Or.inl (hg _ (by decide +kernel))
    | 0, _, 2, _ => exact Or.inl (hg _ (by decide +kernel))
    | 1, _, 0, _ => exact Or.inr (hg _ (by decide +kernel))
    | 1, _, 1, _ => exact absurd rfl hij
    | 1, _, 2, _ => exact Or.inl (hg _ (by decide +kernel))
    | 2, _, 0, _ => exact Or.inr (hg _ (by decide +kernel))
    | 2, _, 1, _ => exact Or.inr (hg _ (by decide +kernel))
    | 2, _, 2, _ => exact absurd rfl hij
    | i + 3, hi, _, _ => exact absurd hi (by omega)
    | _, _, j + 3, hj => exact absurd hj (by omega)
theorem st_M {b : Nat} {s : State} (hts : ∀ w ∈ lw_tbl, w.before #[Value.ref b] s = true) (hgv : (Jvm.Cond.and given_1 narrow_1).before #[Value.ref b] s = true) : ∃ a : Nat, vk_R RX6 160 "what is 0 to 3" a s := by
  have hg := flat_of_before _ hgv
  obtain ⟨a, c, cell, k, h1, -⟩ := Cond.exactly_spec (args := #[Value.ref b]) (first := s) (o := none) (s := s) (idx := []) (t := .string RX6 160) (cls := "java/lang/String") (hg _ (by decide +kernel))
  exact ⟨a, vk_R.of (hts (.stringRef RX6 160 "what is 0 to 3") (by decide +kernel)) h1⟩
theorem st_F {b : Nat} {s : State} {K : Ev} {adK adV : Nat → Nat} (hts : ∀ w ∈ lw_tbl, w.before #[Value.ref b] s = true) (hgv : (Jvm.Cond.and given_1 narrow_1).before #[Value.ref b] s = true) (hA : ∀ a : Nat, a < s.heap.size → ¬ inA K a) (hS : vk_S 3 lenS bytS adK adV (inA K) s s.heap) (hev : ∀ i : Nat, i < 3 → (st_tm i).eval #[Value.ref b] s none [] s = some (.ref (adK i))) (h1 : ∀ i : Nat, i < 3 → K.2.2.1 (20 + i) = adK i) (h2 : ∀ i : Nat, i < 3 → K.2.2.1 (30 + i) = adV i) : SF K s := by
  have hg := flat_of_before _ hgv
  refine ⟨⟨fun i hi => ?_, fun i j hi hj e => ?_⟩, va_Zof (hts (.laysStatic "java/lang/String" "COMPACT_STRINGS" "Z") (by decide +kernel)) (hts (.initialized "java/lang/String") (by decide +kernel)) (va_eqt (hg _ (by decide +kernel))) hA, va_Zqof (hts (.laysStatic "jdk/internal/util/Preconditions" "SIOOBE_FORMATTER" "Ljava/util/function/BiFunction;") (by decide +kernel)) (hts (.initialized "jdk/internal/util/Preconditions") (by decide +kernel)) (hg _ (by decide +kernel)) hA, ?_, ?_, ?_⟩
  · show va_O "java/lang/String" (K.2.2.1 (20 + i)) _ _ _ ∧ va_OF "java/lang/String" "coder" "B" (.int 0) (K.2.2.1 (20 + i)) _ _ _ ∧ va_OF "java/lang/String" "value" "[B" (.ref (K.2.2.1 (30 + i))) (K.2.2.1 (20 + i)) _ _ _ ∧ va_T .byte (K.2.2.1 (30 + i)) _ _ _ _ _
    rw [h1 i hi, h2 i hi]
    exact hS.1 i hi
  · have e : K.2.2.1 (20 + i) = K.2.2.1 (20 + j) := e
    rw [h1 i hi, h1 j hj] at e
    exact hS.2 i j hi hj e
  · exact vk_R.of (hts (.stringRef RX4 62 "s") (by decide +kernel)) (by rw [show K.2.2.1 20 = adK 0 from h1 0 (by decide)]; exact hev 0 (by decide))
  · exact vk_R.of (hts (.stringRef RX4 68 "saw") (by decide +kernel)) (by rw [show K.2.2.1 21 = adK 1 from h1 1 (by decide)]; exact hev 1 (by decide))
  · exact vk_R.of (hts (.stringRef RX4 70 "phi") (by decide +kernel)) (by rw [show K.2.2.1 22 = adK 2 from h1 2 (by decide)]; exact hev 2 (by decide))
theorem st_T {b : Nat} {s : State} {K : Ev} (hts : ∀ w ∈ lw_tbl, w.before #[Value.ref b] s = true) (hgv : (Jvm.Cond.and given_1 narrow_1).before #[Value.ref b] s = true) (hA : ∀ a : Nat, a < s.heap.size → ¬ inA K a) (hm : vk_R RX6 160 "what is 0 to 3" (K.2.2.1 23) s) : TF K s := by
  have hg := flat_of_before _ hgv
  exact ⟨hm, va_Nw.of rfl (hts (.declares ⟨"java/lang/RuntimeException", "<init>", "(Ljava/lang/String;)V"⟩) (by decide +kernel)), va_Nw.of rfl (hts (.declares ⟨"java/lang/Exception", "<init>", "(Ljava/lang/String;)V"⟩) (by decide +kernel)), va_Nw.of rfl (hts (.declares ⟨"java/lang/Throwable", "<init>", "(Ljava/lang/String;)V"⟩) (by decide +kernel)), va_Nw.of rfl (hts (.castable XN XN) (by decide +kernel)), vx_Zqof (hts (.laysStatic Bundle.tN "UNASSIGNED_STACK" Bundle.steD) (by decide +kernel)) (hts (.initialized Bundle.tN) (by decide +kernel)) (hg _ (by decide +kernel)) hA, vx_Zqof (hts (.laysStatic Bundle.tN "SUPPRESSED_SENTINEL" Bundle.listD) (by decide +kernel)) (hts (.initialized Bundle.tN) (by decide +kernel)) (hg _ (by decide +kernel)) hA⟩
def C00 : CS := (1, 0, 0, 1, fun _ => 0, fun _ => 0, 0, fun _ => 0, fun _ => 0, 0, 0, 0, 0, -1, 0, 0, 0, fun _ => 0, fun _ => 0, fun _ => 0, 0, 0)
def M00 : MS := (0, 0, 0, fun _ => 0, 1, 0, 0, 1, fun _ => 0, 0, 0, 0, 0, 0, 0, 0, 0, 0, 0, 0, fun _ => 0, fun _ => 0, 0, 1)
set_option maxHeartbeats 4000000 in
set_option maxRecDepth 100000 in
theorem lw_start (hok : ∀ (xs : Nat → Int32) (j : Nat), ∃ (z : Nat) (r : LSt), lawF z xs j 0 (C00, M00, (0, 1)) = some r) {p : Program} {e : Env} {s : State} {m : MethodId} {below : List Frame} {meth : Method} {c : Code} (l : Launch) (hflags : l.flags = flags0) {b L : Nat} {xs : Nat → Int32} (hL : L ≤ 3072) (C0 : lw_At p s m meth c b L xs) : W p l e room_1 s m #[Value.ref b] below meth c s.heap [] 0 0 (lw_Z below #[Value.ref b] s) (entryFrame m ([Value.ref b] : List Value).toArray 7) := by
  obtain ⟨hx, hb, hr, hml, hown0, hts0, hX, hbl, hlk, hgv⟩ := C0
  have hown : s.vm.findClass RL = some m.cls := hown0
  have hts : ∀ w ∈ wsL_law, w.before #[Value.ref b] s = true := fun w h => hts0 w (wsL_law_in w h)
  have hlt : l.stackTraces = false := by rw [Launch.stackTraces, hflags]; decide +kernel
  have hA : ∀ q : Nat, s.heap.size ≤ q → s.heap.size ≤ q := fun _ h => h
  have hB9 : ∀ a : Nat, a < s.heap.size → ¬ (s.heap.size ≤ a) := fun a h => Nat.not_le.mpr h
  obtain ⟨D, cy, hK⟩ := st_K hts0
  have hN : NW s := st_N hts0
  obtain ⟨adK, adV, hS3, hev⟩ := st_S (A := fun q => s.heap.size ≤ q) hB9 hgv
  obtain ⟨ms, hms⟩ := st_M hts0 hgv
  have hS : va_S (fun q => s.heap.size ≤ q) s.heap s.heap [] := va_S.rf
  have hP : va_P D vwCl [] s.heap := fun k q h => by simp at h
  have hD : va_D (fun q => s.heap.size ≤ q) [] := ⟨fun i j p q h => by simp at h, fun k q h => by simp at h⟩
  have hl := lv_entry ([.ref b]) (n := 7) (Nat.le_of_ble_eq_true rfl)
  rw [lg_entry_eq]
  generalize (lg_sl ([.ref b]) ++ List.replicate (7 - (lg_sl ([.ref b])).length) Slot.unset).toArray = ls at hl ⊢
  have hl : lv_has ls 7 [(0, .ref b)] := hl
  refine va_new (ci := 5) (fs := [.null, .null, .null, .null, .null, .int 0, .null, .int 0, .int 0]) (C := RX6) (T := TX6) (N := 9) hx hb hts inlX6 tyX6 tyX6_ok hown (hts (.classLink RL 8 RX6) (by decide +kernel)) (hts (.instantiable RX6 9) (by decide +kernel)) (hts (.initialized RX6) (by decide +kernel)) hK hP hD hS hA rfl (fun j hj => by rcases (show j = 0 ∨ j = 1 ∨ j = 2 ∨ j = 3 ∨ j = 4 ∨ j = 5 ∨ j = 6 ∨ j = 7 ∨ j = 8 by omega) with rfl | rfl | rfl | rfl | rfl | rfl | rfl | rfl | rfl <;> rfl) (Nat.le_of_ble_eq_true rfl) (Nat.le_of_ble_eq_true rfl) dL_law_0 (fun x H hP hD hS => ?_)
  refine W.widen (k := 1) (n := 9) (Nat.le_of_ble_eq_true rfl) (Nat.le_of_ble_eq_true rfl) ?_
  refine lv_dup hx hb dL_law_3 rfl ?_
  refine ji_I (rest := [.ref x]) ⟨hx, hb, hml, hown, hts⟩ hN hK hP hD hS (c_X6_init l D cy s.heap.size [] x) (cwI 0 hts gL_law_X6_init rfl rfl rfl (hts (.initialized RX6) (by decide +kernel)) (hts (.methodLink RL 15 yX6_init) (by decide +kernel)) (hts (.instanceMethod yX6_init) (by decide +kernel)) rfl (by decide +kernel) ⟨(Nat.le_of_ble_eq_true rfl), (Nat.le_of_ble_eq_true rfl)⟩) rfl hl.1 rfl (Nat.le_of_ble_eq_true rfl) dL_law_4 ⟨(Nat.le_of_ble_eq_true rfl), (Nat.le_of_ble_eq_true rfl)⟩ (fun w1 H locs hB hP hD hS => ?_)
  obtain ⟨q1, q2, q3, q4, q5, q6, q7, q8, q9, q10, q11, q12, q13, rfl⟩ := hB
  refine W.widen (k := 14) (n := 2737) (Nat.le_of_ble_eq_true rfl) (Nat.le_of_ble_eq_true rfl) ?_
  refine lv_astore_n (lv' := [(1, .ref x), (0, .ref b)]) hx hb dL_law_7 rfl hl (by decide) rfl (fun ls hl => ?_)
  refine va_new (ci := 6) (fs := [.int 0, .long 0, .long 0, .null, .long 0, .long 0, .long 0, .long 0, .null, .int 0, .int 0, .int 0, .int 0, .int 0, .int 0, .int 0, .int 0, .int 0, .int 0, .int 0, .null, .null, .long 0, .long 0]) (C := RX7) (T := TX7) (N := 24) hx hb hts inlX7 tyX7 tyX7_ok hown (hts (.classLink RL 16 RX7) (by decide +kernel)) (hts (.instantiable RX7 24) (by decide +kernel)) (hts (.initialized RX7) (by decide +kernel)) hK hP hD hS hA rfl (fun j hj => by rcases (show j = 0 ∨ j = 1 ∨ j = 2 ∨ j = 3 ∨ j = 4 ∨ j = 5 ∨ j = 6 ∨ j = 7 ∨ j = 8 ∨ j = 9 ∨ j = 10 ∨ j = 11 ∨ j = 12 ∨ j = 13 ∨ j = 14 ∨ j = 15 ∨ j = 16 ∨ j = 17 ∨ j = 18 ∨ j = 19 ∨ j = 20 ∨ j = 21 ∨ j = 22 ∨ j = 23 by omega) with rfl | rfl | rfl | rfl | rfl | rfl | rfl | rfl | rfl | rfl | rfl | rfl | rfl | rfl | rfl | rfl | rfl | rfl | rfl | rfl | rfl | rfl | rfl | rfl <;> rfl) (Nat.le_of_ble_eq_true rfl) (Nat.le_of_ble_eq_true rfl) dL_law_8 (fun y H hP hD hS => ?_)
  refine W.widen (k := 15) (n := 2761) (Nat.le_of_ble_eq_true rfl) (Nat.le_of_ble_eq_true rfl) ?_
  refine lv_dup hx hb dL_law_11 rfl ?_
  refine ji_I (rest := [.ref y]) ⟨hx, hb, hml, hown, hts⟩ hN hK hP hD hS (c_X7_init l D cy s.heap.size _ y) (cwI 0 hts gL_law_X7_init rfl rfl rfl (hts (.initialized RX7) (by decide +kernel)) (hts (.methodLink RL 18 yX7_init) (by decide +kernel)) (hts (.instanceMethod yX7_init) (by decide +kernel)) rfl (by decide +kernel) ⟨(Nat.le_of_ble_eq_true rfl), (Nat.le_of_ble_eq_true rfl)⟩) rfl hl.1 rfl (Nat.le_of_ble_eq_true rfl) dL_law_12 ⟨(Nat.le_of_ble_eq_true rfl), (Nat.le_of_ble_eq_true rfl)⟩ (fun w1 H locs hB hP hD hS => ?_)
  obtain ⟨r1, r2, r3, r4, rfl⟩ := hB
  refine W.widen (k := 19) (n := 4661) (Nat.le_of_ble_eq_true rfl) (Nat.le_of_ble_eq_true rfl) ?_
  refine lv_astore_n (lv' := [(2, .ref y), (1, .ref x), (0, .ref b)]) hx hb dL_law_15 rfl hl (by decide) rfl (fun ls hl => ?_)
  refine lv_iconst (v := (1 : Int32)) hx hb dL_law_16 (by decide) ?_
  refine va_newa (atype := .long) hx hb (hts (.arrayClass .long) (by decide +kernel)) rfl hK hP hD hS hA (a0 := (1, .inr (.inl (fun _ => 0)))) (fun _ => rfl) (by decide) (by decide) (Nat.le_of_ble_eq_true rfl) (Nat.le_of_ble_eq_true rfl) (Nat.le_of_ble_eq_true rfl) dL_law_17 (fun u cA H hK1 hP hD hS => ?_)
  have ec : cA = cy 0 := Option.some.inj ((va_nm_long (hK1.2 3 _ rfl).2).symm.trans (va_nm_long (hK.2 0 _ rfl).2))
  subst ec
  refine W.widen (k := 20) (n := 4662) (Nat.le_of_ble_eq_true rfl) (Nat.le_of_ble_eq_true rfl) ?_
  refine lv_astore_n (lv' := [(3, .ref u), (2, .ref y), (1, .ref x), (0, .ref b)]) hx hb dL_law_19 rfl hl (by decide) rfl (fun ls hl => ?_)
  refine lv_iconst (v := (0 : Int32)) hx hb dL_law_20 (by decide) ?_
  refine lv_istore (lv' := [(4, .int 0), (3, .ref u), (2, .ref y), (1, .ref x), (0, .ref b)]) hx hb dL_law_21 hl (by decide) rfl (fun ls hl => ?_)
  obtain ⟨ad, had⟩ : ∃ ad : Nat → Nat, ad = fun i => [x, q1, q2, q3, q4, q5, q6, q7, q8, q9, q10, q11, y, r1, r2, r3, r4, u, q12, 0, adK 0, adK 1, adK 2, ms, 0, 0, 0, 0, 0, 0, adV 0, adV 1, adV 2].getD i 0 := ⟨_, rfl⟩
  have hP2 : va_P D vwCl (wd (D, cy, ad, s.heap.size) C00 M00 (fun _ => 0) (q13, [q12, q13], fun _ => (0, 1))) H := by subst had; exact hP.sub [0, 1, 2, 3, 4, 5, 6, 7, 8, 9, 10, 11, 14, 15, 16, 17, 18, 19, 12, 13] rfl
  have hD2 : va_D (fun q => s.heap.size ≤ q) (wd (D, cy, ad, s.heap.size) C00 M00 (fun _ => 0) (q13, [q12, q13], fun _ => (0, 1))) := by subst had; exact hD.sub [0, 1, 2, 3, 4, 5, 6, 7, 8, 9, 10, 11, 14, 15, 16, 17, 18, 19, 12, 13] (by decide) rfl
  have hF : SF (D, cy, ad, s.heap.size) s := st_F hts0 hgv hB9 hS3 hev (lt3 (by subst had; rfl) (by subst had; rfl) (by subst had; rfl)) (lt3 (by subst had; rfl) (by subst had; rfl) (by subst had; rfl))
  have e23 : ad 23 = ms := by subst had; rfl
  have hms' : vk_R RX6 160 "what is 0 to 3" (ad 23) s := by rw [e23]; exact hms
  have hT : TF (D, cy, ad, s.heap.size) s := st_T hts0 hgv hB9 hms'
  have hG : Gi (D, cy, ad, s.heap.size) (q13, [q12, q13], fun _ => (0, 1)) (0, 1) := by
    have e : ad 18 = q12 := by subst had; rfl
    refine ⟨⟨?_, rfl⟩, ?_, rfl⟩
    · show ad 18 ∈ [q12, q13]
      rw [e]; exact List.mem_cons_self
    · show q13 ∈ [q12, q13]
      exact List.mem_cons_of_mem _ List.mem_cons_self
  obtain ⟨z, ⟨C', M', lt'⟩, hz⟩ := hok xs (L / 6)
  have hA9 : LC p s m meth c b L xs (D, cy, ad, s.heap.size) := ⟨⟨hx, hb, hml, hown, hts⟩, hN, hF, hT, hK, hX, hbl, hB9 b hbl⟩
  refine lw_loop hlt hA9 hL hr hlk rfl (L / 6) (n := 0) (by omega) (by omega) (by omega) hG hP2 hD2 hS hz ?_
  have e0 : ad 0 = x := by subst had; rfl
  have e1 : ad 12 = y := by subst had; rfl
  have e2 : ad 17 = u := by subst had; rfl
  show lv_has ls 7 [(0, .ref b), (1, .ref (ad 0)), (2, .ref (ad 12)), (3, .ref (ad 17)), (4, .int (Int32.ofNat 0))]
  rw [e0, e1, e2]
  exact lv_sub hl [4, 3, 2, 1, 0] rfl
