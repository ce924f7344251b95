/-! tell: FACTOR, TERM, SUM -/
theorem fac_ok {z : Nat} (hz : 400 ≤ z) {X : Tx} (hT : TxOk X) {c : KC} {m : KM} (hmx : Mx c m) {d : Nat} (hd2 : d < 30) {fC : FC} {fM : MS → Option MS} (H : HS X c m d fC fM) {C : CS} {M : MS} {i q o p n : Nat} {T D : Nat → Int64} (hL : Lv X c m C M i q o p T D) (ho : o ≤ 9) (hd : 11 ≤ d + 1 + o) (hn : n ≤ 2 * i) (hpi : p ≤ i) : ∃ u C' n' M', F_X3_readFactor z fC n (J o) C = some (u, C', n') ∧ F_X7_factor z fM M = some M' ∧ Po X c m (400 + 20 * (d + 1)) i o p n T D u C' n' M' := by
  have hX := hT.1
  obtain ⟨hi, hq, hp, x, b, s, hC, hM, hx⟩ := hL
  have hpp := (pos_ok hX i).1
  have hbb := bv_b X (pos X i)
  have htk : cg_token C = J (kd X (pos X i)) := hC.2.2.2.2.1
  have hh := here_ok hz hT hM.2.1 (by omega) hM.2.2.2.1
  rw [hp] at hh
  by_cases hk : kd X (pos X i) = 45
  · obtain ⟨e1, e2, e3, e4⟩ := step_c hX (a := 45) (by decide) (by decide) hk
    obtain ⟨C1, r1, r2⟩ := adv_live z hC (by omega)
    have L1 : Lv X c m C1 (ms_at M (J ((pos X i + 1 : Nat) : Int))) (i + 1) (pos X i + 1) o p T D := ⟨by omega, by omega, e4, x, b, s, r2, Ml_at hM rfl, hx⟩
    obtain ⟨u, C2, n2, M2, a1, a2, gu, i2, k1, k2, k3, k4⟩ := unit_ok hz hT hmx hd2 H L1 ho hd (n := n) (by omega) (by omega)
    obtain ⟨o1, o2⟩ := opp_gd (z := z) (by omega) gu
    have rf : F_X3_readFactor z fC n (J o) C = some ((-u.1, u.2), C2, n2 + 1) := by
      unfold F_X3_readFactor
      rw [if_pos (show cg_token C = 45 by rw [htk, hk]; rfl), r1, Option.bind_some, a1, bd3_some, if_pos (by omega), o1, Option.bind_some, Option.bind_some]
    have fr : ∀ M', (if mg_fault M2 = 0 then (if ib ((mg_piled M2) - (1 : Int32)) 300 = true then (if ib ((mg_piled M2) - (1 : Int32)) 300 = true then ((some (ms_tops M2 (vp_updL (mg_tops M2) (Int32.toNatClampNeg ((mg_piled M2) - (1 : Int32))) (-(mg_tops M2 (Int32.toNatClampNeg ((mg_piled M2) - (1 : Int32)))))))).bind fun S8 => some S8) else none) else none) else some M2) = some M' → F_X7_factor z fM M = some M' := by
      intro M' h
      unfold F_X7_factor
      rw [hh, bd2_some, if_pos (show J (bv X (pos X i)) = 45 by rw [e1]; rfl)]
      unfold G_X7_factor_14
      rw [if_neg n10]
      unfold G_X7_factor_29
      rw [Option.bind_some, Option.bind_some, p_at_at, p_at2, j1, J_add, show J ((pos X i : Int) + 1) = J ((pos X i + 1 : Nat) : Int) from rfl, a2, Option.bind_some, ← j1, if_neg n10]
      exact h
    rcases k4 with ⟨k5, k6, q5, T5, D5, ⟨l1', l2, l3, x5, b5, s5', l4, l5, l6⟩, m1, m2, m3⟩ | ⟨r, hr, hC3, hM5⟩
    · have pm : mg_piled M2 - 1 = J p := by rw [l5.2.2.2.2.2.1, j1, J_sub, show (((p + 1 : Nat) : Int)) - 1 = (p : Int) by omega]
      refine ⟨(-u.1, u.2), C2, n2 + 1, ms_tops M2 (vp_updL T5 p (-u.1)), rf, fr _ ?_, o2, i2, by omega, k2, by omega, Or.inl ⟨by omega, k6, q5, vp_updL T5 p (-u.1), D5, ⟨k2, l2, l3, x5, b5, s5', l4, Ml_tops l5 rfl, l6⟩, updL_at _ _ _, m2, fun j hj => ?_⟩⟩
      · rw [if_pos l5.2.2.1, pm, if_pos (ibJ (by omega) (by decide)), if_pos (ibJ (by omega) (by decide)), clampJ (by omega), l5.2.2.2.2.2.2.2.2.1, m1, Option.bind_some]
      · rw [updL_ne _ (by omega)]
        exact m3 j hj
    · refine ⟨(-u.1, u.2), C2, n2 + 1, M2, rf, fr _ ?_, Po_dead o2 (i' := i2) (by omega) k2 (by omega) hr hC3 hM5 (by omega)⟩
      rw [if_neg (show ¬ mg_fault M2 = 0 by rw [hM5.2.2.1]; exact hr)]
  · have L1 : Lv X c m C (ms_at M (J (pos X i))) i (pos X i) o p T D := ⟨hi, hpp, pos_past hX i, x, b, s, hC, Ml_at hM rfl, hx⟩
    obtain ⟨u, C2, n2, M2, a1, a2, a3⟩ := unit_ok hz hT hmx hd2 H L1 ho hd hn hpi
    refine ⟨u, C2, n2, M2, ?_, ?_, a3⟩
    · unfold F_X3_readFactor
      rw [if_neg (show ¬ cg_token C = 45 from fun g => hk ((tok htk (kd_b _ _) (a := 45) (by decide)).mp (g.trans rfl))), a1, bd3_some]
    · unfold F_X7_factor
      rw [hh, bd2_some, if_neg (show ¬ J (bv X (pos X i)) = 45 by rw [show (45 : Int32) = J 45 from rfl, J_eq ⟨by omega, by omega⟩ ⟨by decide, by decide⟩]; exact fun g => hk ((kd_c (by decide) (by decide)).mpr g))]
      unfold G_X7_factor_14
      rw [if_pos rfl]
      unfold G_X7_factor_29
      rw [Option.bind_some, Option.bind_some, p_at_at, p_at2, show J (pos X i : Int) + 0 = J (pos X i) by rw [j0, J_add, Int.add_zero], a2, Option.bind_some, if_pos rfl]
/-! two on the pile come together -/
theorem joins_live {z : Nat} {X : Tx} {m : KM} {M : MS} {q o p : Nat} {b s : Int32} {T D : Nat → Int64} (hM : Ml X m M q o (p + 1 + 1) b s T D) (hp : p + 1 < 300) (how w : Int32) : F_X7_joins z how w M = (if how = 42 then ((F_X7_lays z (T p * T (p + 1)) (D p * D (p + 1)) (ms_piled M (J p))).bind fun S => (F_X7_piles z w S).bind fun S' => some S') else if how = 43 then ((F_X7_lays z (T p * D (p + 1) + T (p + 1) * D p) (D p * D (p + 1)) (ms_piled M (J p))).bind fun S => (F_X7_piles z w S).bind fun S' => some S') else ((F_X7_lays z (T p * D (p + 1) - T (p + 1) * D p) (D p * D (p + 1)) (ms_piled M (J p))).bind fun S => (F_X7_piles z w S).bind fun S' => some S')) := by
  have pm : mg_piled M - 2 = J p := by rw [hM.2.2.2.2.2.1, j2, J_sub, show (((p + 1 + 1 : Nat) : Int)) - 2 = (p : Int) by omega]
  have pa : J (p : Int) + 1 = J ((p + 1 : Nat) : Int) := by rw [j1, J_add]; rfl
  have i1 : ib (J p) 300 = true := ibJ (by omega) (by decide)
  have i2 : ib (J ((p + 1 : Nat) : Int)) 300 = true := ibJ hp (by decide)
  unfold F_X7_joins
  rw [if_pos hM.2.2.1, pm, Option.bind_some, Option.bind_some, p_piled_piled, if_pos i1, Option.bind_some, if_pos i1, Option.bind_some, pa, if_pos i2, Option.bind_some, if_pos i2, Option.bind_some, clampJ (by omega), clampJ (by omega), p_tops_piled, p_bottoms_piled, hM.2.2.2.2.2.2.2.2.1, hM.2.2.2.2.2.2.2.2.2]
/-- loops: what holds behind them -/
def PoW (X : Tx) (c : KC) (m : KM) (b i o p n : Nat) (T D : Nat → Int64) (u : Int64 × Int64) (C' : CS) (n' : Nat) (M' : MS) : Prop := Gd u ∧ ∃ i' : Nat, i ≤ i' ∧ i' ≤ 300 ∧ n' + 2 * i ≤ n + 2 * i' ∧ ((p + 1 ≤ i' ∧ ∃ (q : Nat) (T' D' : Nat → Int64), Lv X c m C' M' i' q o (p + 1) T' D' ∧ T' p = u.1 ∧ D' p = u.2 ∧ ∀ j, j < p → T' j = T j ∧ D' j = D j) ∨ Dd X c m C' M' b)
theorem PoW_up {X : Tx} {c : KC} {m : KM} {B i o p n : Nat} {T D : Nat → Int64} {u : Int64 × Int64} {C' : CS} {n' : Nat} {M' : MS} {i1 n1 : Nat} {T1 D1 : Nat → Int64} (h : PoW X c m B i1 o p n1 T1 D1 u C' n' M') (hi : i ≤ i1) (hn : n1 + 2 * i ≤ n + 2 * i1) (hA : ∀ j, j < p → T1 j = T j ∧ D1 j = D j) : PoW X c m B i o p n T D u C' n' M' := by
  obtain ⟨h1, i', h2, h3, h4, h5⟩ := h
  refine ⟨h1, i', by omega, h3, by omega, ?_⟩
  rcases h5 with ⟨h6, q, T', D', h7, h8, h9, h10⟩ | g
  · refine Or.inl ⟨h6, q, T', D', h7, h8, h9, fun j hj => ?_⟩
    obtain ⟨a1, a2⟩ := h10 j hj
    obtain ⟨b1, b2⟩ := hA j hj
    exact ⟨a1.trans b1, a2.trans b2⟩
  · exact Or.inr g
theorem Po_W {X : Tx} {c : KC} {m : KM} {B i o p n : Nat} {T D : Nat → Int64} {u : Int64 × Int64} {C' : CS} {n' : Nat} {M' : MS} {i1 n1 : Nat} {T1 D1 : Nat → Int64} (h : PoW X c m B i1 o p n1 T1 D1 u C' n' M') (hi : i < i1) (hn : n1 + 2 * i ≤ n + 2 * i1) (hA : ∀ j, j < p → T1 j = T j ∧ D1 j = D j) : Po X c m B i o p n T D u C' n' M' := by
  obtain ⟨h1, i', h2, h3, h4, h5⟩ := h
  refine ⟨h1, i', by omega, h3, by omega, ?_⟩
  rcases h5 with ⟨h6, q, T', D', h7, h8, h9, h10⟩ | g
  · refine Or.inl ⟨by omega, h6, q, T', D', h7, h8, h9, fun j hj => ?_⟩
    obtain ⟨a1, a2⟩ := h10 j hj
    obtain ⟨b1, b2⟩ := hA j hj
    exact ⟨a1.trans b1, a2.trans b2⟩
  · exact Or.inr g
theorem term_loop {z : Nat} (hz : 400 ≤ z) {X : Tx} (hT : TxOk X) {c : KC} {m : KM} (hmx : Mx c m) {d : Nat} (hd2 : d < 30) {fC : FC} {fM : MS → Option MS} (H : HS X c m d fC fM) {o p : Nat} (ho : o ≤ 9) (hd : 11 ≤ d + 1 + o) (k : Nat) : ∀ (C : CS) (M : MS) (i q n l kc km : Nat) (u : Int64 × Int64) (T D : Nat → Int64), 301 - i ≤ k → Lv X c m C M i q o (p + 1) T D → Gd u → T p = u.1 → D p = u.2 → p + 1 ≤ i → n ≤ 2 * i → l ≤ i → k + 1 ≤ kc → k + 1 ≤ km → ∃ u' C' n' M', G_X3_readTerm_8 z fC kc n (J o) u (J l) C = some (u', C', n') ∧ G_X7_term_4 z fM km M = some M' ∧ PoW X c m (400 + 20 * (d + 1)) i o p n T D u' C' n' M' := by
  have hX := hT.1
  induction k with
  | zero =>
    intro C M i q n l kc km u T D h1 hL
    have := hL.1
    omega
  | succ k ih =>
    intro C M i q n l kc km u T D h1 hL gu tp dp hpi hn hl hkc hkm
    obtain ⟨hi, hq, hp, x, b, s, hC, hM, hx⟩ := hL
    obtain ⟨kc, rfl⟩ : ∃ y, kc = y + 1 := ⟨kc - 1, by omega⟩
    obtain ⟨km, rfl⟩ : ∃ y, km = y + 1 := ⟨km - 1, by omega⟩
    have hpp := (pos_ok hX i).1
    have hbb := bv_b X (pos X i)
    have htk : cg_token C = J (kd X (pos X i)) := hC.2.2.2.2.1
    have hh := here_ok hz hT hM.2.1 (by omega) hM.2.2.2.1
    rw [hp] at hh
    rw [e_X3_readTerm_8, e_X7_term_4, if_pos hM.2.2.1, hh, bd2_some]
    by_cases hk : kd X (pos X i) = 42
    · obtain ⟨e1, e2, e3, e4⟩ := step_c hX (a := 42) (by decide) (by decide) hk
      obtain ⟨C1, r1, r2⟩ := adv_live z hC (by omega)
      have L1 : Lv X c m C1 (ms_at M (J ((pos X i + 1 : Nat) : Int))) (i + 1) (pos X i + 1) o (p + 1) T D := ⟨by omega, by omega, e4, x, b, s, r2, Ml_at hM rfl, hx⟩
      obtain ⟨u2, C2, n2, M2, a1, a2, gu2, i2, k1, k2, k3, k4⟩ := fac_ok hz hT hmx hd2 H L1 ho hd (n := n) (by omega) (by omega)
      obtain ⟨a, e, f1, f2, f3, f4, f5, f6⟩ := prod_gd (z := z) (by omega) gu gu2
      rw [if_neg (show ¬ (300 : Int32) ≤ J l by rw [j300, J_le ⟨by decide, by decide⟩ ⟨by omega, by omega⟩]; omega), if_pos (show cg_token C = 42 by rw [htk, hk]; rfl), Option.bind_some, r1, Option.bind_some, a1, bd3_some, if_pos (by omega), f1, Option.bind_some, Option.bind_some, hC.2.2.2.1]
      rw [if_pos (show J (bv X (pos X i)) = 42 by rw [e1]; rfl), Option.bind_some, Option.bind_some, Option.bind_some, p_at_at, p_at2, j1, J_add, J_add, show J ((pos X i : Int) + 1) = J ((pos X i + 1 : Nat) : Int) from rfl, a2, Option.bind_some]
      rcases k4 with ⟨k5, k6, q5, T5, D5, ⟨l1', l2, l3, x5, b5, s5', l4, l5, l6⟩, m1, m2, m3⟩ | ⟨r, hr, hC3, hM5⟩
      · obtain ⟨t1, t2⟩ := m3 p (by omega)
        obtain ⟨w, C4, M6, x', b', y1, y2, y3, y4, y5, y6⟩ := bp z hX l4 (Ml_piled l5 (v := J p) rfl) l6 (j := i) (by omega) (by omega) f3 f4 f5 f6
        have jn : F_X7_joins z (42 : Int32) (J (pos X i)) M2 = some M6 := by
          rw [joins_live l5 (by omega), if_pos rfl, t1, t2, tp, dp, m1, m2, f2, Option.bind_some, y2, Option.bind_some]
        rw [y1, bd2_some, Option.bind_some, jn, Option.bind_some, show J ((l : Int) + 1) = J ((l + 1 : Nat) : Int) from rfl]
        obtain ⟨u', C', n', M', z1, z2, z3⟩ := ih C4 M6 i2 q5 (n2 + 1) (l + 1) kc km w _ _ (by omega) ⟨k2, l2, l3, x', b', s5', y4, y5, y6⟩ y3 (updL_at _ _ _) (updL_at _ _ _) (by omega) (by omega) (by omega) (by omega) (by omega)
        refine ⟨u', C', n', M', z1, z2, PoW_up z3 (by omega) (by omega) (fun j hj => ?_)⟩
        rw [updL_ne _ (by omega), updL_ne _ (by omega)]
        exact m3 j (by omega)
      · obtain ⟨w, C4, y1, y2, y3⟩ := bnd_dead z f3 f4 f5 f6 hC3 (j := i) (by omega)
        have hf : mg_fault M2 ≠ 0 := by rw [hM5.2.2.1]; exact hr
        obtain ⟨kc, rfl⟩ : ∃ y, kc = y + 1 := ⟨kc - 1, by omega⟩
        obtain ⟨km, rfl⟩ : ∃ y, km = y + 1 := ⟨km - 1, by omega⟩
        rw [y1, bd2_some, Option.bind_some, rterm8_dead z fC y3, joins_dead z hf, Option.bind_some, term4_dead z fM hf]
        exact ⟨w, C4, n2 + 1, M2, rfl, rfl, y2, i2, by omega, k2, by omega, Or.inr ⟨r, hr, y3, hM5⟩⟩
    · rw [if_neg (show ¬ cg_token C = 42 from fun g => hk ((tok htk (kd_b _ _) (a := 42) (by decide)).mp (g.trans rfl))), ite_self, if_neg (show ¬ J (bv X (pos X i)) = 42 by rw [show (42 : Int32) = J 42 from rfl, J_eq ⟨by omega, by omega⟩ ⟨by decide, by decide⟩]; exact fun g => hk ((kd_c (by decide) (by decide)).mpr g))]
      exact ⟨u, C, n, ms_at M (J (pos X i)), rfl, rfl, gu, i, Nat.le_refl _, hi, by omega, Or.inl ⟨hpi, pos X i, T, D, ⟨hi, hpp, pos_past hX i, x, b, s, hC, Ml_at hM rfl, hx⟩, tp, dp, fun j hj => ⟨rfl, rfl⟩⟩⟩
theorem term_ok {z : Nat} (hz : 400 ≤ z) {X : Tx} (hT : TxOk X) {c : KC} {m : KM} (hmx : Mx c m) {d : Nat} (hd2 : d < 30) {fC : FC} {fM : MS → Option MS} (H : HS X c m d fC fM) {C : CS} {M : MS} {i q o p n : Nat} {T D : Nat → Int64} (hL : Lv X c m C M i q o p T D) (ho : o ≤ 9) (hd : 11 ≤ d + 1 + o) (hn : n ≤ 2 * i) (hpi : p ≤ i) : ∃ u C' n' M', F_X3_readTerm z fC n (J o) C = some (u, C', n') ∧ F_X7_term z fM M = some M' ∧ Po X c m (400 + 20 * (d + 1)) i o p n T D u C' n' M' := by
  obtain ⟨u2, C2, n2, M2, a1, a2, gu2, i2, k1, k2, k3, k4⟩ := fac_ok hz hT hmx hd2 H hL ho hd hn hpi
  unfold F_X3_readTerm F_X7_term
  rw [a1, bd3_some, a2, Option.bind_some]
  rcases k4 with ⟨k5, k6, q5, T5, D5, l, m1, m2, m3⟩ | ⟨r, hr, hC3, hM5⟩
  · obtain ⟨u', C', n', M', z1, z2, z3⟩ := term_loop hz hT hmx hd2 H ho hd 301 C2 M2 i2 q5 n2 0 z z u2 T5 D5 (by omega) l gu2 m1 m2 k6 (by omega) (by omega) (by omega) (by omega)
    exact ⟨u', C', n', M', z1, z2, Po_W z3 k5 (by omega) m3⟩
  · have hf : mg_fault M2 ≠ 0 := by rw [hM5.2.2.1]; exact hr
    obtain ⟨y, rfl⟩ : ∃ y, z = y + 1 := ⟨z - 1, by omega⟩
    rw [rterm8_dead _ fC hC3, term4_dead _ fM hf]
    exact ⟨u2, C2, n2, M2, rfl, rfl, gu2, i2, k1, k2, k3, Or.inr ⟨r, hr, hC3, hM5⟩⟩
theorem sum_loop {z : Nat} (hz : 400 ≤ z) {X : Tx} (hT : TxOk X) {c : KC} {m : KM} (hmx : Mx c m) {d : Nat} (hd2 : d < 30) {fC : FC} {fM : MS → Option MS} (H : HS X c m d fC fM) {o p : Nat} (ho : o ≤ 9) (hd : 11 ≤ d + 1 + o) (k : Nat) : ∀ (C : CS) (M : MS) (i q n l kc km : Nat) (u : Int64 × Int64) (T D : Nat → Int64), 301 - i ≤ k → Lv X c m C M i q o (p + 1) T D → Gd u → T p = u.1 → D p = u.2 → p + 1 ≤ i → n ≤ 2 * i → l ≤ i → k + 1 ≤ kc → k + 1 ≤ km → ∃ u' C' n' M', G_X3_readSum_8 z fC kc n (J o) u (J l) C = some (u', C', n') ∧ G_X7_sum__4 z fM km M = some M' ∧ PoW X c m (400 + 20 * (d + 1)) i o p n T D u' C' n' M' := by
  have hX := hT.1
  induction k with
  | zero =>
    intro C M i q n l kc km u T D h1 hL
    have := hL.1
    omega
  | succ k ih =>
    intro C M i q n l kc km u T D h1 hL gu tp dp hpi hn hl hkc hkm
    obtain ⟨hi, hq, hp, x, b, s, hC, hM, hx⟩ := hL
    obtain ⟨kc, rfl⟩ : ∃ y, kc = y + 1 := ⟨kc - 1, by omega⟩
    obtain ⟨km, rfl⟩ : ∃ y, km = y + 1 := ⟨km - 1, by omega⟩
    have hpp := (pos_ok hX i).1
    have hbb := bv_b X (pos X i)
    have htk : cg_token C = J (kd X (pos X i)) := hC.2.2.2.2.1
    have hh := here_ok hz hT hM.2.1 (by omega) hM.2.2.2.1
    rw [hp] at hh
    have hM1 : Ml X m (ms_at M (J (pos X i))) (pos X i) o (p + 1) b s T D := Ml_at hM rfl
    have hh2 := here_ok hz hT hM1.2.1 (by omega) hM1.2.2.2.1
    rw [pos_past hX i, p_at2] at hh2
    -- what comes behind a sign
    have key : ∀ (a : Int), kd X (pos X i) = a → (a = 43 ∨ a = 45) → ∃ u' C' n' M', G_X3_readSum_33 z fC (G_X3_readSum_8 z fC kc) n (J o) u (J l) C = some (u', C', n') ∧ G_X7_sum__29 z fM (G_X7_sum__4 z fM km) (ms_at M (J (pos X i))) = some M' ∧ PoW X c m (400 + 20 * (d + 1)) i o p n T D u' C' n' M' := by
      intro a hk ha
      obtain ⟨e1, e2, e3, e4⟩ := step_c hX (a := a) (by omega) (by rcases ha with rfl | rfl <;> decide) hk
      obtain ⟨C1, r1, r2⟩ := adv_live z hC (by omega)
      have L1 : Lv X c m C1 (ms_at M (J ((pos X i + 1 : Nat) : Int))) (i + 1) (pos X i + 1) o (p + 1) T D := ⟨by omega, by omega, e4, x, b, s, r2, Ml_at hM rfl, hx⟩
      obtain ⟨u2, C2, n2, M2, a1, a2, gu2, i2, k1, k2, k3, k4⟩ := term_ok hz hT hmx hd2 H L1 ho hd (n := n) (by omega) (by omega)
      have rM : ∀ M', ((F_X7_joins z (J a) (J (pos X i)) M2).bind fun S7 => G_X7_sum__4 z fM km S7) = some M' → G_X7_sum__29 z fM (G_X7_sum__4 z fM km) (ms_at M (J (pos X i))) = some M' := by
        intro M' h
        unfold G_X7_sum__29
        rw [Option.bind_some, hh2, bd2_some, Option.bind_some, Option.bind_some, p_at_at, p_at2, j1, J_add, show J ((pos X i : Int) + 1) = J ((pos X i + 1 : Nat) : Int) from rfl, a2, Option.bind_some, e1]
        exact h
      -- the right-hand side as it is added
      have vv : ∃ v n3, Gd v ∧ n3 ≤ n2 + 1 ∧ n2 ≤ n3 ∧ (∀ S a' e' w C4, F_X1_plus z u v = some (L a', L e') → F_X3_bounded z (L a', L e') (J i) C2 = some (w, C4) → S = G_X3_readSum_8 z fC kc (n3 + 1) (J o) w (J ((l + 1 : Nat) : Int)) C4 → G_X3_readSum_33 z fC (G_X3_readSum_8 z fC kc) n (J o) u (J l) C = S) ∧ (∀ (a' e' : Int) (N M6 : MS) , (F_X7_lays z (u.1 * v.2 + v.1 * u.2) (u.2 * v.2) N = some (ms_under (ms_up N (L a')) (L e'))) → F_X7_piles z (J (pos X i)) (ms_under (ms_up N (L a')) (L e')) = some M6 → (if J a = 42 then ((F_X7_lays z (u.1 * u2.1) (u.2 * u2.2) N).bind fun S => (F_X7_piles z (J (pos X i)) S).bind fun S' => some S') else if J a = 43 then ((F_X7_lays z (u.1 * u2.2 + u2.1 * u.2) (u.2 * u2.2) N).bind fun S => (F_X7_piles z (J (pos X i)) S).bind fun S' => some S') else ((F_X7_lays z (u.1 * u2.2 - u2.1 * u.2) (u.2 * u2.2) N).bind fun S => (F_X7_piles z (J (pos X i)) S).bind fun S' => some S')) = some M6) := by
        rcases ha with rfl | rfl
        · refine ⟨u2, n2, gu2, by omega, Nat.le_refl _, ?_, ?_⟩
          · intro S a' e' w C4 h1' h2' h3'
            unfold G_X3_readSum_33
            rw [h3', if_neg (show ¬ cg_token C = 45 by rw [htk, hk]; decide), Option.bind_some, r1, Option.bind_some, a1, bd3_some, if_pos rfl, if_pos (by omega), h1', Option.bind_some, Option.bind_some, hC.2.2.2.1, h2', bd2_some, Option.bind_some, j1, J_add]
            rfl
          · intro a' e' N M6 h1' h2'
            rw [if_neg (show ¬ J 43 = 42 by decide), if_pos (show J 43 = 43 by decide), h1', Option.bind_some, h2', Option.bind_some]
        · obtain ⟨o1, o2⟩ := opp_gd (z := z) (by omega) gu2
          refine ⟨(-u2.1, u2.2), n2 + 1, o2, by omega, by omega, ?_, ?_⟩
          · intro S a' e' w C4 h1' h2' h3'
            unfold G_X3_readSum_33
            rw [h3', if_pos (show cg_token C = 45 by rw [htk, hk]; decide), Option.bind_some, r1, Option.bind_some, a1, bd3_some, if_neg n10, if_pos (by omega), o1, Option.bind_some, Option.bind_some, if_pos (by omega), h1', Option.bind_some, Option.bind_some, hC.2.2.2.1, h2', bd2_some, Option.bind_some, j1, J_add]
            rfl
          · intro a' e' N M6 h1' h2'
            have e5 : u.1 * u2.2 - u2.1 * u.2 = u.1 * u2.2 + (-u2.1) * u.2 := by grind
            rw [if_neg (show ¬ J 45 = 42 by decide), if_neg (show ¬ J 45 = 43 by decide), e5, h1', Option.bind_some, h2', Option.bind_some]
      obtain ⟨v, n3, gv, n31, n32, vC, vM⟩ := vv
      obtain ⟨a', e', f1, f2, f3, f4, f5, f6⟩ := plus_gd (z := z) (by omega) gu gv
      rcases k4 with ⟨k5, k6, q5, T5, D5, ⟨l1', l2, l3, x5, b5, s5', l4, l5, l6⟩, m1, m2, m3⟩ | ⟨r, hr, hC3, hM5⟩
      · obtain ⟨t1, t2⟩ := m3 p (by omega)
        obtain ⟨w, C4, M6, x', b', y1, y2, y3, y4, y5, y6⟩ := bp z hX l4 (Ml_piled l5 (v := J p) rfl) l6 (j := i) (by omega) (by omega) f3 f4 f5 f6
        have jn : F_X7_joins z (J a) (J (pos X i)) M2 = some M6 := by
          rw [joins_live l5 (by omega), t1, t2, tp, dp, m1, m2]
          exact vM a' e' _ M6 (f2 _) y2
        obtain ⟨u', C', n', M', z1, z2, z3⟩ := ih C4 M6 i2 q5 (n3 + 1) (l + 1) kc km w _ _ (by omega) ⟨k2, l2, l3, x', b', s5', y4, y5, y6⟩ y3 (updL_at _ _ _) (updL_at _ _ _) (by omega) (by omega) (by omega) (by omega) (by omega)
        refine ⟨u', C', n', M', vC _ a' e' w C4 f1 y1 z1.symm, rM M' ?_, PoW_up z3 (by omega) (by omega) (fun j hj => ?_)⟩
        · rw [jn, Option.bind_some]
          exact z2
        · rw [updL_ne _ (by omega), updL_ne _ (by omega)]
          exact m3 j (by omega)
      · obtain ⟨w, C4, y1, y2, y3⟩ := bnd_dead z f3 f4 f5 f6 hC3 (j := i) (by omega)
        have hf : mg_fault M2 ≠ 0 := by rw [hM5.2.2.1]; exact hr
        obtain ⟨kc, rfl⟩ : ∃ y, kc = y + 1 := ⟨kc - 1, by omega⟩
        obtain ⟨km, rfl⟩ : ∃ y, km = y + 1 := ⟨km - 1, by omega⟩
        refine ⟨w, C4, n3 + 1, M2, vC _ a' e' w C4 f1 y1 (rsum8_dead z fC y3 _ _ _ _ _).symm, rM M2 ?_, y2, i2, by omega, k2, by omega, Or.inr ⟨r, hr, y3, hM5⟩⟩
        rw [joins_dead z hf, Option.bind_some, sum4_dead z fM hf]
    rw [e_X3_readSum_8, e_X7_sum__4, if_pos hM.2.2.1, hh, bd2_some]
    have q43 : J (bv X (pos X i)) = 43 ↔ kd X (pos X i) = 43 := by rw [kd_c (by decide) (by decide), show (43 : Int32) = J 43 from rfl, J_eq ⟨by omega, by omega⟩ ⟨by decide, by decide⟩]
    have q45 : J (bv X (pos X i)) = 45 ↔ kd X (pos X i) = 45 := by rw [kd_c (by decide) (by decide), show (45 : Int32) = J 45 from rfl, J_eq ⟨by omega, by omega⟩ ⟨by decide, by decide⟩]
    by_cases h43 : kd X (pos X i) = 43
    · have hi3 := (lt300 hX (i := i) (by omega)).1
      rw [if_neg (show ¬ (300 : Int32) ≤ J l by rw [j300, J_le ⟨by decide, by decide⟩ ⟨by omega, by omega⟩]; omega), if_pos (show cg_token C = 43 by rw [htk, h43]; rfl), if_pos (q43.mpr h43)]
      exact key 43 h43 (Or.inl rfl)
    · rw [if_neg (show ¬ cg_token C = 43 from fun g => h43 ((tok htk (kd_b _ _) (a := 43) (by decide)).mp (g.trans rfl))), if_neg (fun g => h43 (q43.mp g)), hh2, bd2_some]
      by_cases h45 : kd X (pos X i) = 45
      · have hi3 := (lt300 hX (i := i) (by omega)).1
        rw [if_neg (show ¬ (300 : Int32) ≤ J l by rw [j300, J_le ⟨by decide, by decide⟩ ⟨by omega, by omega⟩]; omega), if_pos (show cg_token C = 45 by rw [htk, h45]; rfl), if_pos (q45.mpr h45)]
        exact key 45 h45 (Or.inr rfl)
      · rw [if_neg (show ¬ cg_token C = 45 from fun g => h45 ((tok htk (kd_b _ _) (a := 45) (by decide)).mp (g.trans rfl))), if_neg (fun g => h45 (q45.mp g)), ite_self]
        exact ⟨u, C, n, ms_at M (J (pos X i)), rfl, rfl, gu, i, Nat.le_refl _, hi, by omega, Or.inl ⟨hpi, pos X i, T, D, ⟨hi, hpp, pos_past hX i, x, b, s, hC, hM1, hx⟩, tp, dp, fun j hj => ⟨rfl, rfl⟩⟩⟩
theorem sumb_ok {z : Nat} (hz : 400 ≤ z) {X : Tx} (hT : TxOk X) {c : KC} {m : KM} (hmx : Mx c m) {d : Nat} (hd2 : d < 30) {fC : FC} {fM : MS → Option MS} (H : HS X c m d fC fM) {C : CS} {M : MS} {i q o p n : Nat} {T D : Nat → Int64} (hL : Lv X c m C M i q o p T D) (ho : o ≤ 9) (hd : 11 ≤ d + 1 + o) (hn : n ≤ 2 * i) (hpi : p ≤ i) : ∃ u C' n' M', F_X3_readSumb z fC n (J o) C = some (u, C', n') ∧ F_X7_sumb z fM M = some M' ∧ Po X c m (400 + 20 * (d + 1)) i o p n T D u C' n' M' := by
  obtain ⟨u2, C2, n2, M2, a1, a2, gu2, i2, k1, k2, k3, k4⟩ := term_ok hz hT hmx hd2 H hL ho hd hn hpi
  unfold F_X3_readSumb F_X7_sumb
  rw [a1, bd3_some, a2, Option.bind_some]
  rcases k4 with ⟨k5, k6, q5, T5, D5, l, m1, m2, m3⟩ | ⟨r, hr, hC3, hM5⟩
  · obtain ⟨u', C', n', M', z1, z2, z3⟩ := sum_loop hz hT hmx hd2 H ho hd 301 C2 M2 i2 q5 n2 0 z z u2 T5 D5 (by omega) l gu2 m1 m2 k6 (by omega) (by omega) (by omega) (by omega)
    exact ⟨u', C', n', M', z1, z2, Po_W z3 k5 (by omega) m3⟩
  · have hf : mg_fault M2 ≠ 0 := by rw [hM5.2.2.1]; exact hr
    obtain ⟨y, rfl⟩ : ∃ y, z = y + 1 := ⟨z - 1, by omega⟩
    rw [rsum8_dead _ fC hC3, sum4_dead _ fM hf]
    exact ⟨u2, C2, n2, M2, rfl, rfl, gu2, i2, k1, k2, k3, Or.inr ⟨r, hr, hC3, hM5⟩⟩
theorem HS_all {z : Nat} (hz : 400 ≤ z) {X : Tx} (hT : TxOk X) {c : KC} {m : KM} (hmx : Mx c m) (d : Nat) (hd : d ≤ 20) : HS X c m d (F_X3_readSum z d) (F_X7_sum_ z d) := by
  induction d with
  | zero => exact ⟨fun C M i q o p n T D hL h1 h2 => by omega, fun h => by omega⟩
  | succ d ih =>
    have H := ih (by omega)
    refine ⟨fun C M i q o p n T D hL h1 h2 h3 h4 => ?_, fun h M r b hr hM hb hb2 => ?_⟩
    · exact sumb_ok hz hT hmx (by omega) H hL h1 h2 h3 h4
    · exact sumb_dead hz (F_X7_sum_ z d) hT hM hr hb (by omega)
