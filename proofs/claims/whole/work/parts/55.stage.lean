/-! tell: the reference behind a FAULT -/
theorem bd3_some {α β γ δ : Type} (a : α) (b : β) (c : γ) (f : α → β → γ → Option δ) : bd3 (some (a, b, c)) f = f a b c := rfl
theorem Md_le {X : Tx} {m : KM} {M : MS} {r : Int32} {b b' : Nat} (h : Md X m M r b) (hb : b ≤ b') : Md X m M r b' := by
  obtain ⟨h1, h2, h3, q, h4, h5⟩ := h
  exact ⟨h1, h2, h3, q, by omega, h5⟩
theorem here_dead {z : Nat} (hz : 400 ≤ z) {X : Tx} (hT : TxOk X) {m : KM} {M : MS} {r : Int32} {b : Nat} (h : Md X m M r b) (hb : 300 ≤ b) (hb2 : b < 1900) : ∃ (v : Int) (q : Nat), q ≤ b ∧ F_X7_here z M = some (J v, ms_at M (J q)) := by
  obtain ⟨h1, h2, h3, q, h4, h5⟩ := h
  have hX := hT.1
  refine ⟨_, past X 1 q, ?_, here_ok hz hT h2 (by omega) h5⟩
  by_cases c : q ≤ X.2
  · obtain ⟨-, a, -, -⟩ := past_spec hX (s := 1) (by decide) q
    have := a c
    omega
  · rw [past_stop hX (by decide) (by rw [bv_end (by omega), so_end]; decide)]
    exact h4
theorem sign_dead (z : Nat) {X : Tx} {m : KM} {M : MS} {r : Int32} {b : Nat} (h : Md X m M r b) (hr : r ≠ 0) (a : Int32) : ∃ M', F_X7_sign z a M = some M' ∧ Md X m M' r (b + 1) := by
  have h0 := h
  obtain ⟨h1, h2, h3, q, h4, h5⟩ := h
  refine ⟨ms_at M (J ((q + 1 : Nat) : Int)), ?_, Md_at h0 rfl (by omega)⟩
  unfold F_X7_sign
  rw [if_neg (by rw [h3]; exact hr), h5, j1, J_add, Option.bind_some, Option.bind_some]
  rfl
theorem closes_dead (z : Nat) {X : Tx} {m : KM} {M : MS} {r : Int32} {b : Nat} (h : Md X m M r b) (hr : r ≠ 0) : ∃ M', F_X7_closes z M = some M' ∧ Md X m M' r (b + 1) := by
  obtain ⟨M1, g1, g2⟩ := sign_dead z h hr 41
  refine ⟨ms_open M1 (mg_open M1 - 1), ?_, Md_open g2 _⟩
  unfold F_X7_closes
  rw [g1, Option.bind_some, Option.bind_some, Option.bind_some]
theorem number_dead {z : Nat} (hz : 400 ≤ z) {X : Tx} (hT : TxOk X) {m : KM} {M : MS} {r : Int32} {b : Nat} (h : Md X m M r b) (hr : r ≠ 0) (hb : 300 ≤ b) (hb2 : b < 1900) : ∃ M', F_X7_number z M = some (0, M') ∧ Md X m M' r b ∧ mg_piled M' = mg_piled M := by
  obtain ⟨v, q, hq, e⟩ := here_dead hz hT h hb hb2
  refine ⟨ms_from (ms_at M (J q)) (J q), ?_, Md_from (Md_at h rfl hq) _, by rw [p_piled_from, p_piled_at]⟩
  unfold F_X7_number
  rw [e, bd2_some, Option.bind_some, Option.bind_some, p_fault_from, p_fault_at, if_neg (by rw [h.2.2.1]; exact hr), p_at_at]
theorem whole_neg {z : Nat} (hz : 400 ≤ z) {X : Tx} (hT : TxOk X) {M : MS} (hM : Mt X M) {q : Nat} (hq : q < 1950) (ha : mg_at M = J q) {p : Nat} (hp : past X 1 q = p) (h : bv X p = 45) : F_X7_whole z M = bd2 (F_X7_number z (ms_at M (J ((p + 1 : Nat) : Int)))) fun r S => some (-r, S) := by
  have e : ∀ k : Option (Int64 × MS), (bd2 k fun r3 S4 => if (1 : Int32) = 0 then some (r3, S4) else some (-r3, S4)) = bd2 k fun r S => some (-r, S) := by
    intro k
    cases k with
    | none => rfl
    | some g =>
      show (if (1 : Int32) = 0 then some (g.1, g.2) else some (-g.1, g.2)) = some (-g.1, g.2)
      rw [if_neg n10]
  unfold F_X7_whole
  rw [here_ok hz hT hM (by omega) ha, bd2_some, hp, if_pos (by rw [h]; rfl)]
  unfold G_X7_whole_14
  rw [if_neg n10]
  unfold G_X7_whole_29
  rw [Option.bind_some, Option.bind_some, p_at_at, p_at2, j1, J_add]
  exact e _
theorem whole_pos {z : Nat} (hz : 400 ≤ z) {X : Tx} (hT : TxOk X) {M : MS} (hM : Mt X M) {q : Nat} (hq : q < 1950) (ha : mg_at M = J q) {p : Nat} (hp : past X 1 q = p) (h : bv X p ≠ 45) : F_X7_whole z M = bd2 (F_X7_number z (ms_at M (J p))) fun r S => some (r, S) := by
  have hb := bv_b X p
  have e : ∀ k : Option (Int64 × MS), (bd2 k fun r3 S4 => if (0 : Int32) = 0 then some (r3, S4) else some (-r3, S4)) = bd2 k fun r S => some (r, S) := by
    intro k
    cases k with
    | none => rfl
    | some g =>
      show (if (0 : Int32) = 0 then some (g.1, g.2) else some (-g.1, g.2)) = some (g.1, g.2)
      rw [if_pos rfl]
  unfold F_X7_whole
  rw [here_ok hz hT hM (by omega) ha, bd2_some, hp, if_neg (show ¬ J (bv X p) = 45 by rw [show (45 : Int32) = J 45 from rfl, J_eq ⟨by omega, by omega⟩ ⟨by decide, by decide⟩]; exact h)]
  unfold G_X7_whole_14
  rw [if_pos rfl]
  unfold G_X7_whole_29
  rw [Option.bind_some, Option.bind_some, p_at_at, p_at2, show J (p : Int) + 0 = J p by rw [j0, J_add, Int.add_zero]]
  exact e _
theorem whole_dead {z : Nat} (hz : 400 ≤ z) {X : Tx} (hT : TxOk X) {m : KM} {M : MS} {r : Int32} {b : Nat} (h : Md X m M r b) (hr : r ≠ 0) (hb : 300 ≤ b) (hb2 : b < 1800) : ∃ v M', F_X7_whole z M = some (v, M') ∧ Md X m M' r (b + 1) := by
  have h0 := h
  obtain ⟨h1, h2, h3, q, h4, h5⟩ := h
  have hX := hT.1
  have hpb : past X 1 q ≤ b := by
    by_cases c : q ≤ X.2
    · obtain ⟨-, a, -, -⟩ := past_spec hX (s := 1) (by decide) q
      have := a c
      omega
    · rw [past_stop hX (by decide) (by rw [bv_end (by omega), so_end]; decide)]
      exact h4
  by_cases c : bv X (past X 1 q) = 45
  · obtain ⟨M', g1, g2, -⟩ := number_dead hz hT (Md_at h0 (v := J ((past X 1 q + 1 : Nat) : Int)) (b' := b + 1) rfl (by omega)) hr (by omega) (by omega)
    rw [whole_neg hz hT h2 (by omega) h5 rfl c, g1, bd2_some]
    exact ⟨_, _, rfl, g2⟩
  · obtain ⟨M', g1, g2, -⟩ := number_dead hz hT (Md_at h0 (v := J (past X 1 q : Int)) (b' := b + 1) rfl (by omega)) hr (by omega) (by omega)
    rw [whole_pos hz hT h2 (by omega) h5 rfl c, g1, bd2_some]
    exact ⟨_, _, rfl, g2⟩
theorem unit_dead (z : Nat) (fs : MS → Option MS) {M : MS} (h : mg_fault M ≠ 0) : F_X7_unit z fs M = some M := by
  unfold F_X7_unit
  rw [if_neg h]
theorem factor_dead {z : Nat} (hz : 400 ≤ z) (fs : MS → Option MS) {X : Tx} (hT : TxOk X) {m : KM} {M : MS} {r : Int32} {b : Nat} (h : Md X m M r b) (hr : r ≠ 0) (hb : 300 ≤ b) (hb2 : b < 1900) : ∃ M', F_X7_factor z fs M = some M' ∧ Md X m M' r (b + 1) := by
  obtain ⟨v, q, hq, e⟩ := here_dead hz hT h hb hb2
  have hf : mg_fault M ≠ 0 := by rw [h.2.2.1]; exact hr
  unfold F_X7_factor
  rw [e, bd2_some]
  by_cases c : J v = 45
  · refine ⟨ms_at M (J ((q + 1 : Nat) : Int)), ?_, Md_at h rfl (by omega)⟩
    rw [if_pos c]
    unfold G_X7_factor_14
    rw [if_neg n10]
    unfold G_X7_factor_29
    rw [Option.bind_some, Option.bind_some, p_at_at, p_at2, unit_dead z fs (by rw [p_fault_at]; exact hf), Option.bind_some, if_neg n10, p_fault_at, if_neg hf, j1, J_add]
    rfl
  · refine ⟨ms_at M (J q), ?_, Md_at h rfl (by omega)⟩
    rw [if_neg c]
    unfold G_X7_factor_14
    rw [if_pos rfl]
    unfold G_X7_factor_29
    rw [Option.bind_some, Option.bind_some, p_at_at, p_at2, unit_dead z fs (by rw [p_fault_at]; exact hf), Option.bind_some, if_pos rfl, show J (q : Int) + 0 = J q by rw [j0, J_add, Int.add_zero]]
theorem term4_dead (z : Nat) (fs : MS → Option MS) {M : MS} (h : mg_fault M ≠ 0) (n : Nat) : G_X7_term_4 z fs (n + 1) M = some M := by
  rw [e_X7_term_4, if_neg h]
theorem sum4_dead (z : Nat) (fs : MS → Option MS) {M : MS} (h : mg_fault M ≠ 0) (n : Nat) : G_X7_sum__4 z fs (n + 1) M = some M := by
  rw [e_X7_sum__4, if_neg h]
theorem joins_dead (z : Nat) {M : MS} (h : mg_fault M ≠ 0) (a w : Int32) : F_X7_joins z a w M = some M := by
  unfold F_X7_joins
  rw [if_neg h]
theorem term_dead {z : Nat} (hz : 400 ≤ z) (fs : MS → Option MS) {X : Tx} (hT : TxOk X) {m : KM} {M : MS} {r : Int32} {b : Nat} (h : Md X m M r b) (hr : r ≠ 0) (hb : 300 ≤ b) (hb2 : b < 1900) : ∃ M', F_X7_term z fs M = some M' ∧ Md X m M' r (b + 1) := by
  obtain ⟨M1, g1, g2⟩ := factor_dead hz fs hT h hr hb hb2
  obtain ⟨y, rfl⟩ : ∃ y, z = y + 1 := ⟨z - 1, by omega⟩
  refine ⟨M1, ?_, g2⟩
  unfold F_X7_term
  rw [g1, Option.bind_some]
  exact term4_dead _ fs (by rw [g2.2.2.1]; exact hr) y
theorem sumb_dead {z : Nat} (hz : 400 ≤ z) (fs : MS → Option MS) {X : Tx} (hT : TxOk X) {m : KM} {M : MS} {r : Int32} {b : Nat} (h : Md X m M r b) (hr : r ≠ 0) (hb : 300 ≤ b) (hb2 : b < 1900) : ∃ M', F_X7_sumb z fs M = some M' ∧ Md X m M' r (b + 1) := by
  obtain ⟨M1, g1, g2⟩ := term_dead hz fs hT h hr hb hb2
  obtain ⟨y, rfl⟩ : ∃ y, z = y + 1 := ⟨z - 1, by omega⟩
  refine ⟨M1, ?_, g2⟩
  unfold F_X7_sumb
  rw [g1, Option.bind_some]
  exact sum4_dead _ fs (by rw [g2.2.2.1]; exact hr) y
/-! the class behind a FAULT -/
theorem runit_dead (z : Nat) (fC : Nat → Int32 → CS → Option ((Int64 × Int64) × CS × Nat)) {X : Tx} {c : KC} {C : CS} {r : Int32} (h : Cd X c C r) (hr : r ≠ 0) (n : Nat) (o : Int32) : F_X3_readUnit z fC n o C = some ((0, 1), C, n) := by
  unfold F_X3_readUnit
  rw [Option.bind_some, h.2.2.2, if_neg (by decide), if_neg (by decide), if_neg (by decide), if_neg (by decide), if_neg (by decide), ref_dead z h hr, Option.bind_some]
theorem rfactor_dead (z : Nat) (fC : Nat → Int32 → CS → Option ((Int64 × Int64) × CS × Nat)) {X : Tx} {c : KC} {C : CS} {r : Int32} (h : Cd X c C r) (hr : r ≠ 0) (n : Nat) (o : Int32) : F_X3_readFactor z fC n o C = some ((0, 1), C, n) := by
  unfold F_X3_readFactor
  rw [if_neg (by rw [h.2.2.2]; decide), runit_dead z fC h hr, bd3_some]
theorem rterm8_dead (z : Nat) (fC : Nat → Int32 → CS → Option ((Int64 × Int64) × CS × Nat)) {X : Tx} {c : KC} {C : CS} {r : Int32} (h : Cd X c C r) (k n : Nat) (o x : Int32) (u : Int64 × Int64) : G_X3_readTerm_8 z fC (k + 1) n o u x C = some (u, C, n) := by
  rw [e_X3_readTerm_8, if_neg (show ¬ cg_token C = 42 by rw [h.2.2.2]; decide), ite_self]
theorem rsum8_dead (z : Nat) (fC : Nat → Int32 → CS → Option ((Int64 × Int64) × CS × Nat)) {X : Tx} {c : KC} {C : CS} {r : Int32} (h : Cd X c C r) (k n : Nat) (o x : Int32) (u : Int64 × Int64) : G_X3_readSum_8 z fC (k + 1) n o u x C = some (u, C, n) := by
  rw [e_X3_readSum_8, if_neg (show ¬ cg_token C = 43 by rw [h.2.2.2]; decide), if_neg (show ¬ cg_token C = 45 by rw [h.2.2.2]; decide), ite_self]
theorem rterm_dead {z : Nat} (hz : 400 ≤ z) (fC : Nat → Int32 → CS → Option ((Int64 × Int64) × CS × Nat)) {X : Tx} {c : KC} {C : CS} {r : Int32} (h : Cd X c C r) (hr : r ≠ 0) (n : Nat) (o : Int32) : F_X3_readTerm z fC n o C = some ((0, 1), C, n) := by
  obtain ⟨y, rfl⟩ : ∃ y, z = y + 1 := ⟨z - 1, by omega⟩
  unfold F_X3_readTerm
  rw [rfactor_dead _ fC h hr, bd3_some]
  exact rterm8_dead _ fC h y _ _ _ _
/-! steps side by side: before a FAULT, or behind it on both sides -/
def Tst (X : Tx) (c : KC) (m : KM) (C : CS) (M : MS) (i0 o p : Nat) (x b s s' : Int32) (T D : Nat → Int64) (B : Nat) (V : Prop) : Prop := (∃ i q : Nat, i0 ≤ i ∧ i ≤ 300 ∧ q ≤ X.2 ∧ past X 1 q = pos X i ∧ Cl X c C i x s ∧ Ml X m M q o p b s' T D ∧ V) ∨ (∃ r, r ≠ 0 ∧ Cd X c C r ∧ Md X m M r B)
theorem step_c {X : Tx} (hX : X.2 ≤ 300) {i : Nat} {a : Int} (h0 : 0 ≤ a) (ha : so a = 0) (hk : kd X (pos X i) = a) : bv X (pos X i) = a ∧ i < 300 ∧ pos X i < X.2 ∧ past X 1 (pos X i + 1) = pos X (i + 1) := by
  have h1 := (kd_c h0 ha).mp hk
  obtain ⟨h2, h3⟩ := lt300 hX (i := i) (by omega)
  refine ⟨h1, h2, h3, ?_⟩
  rw [← pos_next h3, te_c h1 ha]
theorem st_pass {z : Nat} (hz : 400 ≤ z) {X : Tx} (hT : TxOk X) {c : KC} {m : KM} {C : CS} {M : MS} {i0 o p : Nat} {x b s s' : Int32} {T D : Nat → Int64} {B : Nat} {V : Prop} (h : Tst X c m C M i0 o p x b s s' T D B V) (hB : 301 ≤ B) {a : Int} (ha : 0 ≤ a ∧ a < 256) (hs : so a = 0) : ∃ C' M', F_X3_pass z (J a) C = some C' ∧ F_X7_sign z (J a) M = some M' ∧ Tst X c m C' M' (i0 + 1) o p x b s s' T D (B + 1) V := by
  have hX := hT.1
  rcases h with ⟨i, q, hi0, hi, hq, hp, hC, hM, hV⟩ | ⟨r, hr, hC, hM⟩
  · have hM0 := hM
    obtain ⟨k1, k2, k3, k4, k5, k6, k7, k8, k9, k10⟩ := hM
    obtain ⟨g1, g2⟩ := sign_live hz hT k2 (by omega) k4 k3 hp ha.1 ha.2
    have hpp := (pos_ok hX i).1
    by_cases hk : kd X (pos X i) = a
    · obtain ⟨e1, e2, e3, e4⟩ := step_c hX ha.1 hs hk
      obtain ⟨C', f1, f2⟩ := pass_go z hC (by omega) hk
      exact ⟨C', _, f1, g1 e1, Or.inl ⟨i + 1, pos X i + 1, by omega, by omega, by omega, e4, f2, Ml_at hM0 rfl, hV⟩⟩
    · obtain ⟨C', f1, f2⟩ := pass_no z hC (by omega) ha hk
      exact ⟨C', _, f1, g2 (fun e => hk ((kd_c ha.1 hs).mpr e)), Or.inr ⟨_, rne (by decide) (by decide) (by omega), f2, Md_at (Ml_fault hM0 _ (B := 300) (by omega)) rfl (by omega)⟩⟩
  · obtain ⟨M', g1, g2⟩ := sign_dead z hM hr (J a)
    exact ⟨C, M', pass_dead z hC hr ha, g1, Or.inr ⟨r, hr, hC, g2⟩⟩
theorem st_closes {z : Nat} (hz : 400 ≤ z) {X : Tx} (hT : TxOk X) {c : KC} {m : KM} {C : CS} {M : MS} {i0 o p : Nat} {x b s s' : Int32} {T D : Nat → Int64} {B : Nat} {V : Prop} (h : Tst X c m C M i0 (o + 1) p x b s s' T D B V) (hB : 301 ≤ B) : ∃ C' M', F_X3_pass z 41 C = some C' ∧ F_X7_closes z M = some M' ∧ Tst X c m C' M' (i0 + 1) o p x b s s' T D (B + 1) V := by
  obtain ⟨C', M', h1, h2, h3⟩ := st_pass hz hT h hB (a := 41) (by decide) (by decide)
  refine ⟨C', ms_open M' (mg_open M' - 1), h1, ?_, ?_⟩
  · unfold F_X7_closes
    rw [show (41 : Int32) = J 41 from rfl, h2, Option.bind_some, Option.bind_some, Option.bind_some]
  · rcases h3 with ⟨i, q, hi0, hi, hq, hp, hC, hM, hV⟩ | ⟨r, hr, hC, hM⟩
    · refine Or.inl ⟨i, q, hi0, hi, hq, hp, hC, Ml_open hM ?_, hV⟩
      rw [hM.2.2.2.2.1, j1, J_sub, show (((o + 1 : Nat) : Int)) - 1 = (o : Int) by omega]
    · exact Or.inr ⟨r, hr, hC, Md_open hM _⟩
theorem num_go {z : Nat} (hz : 400 ≤ z) {X : Tx} (hT : TxOk X) {m : KM} {M : MS} {q o p : Nat} {b s : Int32} {T D : Nat → Int64} (hM : Ml X m M q o p b s T D) (hq : q ≤ X.2) {i : Nat} (hp : past X 1 q = pos X i) (hk : kd X (pos X i) = -2) : ∃ M' q', F_X7_number z M = some (L (dv X 9 (pos X i) 0), M') ∧ Ml X m M' q' o p b s T D ∧ q' ≤ X.2 ∧ past X 1 q' = pos X (i + 1) ∧ mg_from M' = J (pos X i) ∧ i < 300 := by
  have hX := hT.1
  have hM0 := hM
  obtain ⟨k1, k2, k3, k4, k5, k6, k7, k8, k9, k10⟩ := hM
  obtain ⟨h2, h3⟩ := lt300 hX (i := i) (by omega)
  obtain ⟨n1, n2⟩ := kd_n.mp hk
  obtain ⟨t1, t2⟩ := te_b hX h3
  rw [te_n n1] at t1 t2
  refine ⟨_, past X 3 (pos X i), (number_ok hz hT k2 hq k4 k3 hp).1 hk, Ml_at (Ml_from hM0 _) rfl, t2, ?_, by rw [p_from_at, p_from_from], h2⟩
  rw [← pos_next h3, te_n n1]
theorem num_no {z : Nat} (hz : 400 ≤ z) {X : Tx} (hT : TxOk X) {m : KM} {M : MS} {q o p : Nat} {b s : Int32} {T D : Nat → Int64} (hM : Ml X m M q o p b s T D) (hq : q ≤ X.2) {i : Nat} (hp : past X 1 q = pos X i) (hk : kd X (pos X i) ≠ -2) : ∃ M', F_X7_number z M = some (L (dv X 9 (pos X i) 0), M') ∧ Md X m M' (J (1 + 8 * (pos X i : Int))) 300 ∧ mg_piled M' = J p := by
  have hX := hT.1
  have hM0 := hM
  obtain ⟨k1, k2, k3, k4, k5, k6, k7, k8, k9, k10⟩ := hM
  have hpp := (pos_ok hX i).1
  obtain ⟨-, t2, -, -⟩ := past_spec hX (s := 3) (by decide) (pos X i)
  have t2 := t2 hpp
  exact ⟨_, (number_ok hz hT k2 hq k4 k3 hp).2 hk, Ml_fault (Ml_at (Ml_from hM0 _) rfl) _ (by omega), by rw [p_piled_fault, p_piled_at, p_piled_from, k6]⟩
theorem pos_past {X : Tx} (hX : X.2 ≤ 300) (i : Nat) : past X 1 (pos X i) = pos X i := past_stop hX (by decide) (pos_ok hX i).2
theorem st_whole0 {z : Nat} (hz : 400 ≤ z) {X : Tx} (hT : TxOk X) {c : KC} {m : KM} {C : CS} {M : MS} {i0 o p : Nat} {x b s s' : Int32} {T D : Nat → Int64} {B : Nat} {V : Prop} (h : Tst X c m C M i0 o p x b s s' T D B V) (hB : 301 ≤ B) (hB2 : B < 1800) : ∃ (h : Int) (h' : Int64) (C' : CS) (M' : MS), h.natAbs ≤ 1000000000 ∧ F_X3_readWhole z 0 C = some (L h, C') ∧ F_X7_whole z M = some (h', M') ∧ Tst X c m C' M' (i0 + 1) o p x b s s' T D (B + 1) (V ∧ h' = L h) := by
  have hX := hT.1
  rcases h with ⟨i, q, hi0, hi, hq, hp, hC, hM, hV⟩ | ⟨r, hr, hC, hM⟩
  · have hM0 := hM
    obtain ⟨k1, k2, k3, k4, k5, k6, k7, k8, k9, k10⟩ := hM
    have hpp := (pos_ok hX i).1
    by_cases hk : kd X (pos X i) = 45
    · obtain ⟨e1, e2, e3, e4⟩ := step_c hX (a := 45) (by decide) (by decide) hk
      obtain ⟨C1, f1, f2⟩ := adv_live z hC (by omega)
      have m1 : Ml X m (ms_at M (J ((pos X i + 1 : Nat) : Int))) (pos X i + 1) o p b s' T D := Ml_at hM0 rfl
      have rw1 : F_X3_readWhole z 0 C = bd2 (F_X3_readNumber z 1 0 C1) fun r S => some (r, S) := by
        unfold F_X3_readWhole
        rw [if_pos (show cg_token C = 45 by rw [hC.2.2.2.2.1, hk]; rfl)]
        unfold G_X3_readWhole_14
        rw [if_neg n10, f1, Option.bind_some]
      have hd := dv9 X (pos X (i + 1))
      by_cases hk2 : kd X (pos X (i + 1)) = -2
      · obtain ⟨M', q', g1, g2, g3, g4, -, g5⟩ := num_go hz hT m1 (by omega) e4 hk2
        obtain ⟨C2, r1, r2⟩ := rnum_go z f2 (by omega) hk2 1 0 (Or.inl rfl)
        refine ⟨-dv X 9 (pos X (i + 1)) 0, -L (dv X 9 (pos X (i + 1)) 0), C2, M', by omega, ?_, ?_, Or.inl ⟨i + 1 + 1, q', by omega, by omega, g3, g4, r2, g2, hV, L_neg _⟩⟩
        · rw [rw1, r1, bd2_some, if_neg n10]
        · rw [whole_neg hz hT k2 (by omega) k4 hp e1, g1, bd2_some]
      · obtain ⟨M', g1, g2, -⟩ := num_no hz hT m1 (by omega) e4 hk2
        obtain ⟨C2, r1, r2⟩ := rnum_no z f2 (by omega) hk2 1 0
        refine ⟨1, -L (dv X 9 (pos X (i + 1)) 0), C2, M', by decide, ?_, ?_, Or.inr ⟨_, rne (by decide) (by decide) (by have := (pos_ok hX (i + 1)).1; omega), r2, Md_le g2 (by omega)⟩⟩
        · rw [rw1, r1, bd2_some]; rfl
        · rw [whole_neg hz hT k2 (by omega) k4 hp e1, g1, bd2_some]
    · have nb45 : bv X (pos X i) ≠ 45 := fun e => hk ((kd_c (by decide) (by decide)).mpr e)
      have m1 : Ml X m (ms_at M (J (pos X i))) (pos X i) o p b s' T D := Ml_at hM0 rfl
      have rw1 : F_X3_readWhole z 0 C = bd2 (F_X3_readNumber z 0 0 C) fun r S => some (r, S) := by
        unfold F_X3_readWhole
        rw [if_neg (show ¬ cg_token C = 45 from fun g => hk ((tok hC.2.2.2.2.1 (kd_b _ _) (a := 45) (by decide)).mp g))]
        unfold G_X3_readWhole_14
        rw [if_pos rfl]
      have hd := dv9 X (pos X i)
      by_cases hk2 : kd X (pos X i) = -2
      · obtain ⟨M', q', g1, g2, g3, g4, -, g5⟩ := num_go hz hT m1 (by omega) (pos_past hX i) hk2
        obtain ⟨C2, r1, r2⟩ := rnum_go z hC (by omega) hk2 0 0 (Or.inl rfl)
        refine ⟨dv X 9 (pos X i) 0, L (dv X 9 (pos X i) 0), C2, M', by omega, ?_, ?_, Or.inl ⟨i + 1, q', by omega, by omega, g3, g4, r2, g2, hV, rfl⟩⟩
        · rw [rw1, r1, bd2_some, if_pos rfl]
        · rw [whole_pos hz hT k2 (by omega) k4 hp nb45, g1, bd2_some]
      · obtain ⟨M', g1, g2, -⟩ := num_no hz hT m1 (by omega) (pos_past hX i) hk2
        obtain ⟨C2, r1, r2⟩ := rnum_no z hC (by omega) hk2 0 0
        refine ⟨1, L (dv X 9 (pos X i) 0), C2, M', by decide, ?_, ?_, Or.inr ⟨_, rne (by decide) (by decide) (by omega), r2, Md_le g2 (by omega)⟩⟩
        · rw [rw1, r1, bd2_some]; rfl
        · rw [whole_pos hz hT k2 (by omega) k4 hp nb45, g1, bd2_some]
  · obtain ⟨v, M', g1, g2⟩ := whole_dead hz hT hM hr (by omega) hB2
    exact ⟨1, v, C, M', by decide, rwhole_dead z hC hr 0, g1, Or.inr ⟨r, hr, hC, g2⟩⟩
/-- the reference's test of the second WHOLE -/
def chk (z : Nat) (k : Int64) (S : MS) : Option MS := if mg_fault S = 0 then (if (0 : Int64) < k then some S else F_X7_fails z (2 : Int32) (mg_from S) S) else some S
theorem chk_dead (z : Nat) (k : Int64) {S : MS} (h : mg_fault S ≠ 0) : chk z k S = some S := by
  unfold chk
  rw [if_neg h]
theorem chk_go (z : Nat) {k : Int64} {S : MS} (h : mg_fault S = 0) (hk : 0 < k) : chk z k S = some S := by
  unfold chk
  rw [if_pos h, if_pos hk]
theorem chk_bad (z : Nat) {k : Int64} {S : MS} (h : mg_fault S = 0) (hk : ¬ 0 < k) {w : Int} (hw : mg_from S = J w) : chk z k S = some (ms_fault S (J (2 + 8 * w))) := by
  unfold chk
  rw [if_pos h, if_neg hk, hw, j2, fails_0 z h]
theorem st_whole1 {z : Nat} (hz : 400 ≤ z) {X : Tx} (hT : TxOk X) {c : KC} {m : KM} {C : CS} {M : MS} {i0 o p : Nat} {x b s s' : Int32} {T D : Nat → Int64} {B : Nat} {V : Prop} (h : Tst X c m C M i0 o p x b s s' T D B V) (hB : 301 ≤ B) (hB2 : B < 1800) : ∃ (k : Int) (k' : Int64) (C' : CS) (M1 M' : MS), 1 ≤ k ∧ k ≤ 1000000000 ∧ F_X3_readWhole z 1 C = some (L k, C') ∧ F_X7_whole z M = some (k', M1) ∧ chk z k' M1 = some M' ∧ Tst X c m C' M' (i0 + 1) o p x b s s' T D (B + 1) (V ∧ k' = L k) := by
  have hX := hT.1
  rcases h with ⟨i, q, hi0, hi, hq, hp, hC, hM, hV⟩ | ⟨r, hr, hC, hM⟩
  · have hM0 := hM
    obtain ⟨k1, k2, k3, k4, k5, k6, k7, k8, k9, k10⟩ := hM
    have hpp := (pos_ok hX i).1
    by_cases hk : kd X (pos X i) = 45
    · obtain ⟨e1, e2, e3, e4⟩ := step_c hX (a := 45) (by decide) (by decide) hk
      obtain ⟨C1, f1, f2⟩ := adv_live z hC (by omega)
      have m1 : Ml X m (ms_at M (J ((pos X i + 1 : Nat) : Int))) (pos X i + 1) o p b s' T D := Ml_at hM0 rfl
      have rw1 : F_X3_readWhole z 1 C = bd2 (F_X3_readNumber z 1 1 C1) fun r S => some (r, S) := by
        unfold F_X3_readWhole
        rw [if_pos (show cg_token C = 45 by rw [hC.2.2.2.2.1, hk]; rfl)]
        unfold G_X3_readWhole_14
        rw [if_neg n10, f1, Option.bind_some]
      have hd := dv9 X (pos X (i + 1))
      have hpp1 := (pos_ok hX (i + 1)).1
      by_cases hk2 : kd X (pos X (i + 1)) = -2
      · obtain ⟨M', q', g1, g2, g3, g4, g6, g5⟩ := num_go hz hT m1 (by omega) e4 hk2
        obtain ⟨C2, r1, r2⟩ := rnum_bad z f2 (by omega) hk2 1 1 n10 (fun g => n10 g.1)
        refine ⟨1, -L (dv X 9 (pos X (i + 1)) 0), C2, M', _, by decide, by decide, ?_, ?_, chk_bad z g2.2.2.1 ?_ g6, Or.inr ⟨_, rne (by decide) (by decide) (by omega), r2, Ml_fault g2 _ (by omega)⟩⟩
        · rw [rw1, r1, bd2_some]; rfl
        · rw [whole_neg hz hT k2 (by omega) k4 hp e1, g1, bd2_some]
        · rw [L_neg, l0, L_lt b60 ⟨by omega, by omega⟩]; omega
      · obtain ⟨M', g1, g2, -⟩ := num_no hz hT m1 (by omega) e4 hk2
        obtain ⟨C2, r1, r2⟩ := rnum_no z f2 (by omega) hk2 1 1
        have rn0 := rne (f := 1) (p := pos X (i + 1)) (by decide) (by decide) (by omega)
        refine ⟨1, -L (dv X 9 (pos X (i + 1)) 0), C2, M', M', by decide, by decide, ?_, ?_, chk_dead z _ (by rw [g2.2.2.1]; exact rn0), Or.inr ⟨_, rn0, r2, Md_le g2 (by omega)⟩⟩
        · rw [rw1, r1, bd2_some]; rfl
        · rw [whole_neg hz hT k2 (by omega) k4 hp e1, g1, bd2_some]
    · have nb45 : bv X (pos X i) ≠ 45 := fun e => hk ((kd_c (by decide) (by decide)).mpr e)
      have m1 : Ml X m (ms_at M (J (pos X i))) (pos X i) o p b s' T D := Ml_at hM0 rfl
      have rw1 : F_X3_readWhole z 1 C = bd2 (F_X3_readNumber z 0 1 C) fun r S => some (r, S) := by
        unfold F_X3_readWhole
        rw [if_neg (show ¬ cg_token C = 45 from fun g => hk ((tok hC.2.2.2.2.1 (kd_b _ _) (a := 45) (by decide)).mp g))]
        unfold G_X3_readWhole_14
        rw [if_pos rfl]
      have hd := dv9 X (pos X i)
      by_cases hk2 : kd X (pos X i) = -2
      · obtain ⟨M', q', g1, g2, g3, g4, g6, g5⟩ := num_go hz hT m1 (by omega) (pos_past hX i) hk2
        by_cases hv : 1 ≤ dv X 9 (pos X i) 0
        · obtain ⟨C2, r1, r2⟩ := rnum_go z hC (by omega) hk2 0 1 (Or.inr ⟨rfl, hv⟩)
          refine ⟨dv X 9 (pos X i) 0, L (dv X 9 (pos X i) 0), C2, M', M', hv, by omega, ?_, ?_, chk_go z g2.2.2.1 ?_, Or.inl ⟨i + 1, q', by omega, by omega, g3, g4, r2, g2, hV, rfl⟩⟩
          · rw [rw1, r1, bd2_some, if_pos rfl]
          · rw [whole_pos hz hT k2 (by omega) k4 hp nb45, g1, bd2_some]
          · rw [l0, L_lt b60 ⟨by omega, by omega⟩]; omega
        · obtain ⟨C2, r1, r2⟩ := rnum_bad z hC (by omega) hk2 0 1 n10 (fun g => hv g.2)
          refine ⟨1, L (dv X 9 (pos X i) 0), C2, M', _, by decide, by decide, ?_, ?_, chk_bad z g2.2.2.1 ?_ g6, Or.inr ⟨_, rne (by decide) (by decide) (by omega), r2, Ml_fault g2 _ (by omega)⟩⟩
          · rw [rw1, r1, bd2_some]; rfl
          · rw [whole_pos hz hT k2 (by omega) k4 hp nb45, g1, bd2_some]
          · rw [l0, L_lt b60 ⟨by omega, by omega⟩]; omega
      · obtain ⟨M', g1, g2, -⟩ := num_no hz hT m1 (by omega) (pos_past hX i) hk2
        obtain ⟨C2, r1, r2⟩ := rnum_no z hC (by omega) hk2 0 1
        have rn0 := rne (f := 1) (p := pos X i) (by decide) (by decide) (by omega)
        refine ⟨1, L (dv X 9 (pos X i) 0), C2, M', M', by decide, by decide, ?_, ?_, chk_dead z _ (by rw [g2.2.2.1]; exact rn0), Or.inr ⟨_, rn0, r2, Md_le g2 (by omega)⟩⟩
        · rw [rw1, r1, bd2_some]; rfl
        · rw [whole_pos hz hT k2 (by omega) k4 hp nb45, g1, bd2_some]
  · obtain ⟨v, M', g1, g2⟩ := whole_dead hz hT hM hr (by omega) hB2
    exact ⟨1, v, C, M', M', by decide, by decide, rwhole_dead z hC hr 1, g1, chk_dead z v (by rw [g2.2.2.1]; exact hr), Or.inr ⟨r, hr, hC, g2⟩⟩
