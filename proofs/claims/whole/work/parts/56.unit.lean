/-! tell: a SUM within a SUM; a UNIT -/
abbrev FC : Type := Nat → Int32 → CS → Option ((Int64 × Int64) × CS × Nat)
def Lv (X : Tx) (c : KC) (m : KM) (C : CS) (M : MS) (i q o p : Nat) (T D : Nat → Int64) : Prop := i ≤ 300 ∧ q ≤ X.2 ∧ past X 1 q = pos X i ∧ ∃ x b s, Cl X c C i x s ∧ Ml X m M q o p b s T D ∧ Ex x b
def Dd (X : Tx) (c : KC) (m : KM) (C : CS) (M : MS) (b : Nat) : Prop := ∃ r, r ≠ 0 ∧ Cd X c C r ∧ Md X m M r b
def Po (X : Tx) (c : KC) (m : KM) (b i o p n : Nat) (T D : Nat → Int64) (u : Int64 × Int64) (C' : CS) (n' : Nat) (M' : MS) : Prop := Gd u ∧ ∃ i' : Nat, i ≤ i' ∧ i' ≤ 300 ∧ n' + 2 * i ≤ n + 2 * i' ∧ ((i < i' ∧ p + 1 ≤ i' ∧ ∃ (q : Nat) (T' D' : Nat → Int64), Lv X c m C' M' i' q o (p + 1) T' D' ∧ T' p = u.1 ∧ D' p = u.2 ∧ ∀ j, j < p → T' j = T j ∧ D' j = D j) ∨ Dd X c m C' M' b)
def HS (X : Tx) (c : KC) (m : KM) (d : Nat) (fC : FC) (fM : MS → Option MS) : Prop :=
  (∀ (C : CS) (M : MS) (i q o p n : Nat) (T D : Nat → Int64), Lv X c m C M i q o p T D → o ≤ 9 → 11 ≤ d + o → n ≤ 2 * i → p ≤ i → ∃ u C' n' M', fC n (J o) C = some (u, C', n') ∧ fM M = some M' ∧ Po X c m (400 + 20 * d) i o p n T D u C' n' M') ∧
  (1 ≤ d → ∀ (M : MS) (r : Int32) (b : Nat), r ≠ 0 → Md X m M r b → 300 ≤ b → b < 1800 → ∃ M', fM M = some M' ∧ Md X m M' r (b + 1))
theorem updL_at (f : Nat → Int64) (k : Nat) (x : Int64) : vp_updL f k x k = x := by unfold vp_updL; rw [if_pos rfl]
theorem updL_ne {f : Nat → Int64} {k j : Nat} (x : Int64) (h : j ≠ k) : vp_updL f k x j = f j := by unfold vp_updL; rw [if_neg h]
theorem Po_live {X : Tx} {c : KC} {m : KM} {B i o p n : Nat} {T D : Nat → Int64} {u : Int64 × Int64} {C' : CS} {n' : Nat} {M' : MS} {i' q : Nat} {x b s : Int32} {T0 D0 : Nat → Int64} (hu : Gd u) (h1 : i < i') (h2 : i' ≤ 300) (h3 : n' + 2 * i ≤ n + 2 * i') (h4 : p + 1 ≤ i') (h5 : q ≤ X.2) (h6 : past X 1 q = pos X i') (hC : Cl X c C' i' x s) (hM : Ml X m M' q o (p + 1) b s (vp_updL T0 p u.1) (vp_updL D0 p u.2)) (hx : Ex x b) (hA : ∀ j, j < p → T0 j = T j ∧ D0 j = D j) : Po X c m B i o p n T D u C' n' M' := by
  refine ⟨hu, i', by omega, h2, h3, Or.inl ⟨h1, h4, q, _, _, ⟨h2, h5, h6, x, b, s, hC, hM, hx⟩, updL_at _ _ _, updL_at _ _ _, fun j hj => ?_⟩⟩
  rw [updL_ne _ (by omega), updL_ne _ (by omega)]
  exact hA j hj
theorem Po_dead {X : Tx} {c : KC} {m : KM} {B i o p n : Nat} {T D : Nat → Int64} {u : Int64 × Int64} {C' : CS} {n' : Nat} {M' : MS} {i' : Nat} {r : Int32} {b : Nat} (hu : Gd u) (h1 : i ≤ i') (h2 : i' ≤ 300) (h3 : n' + 2 * i ≤ n + 2 * i') (hr : r ≠ 0) (hC : Cd X c C' r) (hM : Md X m M' r b) (hb : b ≤ B) : Po X c m B i o p n T D u C' n' M' := ⟨hu, i', h1, h2, h3, Or.inr ⟨r, hr, hC, Md_le hM hb⟩⟩
/-- brackets -/
theorem br {z : Nat} (hz : 400 ≤ z) {X : Tx} (hT : TxOk X) {c : KC} {m : KM} {d : Nat} (hd2 : d < 30) {fC : FC} {fM : MS → Option MS} (H : HS X c m d fC fM) {C : CS} {M : MS} {i q o p n : Nat} {T D : Nat → Int64} (hL : Lv X c m C M i q o p T D) (ho : o ≤ 9) (hd : 11 ≤ d + 1 + o) (hn : n ≤ 2 * i) (hpi : p ≤ i) : ∃ u C' n' M1 M2 M', F_X3_readBrackets z fC n (J o) C = some (u, C', n') ∧ F_X7_opens z M = some M1 ∧ fM M1 = some M2 ∧ F_X7_closes z M2 = some M' ∧ Po X c m (400 + 20 * (d + 1)) i o p n T D u C' n' M' := by
  have hX := hT.1
  obtain ⟨hi, hq, hp, x, b, s, hC, hM, hx⟩ := hL
  have hpp := (pos_ok hX i).1
  obtain ⟨o1, o2, o3⟩ := opens_live hz hT hM.2.1 (by omega) hM.2.2.2.1 hM.2.2.1 hp (by omega) hM.2.2.2.2.1 ho
  have dead : ∀ (f : Int) (C1 : CS) (M1 : MS), 1 ≤ f → f ≤ 3 → F_X3_goesIn z (J o) C = some (0, C1) → Cd X c C1 (J (f + 8 * (pos X i : Int))) → F_X7_opens z M = some M1 → Md X m M1 (J (f + 8 * (pos X i : Int))) 301 → ∃ u C' n' M1 M2 M', F_X3_readBrackets z fC n (J o) C = some (u, C', n') ∧ F_X7_opens z M = some M1 ∧ fM M1 = some M2 ∧ F_X7_closes z M2 = some M' ∧ Po X c m (400 + 20 * (d + 1)) i o p n T D u C' n' M' := by
    intro f C1 M1 f1 f2 a1 a2 a3 a4
    have rn0 := rne (f := f) (p := pos X i) f1 f2 (by omega)
    obtain ⟨M2, b1, b2⟩ := H.2 (by omega) M1 _ _ rn0 a4 (by omega) (by omega)
    obtain ⟨M3, c1, c2⟩ := closes_dead z b2 rn0
    refine ⟨(0, 1), C1, n, M1, M2, M3, ?_, a3, b1, c1, Po_dead Gd0 (Nat.le_refl i) hi (by omega) rn0 a2 c2 (by omega)⟩
    unfold F_X3_readBrackets
    rw [a1, bd2_some, if_pos rfl]
  by_cases hk : kd X (pos X i) = 40
  · obtain ⟨e1, e2, e3, e4⟩ := step_c hX (a := 40) (by decide) (by decide) hk
    by_cases o9 : o = 9
    · subst o9
      obtain ⟨C1, g1, g2⟩ := goes_9 z hX hC (by omega) hk
      exact dead 2 C1 _ (by decide) (by decide) g1 g2 (o2 e1 rfl) (Md_at (Md_open (Ml_fault hM _ (B := 300) (by omega)) _) rfl (by omega))
    · obtain ⟨C1, g1, g2⟩ := goes_go z hC (by omega) (o := o) (by omega) hk
      have L1 : Lv X c m C1 (ms_at (ms_open M (J ((o + 1 : Nat) : Int))) (J ((pos X i + 1 : Nat) : Int))) (i + 1) (pos X i + 1) (o + 1) p T D := ⟨by omega, by omega, e4, x, b, s, g2, Ml_at (Ml_open hM rfl) rfl, hx⟩
      obtain ⟨u, C2, n2, M2, f1, f2, gu, i2, j1', j2', j3', f3⟩ := H.1 _ _ _ _ _ _ n _ _ L1 (by omega) (by omega) (by omega) (by omega)
      have rb : ∀ C3, F_X3_pass z (41 : Int32) C2 = some C3 → F_X3_readBrackets z fC n (J o) C = some (u, C3, n2) := by
        intro C3 h3
        unfold F_X3_readBrackets
        rw [g1, bd2_some, if_neg n10, j1, J_add, show J ((o : Int) + 1) = J ((o + 1 : Nat) : Int) from rfl, f1, bd3_some, h3, Option.bind_some]
      rcases f3 with ⟨j4', j5', q2, T2, D2, ⟨-, l2, l3, x2, b2, s2, l4, l5, l6⟩, t1, t2, t3⟩ | ⟨r, hr, hC2, hM2⟩
      · have st : Tst X c m C2 M2 i2 (o + 1) (p + 1) x2 b2 s2 s2 T2 D2 301 True := Or.inl ⟨i2, q2, Nat.le_refl _, j2', l2, l3, l4, l5, trivial⟩
        obtain ⟨C3, M3, h1, h2, h3⟩ := st_closes hz hT st (by omega)
        refine ⟨u, C3, n2, _, M2, M3, rb C3 h1, o1 e1 o9, f2, h2, ?_⟩
        rcases h3 with ⟨i3, q3, a1, a2, a3, a4, a5, a6, -⟩ | ⟨r, hr, hC3, hM3⟩
        · exact ⟨gu, i3, by omega, a2, by omega, Or.inl ⟨by omega, by omega, q3, T2, D2, ⟨a2, a3, a4, x2, b2, s2, a5, a6, l6⟩, t1, t2, t3⟩⟩
        · exact Po_dead gu (i' := i2) (by omega) j2' (by omega) hr hC3 hM3 (by omega)
      · obtain ⟨M3, c1, c2⟩ := closes_dead z hM2 hr
        exact ⟨u, C2, n2, _, M2, M3, rb C2 (pass_dead z hC2 hr (a := 41) (by decide)), o1 e1 o9, f2, c1, Po_dead gu (i' := i2) (by omega) j2' (by omega) hr hC2 c2 (by omega)⟩
  · obtain ⟨C1, g1, g2⟩ := goes_no z hX hC (by omega) (J o) hk
    exact dead 1 C1 _ (by decide) (by decide) g1 g2 (o3 (fun e => hk ((kd_c (by decide) (by decide)).mpr e))) (Md_at (Md_open (Ml_fault hM _ (B := 300) (by omega)) _) rfl (by omega))
/-! the reference's UNIT, by its first byte -/
theorem unit_n {z : Nat} (hz : 400 ≤ z) (fM : MS → Option MS) {X : Tx} (hT : TxOk X) {M : MS} (hM : Mt X M) {q : Nat} (hq : q < 2000) (ha : mg_at M = J q) (hf : mg_fault M = 0) {p : Nat} (hp : past X 1 q = p) (h : so (bv X p) = 3) : F_X7_unit z fM M = (F_X7_laysDivided z (ms_at M (J p))).bind fun S => some S := by
  have h3 := (so_3 _).mp h
  have hb := bv_b X p
  unfold F_X7_unit
  rw [if_pos hf, here_ok hz hT hM hq ha, bd2_some, hp, show (48 : Int64) = L 48 from rfl, show (57 : Int64) = L 57 from rfl, isinI z ⟨by omega, by omega⟩ ⟨by decide, by decide⟩ ⟨by decide, by decide⟩, Option.bind_some, if_pos h3, if_neg n10]
theorem unit_nn {z : Nat} (hz : 400 ≤ z) (fM : MS → Option MS) {X : Tx} (hT : TxOk X) {M : MS} (hM : Mt X M) {q : Nat} (hq : q < 2000) (ha : mg_at M = J q) (hf : mg_fault M = 0) {p : Nat} (hp : past X 1 q = p) (h : so (bv X p) ≠ 3) : F_X7_unit z fM M = if 97 ≤ bv X p ∧ bv X p ≤ 122 then ((F_X7_laysWord z fM (ms_at M (J p))).bind fun S => some S) else if bv X p = 40 then ((F_X7_opens z (ms_at M (J p))).bind fun S1 => (fM S1).bind fun S2 => (F_X7_closes z S2).bind fun S3 => some S3) else ((F_X7_fails z (1 : Int32) (J p) (ms_at M (J p))).bind fun S => some S) := by
  have h3 : ¬ (48 ≤ bv X p ∧ bv X p ≤ 57) := fun g => h ((so_3 _).mpr g)
  have hb := bv_b X p
  unfold F_X7_unit
  rw [if_pos hf, here_ok hz hT hM hq ha, bd2_some, hp, show (48 : Int64) = L 48 from rfl, show (57 : Int64) = L 57 from rfl, isinI z ⟨by omega, by omega⟩ ⟨by decide, by decide⟩ ⟨by decide, by decide⟩, Option.bind_some, if_neg h3, if_pos rfl, show (97 : Int64) = L 97 from rfl, show (122 : Int64) = L 122 from rfl, isinI z ⟨by omega, by omega⟩ ⟨by decide, by decide⟩ ⟨by decide, by decide⟩, Option.bind_some]
  by_cases c1 : 97 ≤ bv X p ∧ bv X p ≤ 122
  · rw [if_pos c1, if_neg n10, if_pos c1]
  · rw [if_neg c1, if_pos rfl, if_neg c1]
    by_cases c2 : bv X p = 40
    · rw [if_pos (show J (bv X p) = 40 by rw [c2]; rfl), if_pos c2]
    · rw [if_neg (show ¬ J (bv X p) = 40 by rw [show (40 : Int32) = J 40 from rfl, J_eq ⟨by omega, by omega⟩ ⟨by decide, by decide⟩]; exact c2), if_neg c2, p_at_at]
/-! NUMBER, NUMBER / NUMBER -/
theorem div_dead {z : Nat} (hz : 400 ≤ z) {X : Tx} {m : KM} {M : MS} {r : Int32} {b p : Nat} (h : Md X m M r b) (hp : mg_piled M = J p) (hp2 : p < 300) {v y : Int} (hv : 0 ≤ v ∧ v ≤ 999999999) (hy : 0 ≤ y ∧ y ≤ 999999999) (w : Int32) : ∃ M', G_X7_laysDivided_73 z (L v) w (L y) M = some M' ∧ Md X m M' r b := by
  have key : ∀ y' : Int, 1 ≤ y' → y' ≤ 999999999 → ∃ M', ((F_X7_lays z (L v) (L y') M).bind fun S2 => (F_X7_piles z w S2).bind fun S3 => some S3) = some M' ∧ Md X m M' r b := by
    intro y' h1 h2
    obtain ⟨a, e, g1, g2, g3, g4⟩ := lays_pos (z := z) (by omega) (a := v) (b := y') (n := 999999999) (by omega) (by decide) (by omega) (by omega)
    obtain ⟨M', k1, k2⟩ := piles_dead z h hp hp2 (u := a) (v := e) g2.1 (by omega) (by omega) w
    exact ⟨M', by rw [g1, Option.bind_some, k1, Option.bind_some], k2⟩
  unfold G_X7_laysDivided_73
  by_cases c : y = 0
  · rw [if_pos (show L y = 0 by rw [c]; rfl), l1]
    exact key 1 (by omega) (by omega)
  · rw [if_neg (show ¬ L y = 0 by rw [l0, L_eq ⟨by omega, by omega⟩ b60]; exact c)]
    exact key y (by omega) hy.2
theorem U_num {z : Nat} (hz : 400 ≤ z) {X : Tx} (hT : TxOk X) {c : KC} {m : KM} {d : Nat} (fC : FC) (fM : MS → Option MS) {C : CS} {M : MS} {i q o p n : Nat} {T D : Nat → Int64} (hL : Lv X c m C M i q o p T D) (hn : n ≤ 2 * i) (hpi : p ≤ i) (hs : so (bv X (pos X i)) = 3) : ∃ u C' n' M', F_X3_readUnit z fC n (J o) C = some (u, C', n') ∧ F_X7_unit z fM M = some M' ∧ Po X c m (400 + 20 * (d + 1)) i o p n T D u C' n' M' := by
  have hX := hT.1
  obtain ⟨hi, hq, hp, x, b, s, hC, hM, hx⟩ := hL
  have hpp := (pos_ok hX i).1
  have hlt : pos X i < X.2 := so_in (by omega)
  have hi3 : i < 300 := by rcases pos_ge hX i with g | g <;> omega
  have hd9 := dv9 X (pos X i)
  have un := unit_n hz fM hT hM.2.1 (by omega) hM.2.2.2.1 hM.2.2.1 hp hs
  have hM1 : Ml X m (ms_at M (J (pos X i))) (pos X i) o p b s T D := Ml_at hM rfl
  by_cases hk : kd X (pos X i) = -2
  · obtain ⟨M2, q2, g1, g2, g3, g4, g5, -⟩ := num_go hz hT hM1 hpp (pos_past hX i) hk
    obtain ⟨C1, r1, r2⟩ := rnum_go z hC (by omega) hk 0 0 (Or.inl rfl)
    have hpp1 := (pos_ok hX (i + 1)).1
    have hb1 := bv_b X (pos X (i + 1))
    have hh := here_ok hz hT g2.2.1 (by omega) g2.2.2.2.1
    rw [g4] at hh
    have hM3 : Ml X m (ms_at M2 (J (pos X (i + 1)))) (pos X (i + 1)) o p b s T D := Ml_at g2 rfl
    have hf3 : mg_from (ms_at M2 (J (pos X (i + 1)))) = J (pos X i) := (p_from_at _ _).trans g5
    have ru : ∀ u C', F_X3_readNumbers z C = some (u, C') → F_X3_readUnit z fC n (J o) C = some (u, C', n + 1) := by
      intro u C' h
      unfold F_X3_readUnit
      rw [Option.bind_some, show cg_token C = -2 by rw [hC.2.2.2.2.1, hk]; rfl, if_neg (by decide), if_neg (by decide), if_neg (by decide), if_pos rfl, if_pos (by omega), h, bd2_some, Option.bind_some]
    by_cases h47 : kd X (pos X (i + 1)) = 47
    · obtain ⟨e1, e2, e3, e4⟩ := step_c hX (a := 47) (by decide) (by decide) h47
      obtain ⟨C2, a1, a2⟩ := adv_live z r2 (by omega)
      have hM4 : Ml X m (ms_at M2 (J ((pos X (i + 1) + 1 : Nat) : Int))) (pos X (i + 1) + 1) o p b s T D := Ml_at g2 rfl
      have hpp2 := (pos_ok hX (i + 1 + 1)).1
      have hd2 := dv9 X (pos X (i + 1 + 1))
      have rn : ∀ (k : Int) (C3 : CS) (a e : Int) (w : Int64 × Int64) (C4 : CS), F_X3_readNumber z 0 1 C2 = some (L k, C3) → F_X1_init z (L (dv X 9 (pos X i) 0)) (L k) = some (L a, L e) → F_X3_bounded z (L a, L e) (J ((i + 1 : Nat) : Int)) C3 = some (w, C4) → F_X3_readNumbers z C = some (w, C4) := by
        intro k C3 a e w C4 k1 k2 k3
        unfold F_X3_readNumbers
        rw [r1, bd2_some, if_pos rfl, if_pos (show cg_token C1 = 47 by rw [r2.2.2.2.2.1, h47]; rfl), Option.bind_some, a1, Option.bind_some, k1, bd2_some, k2, Option.bind_some, r2.2.2.2.1, k3, bd2_some]
      have dv0 : ∀ (y : Int64) (M5 : MS), F_X7_number z (ms_at M2 (J ((pos X (i + 1) + 1 : Nat) : Int))) = some (y, M5) → F_X7_laysDivided z (ms_at M (J (pos X i))) = if mg_fault M5 = 0 then (if y = 0 then (F_X7_fails z (2 : Int32) (mg_from M5) M5).bind fun S13 => G_X7_laysDivided_73 z (L (dv X 9 (pos X i) 0)) (J (pos X (i + 1))) y S13 else G_X7_laysDivided_73 z (L (dv X 9 (pos X i) 0)) (J (pos X (i + 1))) y M5) else G_X7_laysDivided_73 z (L (dv X 9 (pos X i) 0)) (J (pos X (i + 1))) y M5 := by
        intro y M5 h5
        unfold F_X7_laysDivided
        rw [g1, bd2_some, hh, bd2_some, if_pos (show J (bv X (pos X (i + 1))) = 47 by rw [e1]; rfl), Option.bind_some, Option.bind_some, Option.bind_some, p_at_at, p_at2, j1, J_add, show J ((pos X (i + 1) : Int) + 1) = J ((pos X (i + 1) + 1 : Nat) : Int) from rfl, h5, bd2_some]
      by_cases hk2 : kd X (pos X (i + 1 + 1)) = -2
      · obtain ⟨M5, q5, w1, w2, w3, w4, w5, w6⟩ := num_go hz hT hM4 (by omega) e4 hk2
        have D5 := dv0 _ M5 w1
        rw [if_pos w2.2.2.1] at D5
        by_cases hv : 1 ≤ dv X 9 (pos X (i + 1 + 1)) 0
        · obtain ⟨C3, b1, b2⟩ := rnum_go z a2 (by omega) hk2 0 1 (Or.inr ⟨rfl, hv⟩)
          rw [if_pos rfl] at b1
          obtain ⟨a, e, f1, f2, f3, f4, f5, f6, f7⟩ := frac_ok (z := z) (by omega) (a := dv X 9 (pos X i) 0) (b := dv X 9 (pos X (i + 1 + 1)) 0) (c := dv X 9 (pos X i) 0) (d := dv X 9 (pos X (i + 1 + 1)) 0) (n := 999999999) (m := 999999999) (by omega) (by decide) (by omega) (by omega) (by omega) (by decide) (by omega) (by omega) rfl
          obtain ⟨w, C4, M6, x', b', y1, y2, y3, y4, y5, y6⟩ := bp z hX b2 w2 hx (j := i + 1) (by omega) (by omega) f3.1 (by omega) (by omega) f3.2.1
          refine ⟨w, C4, n + 1, M6, ru _ _ (rn _ _ _ _ _ _ b1 f1 y1), ?_, Po_live y3 (i' := i + 1 + 1 + 1) (by omega) (by omega) (by omega) (by omega) w3 w4 y4 y5 y6 (fun j hj => ⟨rfl, rfl⟩)⟩
          rw [if_neg (show ¬ L (dv X 9 (pos X (i + 1 + 1)) 0) = 0 by rw [l0, L_eq ⟨by omega, by omega⟩ b60]; omega)] at D5
          rw [un, D5]
          unfold G_X7_laysDivided_73
          rw [if_neg (show ¬ L (dv X 9 (pos X (i + 1 + 1)) 0) = 0 by rw [l0, L_eq ⟨by omega, by omega⟩ b60]; omega), f2, Option.bind_some, y2, Option.bind_some, Option.bind_some]
        · obtain ⟨C3, b1, b2⟩ := rnum_bad z a2 (by omega) hk2 0 1 n10 (fun g => hv g.2)
          obtain ⟨a, e, f1, f2, f3, f4⟩ := init_ok (z := z) (by omega) (a := dv X 9 (pos X i) 0) (b := 1) (n := 999999999) (by omega) (by decide) (by decide) (by decide)
          obtain ⟨w, C4, y1, y2, y3⟩ := bnd_dead z f2.1 (by omega) (by omega) f2.2.1 b2 (j := i + 1) (by omega)
          have rn0 := rne (f := 2) (p := pos X (i + 1 + 1)) (by decide) (by decide) (by omega)
          obtain ⟨M6, z1, z2⟩ := div_dead hz (Ml_fault w2 (J (2 + 8 * (pos X (i + 1 + 1) : Int))) (B := 300) (by omega)) ((p_piled_fault _ _).trans w2.2.2.2.2.2.1) (by omega) hd9 hd2 (J (pos X (i + 1)))
          refine ⟨w, C4, n + 1, M6, ru _ _ (rn 1 _ _ _ _ _ b1 f1 y1), ?_, Po_dead y2 (i' := i + 1 + 1) (by omega) (by omega) (by omega) rn0 y3 z2 (by omega)⟩
          rw [if_pos (show L (dv X 9 (pos X (i + 1 + 1)) 0) = 0 by rw [show dv X 9 (pos X (i + 1 + 1)) 0 = 0 by omega]; rfl), w5, j2, fails_0 z w2.2.2.1, Option.bind_some] at D5
          rw [un, D5, z1, Option.bind_some]
      · obtain ⟨M5, w1, w2, w3⟩ := num_no hz hT hM4 (by omega) e4 hk2
        obtain ⟨C3, b1, b2⟩ := rnum_no z a2 (by omega) hk2 0 1
        obtain ⟨a, e, f1, f2, f3, f4⟩ := init_ok (z := z) (by omega) (a := dv X 9 (pos X i) 0) (b := 1) (n := 999999999) (by omega) (by decide) (by decide) (by decide)
        obtain ⟨w, C4, y1, y2, y3⟩ := bnd_dead z f2.1 (by omega) (by omega) f2.2.1 b2 (j := i + 1) (by omega)
        have rn0 := rne (f := 1) (p := pos X (i + 1 + 1)) (by decide) (by decide) (by omega)
        obtain ⟨M6, z1, z2⟩ := div_dead hz w2 w3 (by omega) hd9 hd2 (J (pos X (i + 1)))
        have D5 := dv0 _ M5 w1
        rw [if_neg (show ¬ mg_fault M5 = 0 by rw [w2.2.2.1]; exact rn0)] at D5
        refine ⟨w, C4, n + 1, M6, ru _ _ (rn 1 _ _ _ _ _ b1 f1 y1), ?_, Po_dead y2 (i' := i + 1 + 1) (by omega) (by omega) (by omega) rn0 y3 z2 (by omega)⟩
        rw [un, D5, z1, Option.bind_some]
    · obtain ⟨a, e, f1, f2, f3, f4, f5, f6, f7⟩ := frac_ok (z := z) (by omega) (a := dv X 9 (pos X i) 0) (b := 1) (c := dv X 9 (pos X i) 0) (d := 1) (n := 999999999) (m := 999999999) (by omega) (by decide) (by decide) (by decide) (by omega) (by decide) (by decide) (by decide) rfl
      have f31 := f3.1
      obtain ⟨M6, y1, y2⟩ := pile_in z hM3 (by omega) f31 (u := a) (by omega) (by omega) (J (pos X i))
      have rn : F_X3_readNumbers z C = some ((L a, L e), C1) := by
        unfold F_X3_readNumbers
        rw [r1, bd2_some, if_pos rfl, if_neg (show ¬ cg_token C1 = 47 from fun g => h47 ((tok r2.2.2.2.2.1 (kd_b _ _) (a := 47) (by decide)).mp g)), l1, f1, Option.bind_some]
      refine ⟨(L a, L e), C1, n + 1, M6, ru _ _ rn, ?_, Po_live (u := (L a, L e)) ⟨a, e, rfl, f31, by omega, by omega, f3.2.1⟩ (i' := i + 1) (by omega) (by omega) (by omega) (by omega) hpp1 (pos_past hX _) r2 y2 hx (fun j hj => ⟨rfl, rfl⟩)⟩
      rw [un]
      unfold F_X7_laysDivided
      rw [g1, bd2_some, hh, bd2_some, if_neg (show ¬ J (bv X (pos X (i + 1))) = 47 by rw [show (47 : Int32) = J 47 from rfl, J_eq ⟨by omega, by omega⟩ ⟨by decide, by decide⟩]; exact fun g => h47 ((kd_c (by decide) (by decide)).mpr g)), l1, f2, Option.bind_some, p_from_under, p_from_up, hf3, y1, Option.bind_some, Option.bind_some]
  · have h6 : kd X (pos X i) = -6 := by
      have hk' := hk
      rw [kd_n] at hk'
      unfold kd
      rw [if_neg (by omega), if_neg (by omega), if_pos hs, if_neg (fun g => hk' ⟨hs, g⟩)]
    obtain ⟨M2, g1, g2, g3⟩ := num_no hz hT hM1 hpp (pos_past hX i) hk
    obtain ⟨C1, r1, r2⟩ := ref_live z hC (by omega) 1
    have rn0 := rne (f := 1) (p := pos X i) (by decide) (by decide) (by omega)
    have ru : F_X3_readUnit z fC n (J o) C = some ((0, 1), C1, n) := by
      unfold F_X3_readUnit
      rw [Option.bind_some, show cg_token C = -6 by rw [hC.2.2.2.2.1, h6]; rfl, if_neg (by decide), if_neg (by decide), if_neg (by decide), if_neg (by decide), if_neg (by decide), j1, r1, Option.bind_some]
    obtain ⟨v, q3, hq3, hh⟩ := here_dead hz hT g2 (by omega) (by omega)
    have g4 := Md_at g2 (v := J (q3 : Int)) (b' := 300) rfl hq3
    have p4 : mg_piled (ms_at M2 (J q3)) = J p := (p_piled_at _ _).trans g3
    refine ⟨(0, 1), C1, n, ?_⟩
    rw [un]
    unfold F_X7_laysDivided
    rw [g1, bd2_some, hh, bd2_some]
    by_cases c47 : J v = 47
    · rw [if_pos c47, Option.bind_some, Option.bind_some, Option.bind_some, p_at_at, p_at2]
      obtain ⟨M5, w1, w2, w3⟩ := number_dead hz hT (Md_at g2 (v := J (q3 : Int) + 1) (q := q3 + 1) (b' := 301) (by rw [j1, J_add]; rfl) (by omega)) rn0 (by omega) (by omega)
      rw [w1, bd2_some, if_neg (show ¬ mg_fault M5 = 0 by rw [w2.2.2.1]; exact rn0), l0]
      obtain ⟨M6, z1, z2⟩ := div_dead hz w2 (w3.trans ((p_piled_at _ _).trans g3)) (by omega) hd9 (y := 0) (by decide) (J (q3 : Int))
      rw [z1, Option.bind_some]
      exact ⟨M6, ru, rfl, Po_dead Gd0 (Nat.le_refl i) hi (by omega) rn0 r2 z2 (by omega)⟩
    · rw [if_neg c47]
      obtain ⟨a, e, f1, f2, f3, f4⟩ := lays_pos (z := z) (by omega) (a := dv X 9 (pos X i) 0) (b := 1) (n := 999999999) (by omega) (by decide) (by decide) (by decide)
      rw [l1, f1, Option.bind_some]
      obtain ⟨M6, z1, z2⟩ := piles_dead z g4 p4 (by omega) (u := a) (v := e) f2.1 (by omega) (by omega) (mg_from (ms_under (ms_up (ms_at M2 (J q3)) (L a)) (L e)))
      rw [z1, Option.bind_some, Option.bind_some]
      exact ⟨M6, ru, rfl, Po_dead Gd0 (Nat.le_refl i) hi (by omega) rn0 r2 z2 (by omega)⟩
