/-! pyramid -/
/-- counted row by row -/
theorem rows {A B : Int} {C : Int} {P Q : Nat} (hA : 0 < A) (hB : 0 < B) (hC : 0 ≤ C) (h1 : C ≤ A * (P : Int)) (h2 : C ≤ B * (Q : Int)) : sm (C / A + 1).toNat (fun u => (C - A * (u : Int)) / B + 1) = sm (P + 1) (fun u => sm (Q + 1) (fun w => if B * (w : Int) ≤ C - A * (u : Int) then 1 else 0)) := by
  have q0 := Int.ediv_nonneg hC (Int.le_of_lt hA)
  have q1 : C / A ≤ P := by
    have : C / A < (P : Int) + 1 := Int.ediv_lt_of_lt_mul hA (by rw [Int.add_mul, Int.mul_comm (P : Int)]; omega)
    omega
  symm
  rw [sm_cut (k := (C / A + 1).toNat) (by omega) (fun u hu1 hu2 => ?_)]
  · refine sm_ext (fun u hu => ?_)
    have e1 : (u : Int) ≤ C / A := by omega
    have e2 : A * (u : Int) ≤ C := by
      have := (Int.le_ediv_iff_mul_le hA).mp e1
      rwa [Int.mul_comm] at this
    have e5 : 0 ≤ A * (u : Int) := Int.mul_nonneg (by omega) (by omega)
    have e3 := Int.ediv_nonneg (show 0 ≤ C - A * (u : Int) by omega) (Int.le_of_lt hB)
    have e4 : (C - A * (u : Int)) / B < (Q : Int) + 1 := Int.ediv_lt_of_lt_mul hB (by rw [Int.add_mul, Int.mul_comm (Q : Int)]; omega)
    rw [sm_cnt0 hB]
    omega
  · have e1 : C / A < (u : Int) := by omega
    have e2 : C < A * (u : Int) := by
      have := (Int.ediv_lt_iff_lt_mul hA).mp e1
      rwa [Int.mul_comm] at this
    rw [sm_cnt0 hB]
    have e3 : (C - A * (u : Int)) / B < 0 := Int.ediv_neg_of_neg_of_pos (by omega) hB
    omega
theorem PB_rows {a b : Nat} {c : Int} (ha : 0 < a) (hc : 0 ≤ c) : PB a b c = sm (c / (a : Int) + 1).toNat (fun u => (c - (a : Int) * (u : Int)) / (b : Int) + 1) := by
  have q0 := Int.ediv_nonneg hc (show (0 : Int) ≤ a by omega)
  have hd := Int.emod_add_mul_ediv c (a : Int)
  unfold PB
  rw [if_pos hc, sm_add, sm_const, Int.add_comm]
  obtain ⟨N, hN⟩ : ∃ w : Nat, c / (a : Int) = w := ⟨(c / (a : Int)).toNat, by omega⟩
  rw [hN] at hd ⊢
  rw [show ((N : Int) + 1).toNat = N + 1 from rfl]
  congr 1
  · unfold Sf
    rw [sm_back]
    refine sm_ext (fun u hu => ?_)
    congr 1
    rw [show ((N + 1 - 1 - u : Nat) : Int) = (N : Int) - u by omega, Int.mul_sub]
    omega
  · simp
theorem pyr_eq {a b c : Nat} (ha : 0 < a) (hb : 0 < b) (hc : 0 < c) : sm (a + 1) (fun l => PB (a * c) (a * b) ((l : Int) * b * c)) = sm (c + 1) (fun zz => sm (((c : Int) - (zz : Int)) * a * b / ((b : Int) * c) + 1).toNat (fun x => (((c : Int) - (zz : Int)) * a * b - (b : Int) * c * (x : Int)) / ((a : Int) * c) + 1)) := by
  have aI : (0 : Int) < a := by omega
  have bI : (0 : Int) < b := by omega
  have cI : (0 : Int) < c := by omega
  have ac := Int.mul_pos aI cI
  have ab := Int.mul_pos aI bI
  have bc := Int.mul_pos bI cI
  have left : sm (a + 1) (fun l => PB (a * c) (a * b) ((l : Int) * b * c)) = sm (a + 1) (fun l => sm (b + 1) (fun y => sm (c + 1) (fun w => if ((a : Int) * b) * (w : Int) ≤ (l : Int) * b * c - ((a : Int) * c) * (y : Int) then 1 else 0))) := by
    refine sm_ext (fun l hl => ?_)
    have hl0 : 0 ≤ (l : Int) * b * c := Int.mul_nonneg (Int.mul_nonneg (by omega) (by omega)) (by omega)
    have hl1 : (l : Int) * ((b : Int) * c) ≤ (a : Int) * ((b : Int) * c) := Int.mul_le_mul_of_nonneg_right (by omega) (by omega)
    rw [PB_rows (Nat.mul_pos ha hc) hl0, Int.natCast_mul, Int.natCast_mul]
    exact rows ac ab hl0 (by grind) (by grind)
  have right : ∀ zz : Nat, zz < c + 1 → sm (((c : Int) - (zz : Int)) * a * b / ((b : Int) * c) + 1).toNat (fun x => (((c : Int) - (zz : Int)) * a * b - (b : Int) * c * (x : Int)) / ((a : Int) * c) + 1) = sm (a + 1) (fun x => sm (b + 1) (fun y => if ((a : Int) * c) * (y : Int) ≤ ((c : Int) - (zz : Int)) * a * b - (b : Int) * c * (x : Int) then 1 else 0)) := by
    intro zz hzz
    have hl0 : 0 ≤ ((c : Int) - (zz : Int)) * a * b := Int.mul_nonneg (Int.mul_nonneg (by omega) (by omega)) (by omega)
    have hl1 : ((c : Int) - (zz : Int)) * ((a : Int) * b) ≤ (c : Int) * ((a : Int) * b) := Int.mul_le_mul_of_nonneg_right (by omega) (by omega)
    exact rows bc ac hl0 (by grind) (by grind)
  rw [left, sm_ext (fun zz hz => right zz hz), sm_swap (c + 1) (a + 1), sm_back (a + 1)]
  refine sm_ext (fun x hx => ?_)
  rw [sm_swap (c + 1) (b + 1)]
  refine sm_ext (fun y hy => sm_ext (fun w hw => ?_))
  rw [show ((a + 1 - 1 - x : Nat) : Int) = (a : Int) - x by omega]
  have key : ((a : Int) * b) * (w : Int) ≤ ((a : Int) - x) * b * c - ((a : Int) * c) * (y : Int) ↔ ((a : Int) * c) * (y : Int) ≤ ((c : Int) - (w : Int)) * a * b - (b : Int) * c * (x : Int) := by
    have e1 : ((a : Int) - x) * b * c = (a : Int) * b * c - (b : Int) * c * (x : Int) := by grind
    have e2 : ((c : Int) - (w : Int)) * a * b = (a : Int) * b * c - ((a : Int) * b) * (w : Int) := by grind
    rw [e1, e2]
    omega
  by_cases h : ((a : Int) * c) * (y : Int) ≤ ((c : Int) - (w : Int)) * a * b - (b : Int) * c * (x : Int)
  · rw [if_pos (key.mpr h), if_pos h]
  · rw [if_neg (fun q => h (key.mp q)), if_neg h]
theorem pyrC_loop {z : Nat} (hz : 200 ≤ z) {a b c : Nat} (ha : 0 < a) (hb : 0 < b) (hc : 0 < c) (ha2 : a ≤ 300) (hb2 : b ≤ 300) (hc2 : c ≤ 300) (C : CS) (d : Nat) : ∀ (n l : Nat), l + d = a + 1 → d + 1 ≤ n → G_X6_pyramid_46 z n (J a) (J b) (J c) (L (sm l (fun l => PB (a * c) (a * b) ((l : Int) * b * c)))) (J l) C = some (L (sm (a + 1) (fun l => PB (a * c) (a * b) ((l : Int) * b * c))), C) := by
  have w1 : a * c ≤ 300 * 300 := Nat.mul_le_mul ha2 hc2
  have w2 : a * b ≤ 300 * 300 := Nat.mul_le_mul ha2 hb2
  have w3 := Nat.mul_pos ha hc
  have w4 := Nat.mul_pos ha hb
  induction d with
  | zero =>
    intro n l hl hn
    obtain ⟨n, rfl⟩ : ∃ w, n = w + 1 := ⟨n - 1, by omega⟩
    have : l = a + 1 := by omega
    subst this
    rw [e_X6_pyramid_46, if_pos (by rw [J_lt ⟨by omega, by omega⟩ ⟨by omega, by omega⟩]; omega)]
  | succ d ih =>
    intro n l hl hn
    obtain ⟨n, rfl⟩ : ∃ w, n = w + 1 := ⟨n - 1, by omega⟩
    have w5 : ((l : Int) * (b : Int) * (c : Int)).natAbs ≤ 300 * 300 * 300 := nm (nm (by omega) (by omega)) (by omega)
    have p := (pb_ok hz (a := a * c) (b := a * b) (c := (l : Int) * b * c) w3 (by omega) w4 (by omega) (by omega) (by omega)).1
    rw [Int.natCast_mul, Int.natCast_mul] at p
    rw [e_X6_pyramid_46, if_neg (by rw [J_lt ⟨by omega, by omega⟩ ⟨by omega, by omega⟩]; omega), J_L ⟨by omega, by omega⟩, J_L ⟨by omega, by omega⟩, J_L ⟨by omega, by omega⟩, J_L ⟨by omega, by omega⟩, L_mul, L_mul, L_mul, L_mul, p]
    simp only [Option.bind_some]
    rw [L_add, j1, J_add]
    exact ih n (l + 1) (by omega) (by omega)
theorem pyrI_loop (z : Nat) {a b c : Nat} (ha : 0 < a) (hb : 0 < b) (hc : 0 < c) (ha2 : a ≤ 300) (hb2 : b ≤ 300) (hc2 : c ≤ 300) (k : Int32 → Int32 → Int32 → Int64 → Int32 → MS → Option (Int64 × MS)) (M : MS) (t : Int) (zz : Nat) (all : Int) (h0 : 0 ≤ all) (h1 : all ≤ 27000000) (d : Nat) : ∀ (n x : Nat), (x : Int) + d = all / ((b : Int) * c) + 1 → x ≤ 301 → d + x ≤ 301 → d + 1 ≤ n → G_X7_pyramid_73 z k n (J a) (J b) (J c) (L (t + sm x (fun x => (all - (b : Int) * c * (x : Int)) / ((a : Int) * c) + 1))) (J zz) (L all) (J x) M = k (J a) (J b) (J c) (L (t + sm (all / ((b : Int) * c) + 1).toNat (fun x => (all - (b : Int) * c * (x : Int)) / ((a : Int) * c) + 1))) (J zz + 1) M := by
  have bc : 0 < (b : Int) * c := Int.mul_pos (by omega) (by omega)
  have ac : 0 < (a : Int) * c := Int.mul_pos (by omega) (by omega)
  have acb : ((a : Int) * (c : Int)).natAbs ≤ 300 * 300 := nm (by omega) (by omega)
  induction d with
  | zero =>
    intro n x hx hx2 hdx hn
    obtain ⟨n, rfl⟩ : ∃ w, n = w + 1 := ⟨n - 1, by omega⟩
    have w5 : ((x : Int) * (b : Int) * (c : Int)).natAbs ≤ 301 * 300 * 300 := nm (nm (by omega) (by omega)) (by omega)
    have e1 : all < (x : Int) * b * c := by
      have : all / ((b : Int) * c) < x := by omega
      have := (Int.ediv_lt_iff_lt_mul bc).mp this
      rwa [← Int.mul_assoc] at this
    have e2 : (all / ((b : Int) * c) + 1).toNat = x := by omega
    rw [e_X7_pyramid_73, J_L ⟨by omega, by omega⟩, J_L ⟨by omega, by omega⟩, J_L ⟨by omega, by omega⟩, L_mul, L_mul, if_pos (by rw [L_lt ⟨by omega, by omega⟩ ⟨by omega, by omega⟩]; exact e1), Option.bind_some, e2]
  | succ d ih =>
    intro n x hx hx2 hdx hn
    obtain ⟨n, rfl⟩ : ∃ w, n = w + 1 := ⟨n - 1, by omega⟩
    have w5 : ((x : Int) * (b : Int) * (c : Int)).natAbs ≤ 301 * 300 * 300 := nm (nm (by omega) (by omega)) (by omega)
    have e1 : ¬ all < (x : Int) * b * c := by
      have h9 : (x : Int) ≤ all / ((b : Int) * c) := by omega
      have := (Int.le_ediv_iff_mul_le bc).mp h9
      rw [← Int.mul_assoc] at this
      omega
    have nac : ¬ L ((a : Int) * c) = 0 := by rw [l0, L_eq ⟨by omega, by omega⟩ b60]; omega
    rw [e_X7_pyramid_73, J_L ⟨by omega, by omega⟩, J_L ⟨by omega, by omega⟩, J_L ⟨by omega, by omega⟩, J_L ⟨by omega, by omega⟩, L_mul, L_mul, L_mul, if_neg (by rw [L_lt ⟨by omega, by omega⟩ ⟨by omega, by omega⟩]; exact e1), if_neg nac]
    simp only [Option.bind_some]
    rw [L_sub, L_div ⟨by omega, by omega⟩ ⟨by omega, by omega⟩, Int.tdiv_eq_ediv_of_nonneg (by omega), l1, L_add, L_add, j1, J_add]
    have e3 : (x : Int) * b * c = (b : Int) * c * (x : Int) := by grind
    rw [e3, Int.add_assoc]
    exact ih n (x + 1) (by omega) (by omega) (by omega) (by omega)
theorem pyrM_loop {z : Nat} (hz : 1000 ≤ z) {a b c : Nat} (ha : 0 < a) (hb : 0 < b) (hc : 0 < c) (ha2 : a ≤ 300) (hb2 : b ≤ 300) (hc2 : c ≤ 300) (M : MS) (d : Nat) : ∀ (n w : Nat), w + d = c + 1 → d + 1 ≤ n → G_X7_pyramid_51 z n (J a) (J b) (J c) (L (sm w (fun zz => sm (((c : Int) - (zz : Int)) * a * b / ((b : Int) * c) + 1).toNat (fun x => (((c : Int) - (zz : Int)) * a * b - (b : Int) * c * (x : Int)) / ((a : Int) * c) + 1)))) (J w) M = some (L (sm (c + 1) (fun zz => sm (((c : Int) - (zz : Int)) * a * b / ((b : Int) * c) + 1).toNat (fun x => (((c : Int) - (zz : Int)) * a * b - (b : Int) * c * (x : Int)) / ((a : Int) * c) + 1))), M) := by
  have bc : 0 < (b : Int) * c := Int.mul_pos (by omega) (by omega)
  induction d with
  | zero =>
    intro n w hw hn
    obtain ⟨n, rfl⟩ : ∃ q, n = q + 1 := ⟨n - 1, by omega⟩
    have : w = c + 1 := by omega
    subst this
    rw [e_X7_pyramid_51, if_pos (by rw [J_lt ⟨by omega, by omega⟩ ⟨by omega, by omega⟩]; omega)]
  | succ d ih =>
    intro n w hw hn
    obtain ⟨n, rfl⟩ : ∃ q, n = q + 1 := ⟨n - 1, by omega⟩
    have h0 : 0 ≤ ((c : Int) - (w : Int)) * a * b := Int.mul_nonneg (Int.mul_nonneg (by omega) (by omega)) (by omega)
    have h1 : (((c : Int) - (w : Int)) * a * b).natAbs ≤ 300 * 300 * 300 := nm (nm (by omega) (by omega)) (by omega)
    have q0 := Int.ediv_nonneg h0 (Int.le_of_lt bc)
    have q1 : ((c : Int) - (w : Int)) * a * b / ((b : Int) * c) < (a : Int) + 1 := Int.ediv_lt_of_lt_mul bc (by
      have h2 : ((c : Int) - (w : Int)) * ((a : Int) * b) ≤ (c : Int) * ((a : Int) * b) := Int.mul_le_mul_of_nonneg_right (by omega) (Int.mul_nonneg (by omega) (by omega))
      grind)
    rw [e_X7_pyramid_51, if_neg (by rw [J_lt ⟨by omega, by omega⟩ ⟨by omega, by omega⟩]; omega), J_sub, J_L (v := (c : Int) - w) ⟨by omega, by omega⟩, J_L ⟨by omega, by omega⟩, J_L ⟨by omega, by omega⟩, L_mul, L_mul, Option.bind_some]
    have hin := pyrI_loop z ha hb hc ha2 hb2 hc2 (G_X7_pyramid_51 z n) M (sm w (fun zz => sm (((c : Int) - (zz : Int)) * a * b / ((b : Int) * c) + 1).toNat (fun x => (((c : Int) - (zz : Int)) * a * b - (b : Int) * c * (x : Int)) / ((a : Int) * c) + 1))) w (((c : Int) - (w : Int)) * a * b) h0 (by omega) (((c : Int) - (w : Int)) * a * b / ((b : Int) * c) + 1).toNat z 0 (by omega) (by omega) (by omega) (by omega)
    rw [show sm 0 (fun x => (((c : Int) - (w : Int)) * a * b - (b : Int) * c * (x : Int)) / ((a : Int) * c) + 1) = 0 from rfl, Int.add_zero] at hin
    rw [show (0 : Int32) = J ((0 : Nat) : Int) from rfl, hin, j1, J_add]
    exact ih n (w + 1) (by omega) (by omega)
theorem lc12_ok {z : Nat} (hz : 2000 ≤ z) (x1 x2 x3 x4 x5 : Int32) {C : CS} {M : MS} {lt : Int64 × Int64} (hI : Inv C M lt) : Okc (lc12 z x1 x2 x3 x4 x5 C M lt) := by
  obtain ⟨a, ha, rfl⟩ := J_of x1
  obtain ⟨b, hb, rfl⟩ := J_of x2
  obtain ⟨c, hc, rfl⟩ := J_of x3
  have l3h : (300 : Int64) = L 300 := by decide +kernel
  have e1 : ∀ {w : Int}, B3 w → F_X6_lies z (Int32.toInt64 (J w)) (1 : Int64) (300 : Int64) = some (if 1 ≤ w ∧ w ≤ 300 then 1 else 0) := fun hw => by rw [l3h, l1]; exact liesI z hw b61 ⟨by decide, by decide⟩
  have e2 : ∀ {w : Int}, B3 w → F_X7_isIn z (Int32.toInt64 (J w)) (1 : Int64) (300 : Int64) = some (if 1 ≤ w ∧ w ≤ 300 then 1 else 0) := fun hw => by rw [l3h, l1]; exact isinI z hw b61 ⟨by decide, by decide⟩
  have goal : ∃ r, F_X6_pyramid z (J a) (J b) (J c) C = some (r, C) ∧ F_X7_pyramid z (J a) (J b) (J c) M = some (r, ms_thrown M 0) := by
    unfold F_X6_pyramid F_X7_pyramid
    simp only [e1 ha, e1 hb, e1 hc, e2 ha, e2 hb, e2 hc, Option.bind_some]
    by_cases c1 : 1 ≤ a ∧ a ≤ 300
    · rw [if_pos c1, if_neg n10, if_neg n10]
      by_cases c2 : 1 ≤ b ∧ b ≤ 300
      · rw [if_pos c2, if_neg n10, if_neg n10]
        by_cases c3 : 1 ≤ c ∧ c ≤ 300
        · rw [if_pos c3, if_neg n10, if_neg n10]
          obtain ⟨a, rfl⟩ : ∃ q : Nat, a = q := ⟨a.toNat, by omega⟩
          obtain ⟨b, rfl⟩ : ∃ q : Nat, b = q := ⟨b.toNat, by omega⟩
          obtain ⟨c, rfl⟩ : ∃ q : Nat, c = q := ⟨c.toNat, by omega⟩
          have p1 := pyrC_loop (z := z) (by omega) (a := a) (b := b) (c := c) (by omega) (by omega) (by omega) (by omega) (by omega) (by omega) C (a + 1) z 0 (by omega) (by omega)
          have p2 := pyrM_loop (z := z) (by omega) (a := a) (b := b) (c := c) (by omega) (by omega) (by omega) (by omega) (by omega) (by omega) (ms_thrown M 0) (c + 1) z 0 (by omega) (by omega)
          rw [← pyr_eq (by omega) (by omega) (by omega)] at p2
          exact ⟨_, p1, p2⟩
        · rw [if_neg c3, if_pos rfl, if_pos rfl]; exact ⟨_, rfl, rfl⟩
      · rw [if_neg c2, if_pos rfl, if_pos rfl]; exact ⟨_, rfl, rfl⟩
    · rw [if_neg c1, if_pos rfl, if_pos rfl]; exact ⟨_, rfl, rfl⟩
  obtain ⟨r, g1, g2⟩ := goal
  exact ok_T g1 g2 (Inv_thrown hI)
