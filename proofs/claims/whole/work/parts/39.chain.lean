/-! above -/
theorem sgn_le {x y p q : Int} (hp : 0 < p) (hq : 0 < q) (h : x * p = y * q) : x ≤ 0 ↔ y ≤ 0 := by
  constructor
  · intro hx
    have h1 : x * p ≤ 0 * p := Int.mul_le_mul_of_nonneg_right hx (by omega)
    have h2 : y * q ≤ 0 * q := by omega
    exact Int.le_of_mul_le_mul_right h2 hq
  · intro hy
    have h1 : y * q ≤ 0 * q := Int.mul_le_mul_of_nonneg_right hy (by omega)
    have h2 : x * p ≤ 0 * p := by omega
    exact Int.le_of_mul_le_mul_right h2 hp
theorem above_loop {z : Nat} (hz : 200 ≤ z) {h : Int} (hh : B3 h) {k N : Nat} (hk : 0 < k) (hk2 : k ≤ 1000) (hN : N ≤ 1000) {u v : Int} (hr : Rd (Tw h k) (12 * (k : Int)) u v) (hu : u.natAbs ≤ (Tw h k).natAbs) (hv : v ≤ 12 * (k : Int)) (C : CS) (d : Nat) : ∀ (n m i : Nat) (f : Int) (S : MS), i + d = N + 1 → 1 ≤ i → d + 1 ≤ n → d + 1 ≤ m →
    ∃ r S', G_X6_above_43 z n (J h) (J k) (J N) (L (Tw h k)) (L f) (J i) C = some (r, C) ∧ G_X7_above_49 z m (J h) (J N) (L u) (L v) (L f) (J i) S = some (r, S') ∧ kM S' = kM S := by
  have t1 := Tw_bd (h := h) hk (by omega)
  have t2 : k * (k + 5) ≤ 1000 * 1005 := Nat.mul_le_mul hk2 (by omega)
  have hv0 := hr.1
  induction d with
  | zero =>
    intro n m i f S hi h1 hn hm
    obtain ⟨n, rfl⟩ : ∃ q, n = q + 1 := ⟨n - 1, by omega⟩
    obtain ⟨m, rfl⟩ : ∃ q, m = q + 1 := ⟨m - 1, by omega⟩
    have e : J N < J i := by rw [J_lt ⟨by omega, by omega⟩ ⟨by omega, by omega⟩]; omega
    refine ⟨L f, S, ?_, ?_, rfl⟩
    · rw [e_X6_above_43, if_pos e]
    · rw [e_X7_above_49, if_pos e]
  | succ d ih =>
    intro n m i f S hi h1 hn hm
    obtain ⟨n, rfl⟩ : ∃ q, n = q + 1 := ⟨n - 1, by omega⟩
    obtain ⟨m, rfl⟩ : ∃ q, m = q + 1 := ⟨m - 1, by omega⟩
    have e : ¬ J N < J i := by rw [J_lt ⟨by omega, by omega⟩ ⟨by omega, by omega⟩]; omega
    obtain ⟨u', v', -, s2, r2, b2, d2⟩ := sums_ok hz (h := h) (by have := hh.1; have := hh.2; omega) (k := i) (by omega) (by omega)
    have t3 := Tw_bd (h := h) (k := i) (by omega) (by omega)
    have t4 : i * (i + 5) ≤ 1000 * 1005 := Nat.mul_le_mul (by omega) (by omega)
    have hv1 := r2.1
    rw [e_X6_above_43, if_neg e, e_X7_above_49, if_neg e, J_L hh, J_L ⟨by omega, by omega⟩, J_L ⟨by omega, by omega⟩, twelfths_ok hz (B36 hh) (by omega) (by omega), s2]
    simp only [Option.bind_some]
    rw [L_mul, L_mul]
    have w1 : (Tw h i * (k : Int)).natAbs ≤ 1005000 * 1000 := nm (by omega) (by omega)
    have w2 : (Tw h k * (i : Int)).natAbs ≤ 1005000 * 1000 := nm (by omega) (by omega)
    have w3 : (u' * v).natAbs ≤ 1005000 * 12000 := nm (by omega) (by omega)
    have w4 : (u * v').natAbs ≤ 1005000 * 12000 := nm (by omega) (by omega)
    have key : Tw h i * (k : Int) ≤ Tw h k * (i : Int) ↔ u' * v ≤ u * v' := by
      have := sgn_le (x := u' * v - u * v') (y := Tw h i * (k : Int) - Tw h k * (i : Int)) (p := 12 * (i : Int) * (k : Int)) (q := v * v') (Int.mul_pos (by omega) (by omega)) (Int.mul_pos hv0 hv1) (by
        obtain ⟨-, -, q1⟩ := hr
        obtain ⟨-, -, q2⟩ := r2
        grind)
      omega
    have ea : (mg_up (ms_under (ms_up S (L u')) (L v')) * L v ≤ L u * mg_under (ms_under (ms_up S (L u')) (L v'))) ↔ u' * v ≤ u * v' := by
      show L u' * L v ≤ L u * L v' ↔ _
      rw [L_mul, L_mul, L_le ⟨by omega, by omega⟩ ⟨by omega, by omega⟩]
    have eb : L (Tw h i * (k : Int)) ≤ L (Tw h k * (i : Int)) ↔ Tw h i * (k : Int) ≤ Tw h k * (i : Int) := L_le ⟨by omega, by omega⟩ ⟨by omega, by omega⟩
    by_cases c : u' * v ≤ u * v'
    · rw [if_pos (eb.mpr (key.mpr c)), if_pos (ea.mpr c)]
      rw [l0, L_add, Int.add_zero, j1, J_add]
      obtain ⟨r, S', g1, g2, g3⟩ := ih n m (i + 1) f (ms_under (ms_up S (L u')) (L v')) (by omega) (by omega) (by omega) (by omega)
      exact ⟨r, S', g1, g2, g3⟩
    · rw [if_neg (fun q => c (key.mp (eb.mp q))), if_neg (fun q => c (ea.mp q))]
      rw [l1, L_add, j1, J_add]
      obtain ⟨r, S', g1, g2, g3⟩ := ih n m (i + 1) (f + 1) (ms_under (ms_up S (L u')) (L v')) (by omega) (by omega) (by omega) (by omega)
      exact ⟨r, S', g1, g2, g3⟩
theorem lc4_ok {z : Nat} (hz : 2000 ≤ z) (x1 x2 x3 x4 x5 : Int32) {C : CS} {M : MS} {lt : Int64 × Int64} (hI : Inv C M lt) : Okc (lc4 z x1 x2 x3 x4 x5 C M lt) := by
  obtain ⟨h, hh, rfl⟩ := J_of x1
  obtain ⟨k, hk, rfl⟩ := J_of x2
  obtain ⟨n, hn, rfl⟩ := J_of x3
  have e1 : ∀ {w : Int}, B3 w → F_X6_lies z (Int32.toInt64 (J w)) (1 : Int64) (1000 : Int64) = some (if 1 ≤ w ∧ w ≤ 1000 then 1 else 0) := fun hw => by rw [lTh, l1]; exact liesI z hw b61 bTh
  have goal : ∃ r C1 M1, F_X6_above z (J h) (J k) (J n) C = some (r, C1) ∧ F_X7_above z (J h) (J k) (J n) M = some (r, M1) ∧ kC C1 = kC C ∧ kM M1 = kM M := by
    unfold F_X6_above F_X7_above
    simp only [e1 hk, e1 hn, thousand_ok z hk, thousand_ok z hn, Option.bind_some]
    by_cases c1 : 1 ≤ k ∧ k ≤ 1000
    · rw [if_pos c1, if_neg n10, if_neg n10]
      by_cases c2 : 1 ≤ n ∧ n ≤ 1000
      · rw [if_pos c2, if_neg n10, if_neg n10, J_L hh, J_L hk]
        obtain ⟨k, rfl⟩ : ∃ q : Nat, k = q := ⟨k.toNat, by omega⟩
        obtain ⟨n, rfl⟩ : ∃ q : Nat, n = q := ⟨n.toNat, by omega⟩
        obtain ⟨u, v, -, s2, r2, b2, d2⟩ := sums_ok (z := z) (by omega) (h := h) (by have := hh.1; have := hh.2; omega) (k := k) (by omega) (by omega)
        rw [twelfths_ok (by omega) (B36 hh) (by omega) (by omega), Option.bind_some, s2, Option.bind_some]
        obtain ⟨r, S', g1, g2, g3⟩ := above_loop (z := z) (by omega) hh (k := k) (N := n) (by omega) (by omega) (by omega) r2 b2 d2 C n z z 1 0 (ms_under (ms_up (ms_thrown M 0) (L u)) (L v)) (by omega) (by omega) (by omega) (by omega)
        exact ⟨r, C, S', g1, g2, rfl, g3⟩
      · rw [if_neg c2, if_pos rfl, if_pos rfl]
        exact ⟨_, _, _, rfl, rfl, rfl, rfl⟩
    · rw [if_neg c1, if_pos rfl, if_pos rfl]
      exact ⟨_, _, _, rfl, rfl, rfl, rfl⟩
  obtain ⟨r, C1, M1, g1, g2, g3, g4⟩ := goal
  exact ok_S hI g1 g2 g3 g4
/-! how many of Euclid's steps -/
def St : Nat → Nat → Nat → Prop
  | 0, x, _ => x = 0
  | d + 1, x, y => x = 0 ∨ St d (y % x) x
theorem St_0 (d y : Nat) : St d 0 y := by
  cases d with
  | zero => rfl
  | succ d => exact Or.inl rfl
theorem St_of (k : Nat) : ∀ (x y : Nat), x < 2 ^ k → St (2 * k) x y := by
  induction k with
  | zero => intro x y hx; show x = 0; omega
  | succ k ih =>
    intro x y hx
    by_cases h0 : x = 0
    · exact Or.inl h0
    · refine Or.inr ?_
      by_cases h1 : y % x = 0
      · exact Or.inl h1
      · refine Or.inr (ih _ _ ?_)
        have := halve (x := y) (y := x) (by omega) (by omega)
        rw [Nat.pow_succ] at hx
        omega
/-! chain -/
theorem J_natdiv {a b : Nat} (ha : (a : Int) < 2147483648) (hb : (b : Int) < 2147483648) : J a / J b = J ((a / b : Nat) : Int) := by
  rw [J_div ⟨by omega, ha⟩ ⟨by omega, hb⟩]; rfl
theorem J_natrem {a b : Nat} (ha : (a : Int) < 2147483648) (hb : (b : Int) < 2147483648) : J a - J a / J b * J b = J ((a % b : Nat) : Int) := by
  rw [J_rem ⟨by omega, ha⟩ ⟨by omega, hb⟩]; rfl
theorem J_ne0 {a : Nat} (ha : (a : Int) < 2147483648) (h : a ≠ 0) : ¬ J a = (0 : Int32) := by
  rw [j0, J_eq ⟨by omega, ha⟩ b30]; omega
theorem chain_loop (z : Nat) (i : Int32) (S : CS) (K : Nat) (hK : 1 < K) (hK2 : K ≤ 1000000000) (d : Nat) : ∀ (n m x y : Nat) (c : Int), St d x y → d + 1 ≤ n → d + 1 ≤ m → 0 ≤ c → c + d < 200 → x ≤ 1000000000 → y ≤ 1000000000 →
    ∃ r, G_X6_chain_39 z n i (J x) (J y) (J c) S = some (r, S) ∧ G_X7_chained_13 z m (L K) i 0 (L x) (L y) (J c) = some r ∧ (i < (-1 : Int32) → r = -1) := by
  have hK3 : ¬ L K ≤ (1 : Int64) := by rw [l1, L_le ⟨by omega, by omega⟩ b61]; omega
  have stop : ∀ (n m y : Nat) (c : Int), 1 ≤ n → 1 ≤ m → 0 ≤ c → c < 200 → ∃ r, G_X6_chain_39 z n i (J ((0 : Nat) : Int)) (J y) (J c) S = some (r, S) ∧ G_X7_chained_13 z m (L K) i 0 (L ((0 : Nat) : Int)) (L y) (J c) = some r ∧ (i < (-1 : Int32) → r = -1) := by
    intro n m y c hn hm hc hc2
    obtain ⟨n, rfl⟩ : ∃ q, n = q + 1 := ⟨n - 1, by omega⟩
    obtain ⟨m, rfl⟩ : ∃ q, m = q + 1 := ⟨m - 1, by omega⟩
    have e1 : ¬ (200 : Int32) ≤ J c := by rw [j200, J_le b3200 ⟨by omega, by omega⟩]; omega
    rw [e_X6_chain_39, if_neg e1, if_pos (show J ((0 : Nat) : Int) = 0 from rfl), e_X7_chained_13, if_pos (show L ((0 : Nat) : Int) = 0 from rfl)]
    by_cases hi : i = -1
    · rw [if_pos hi, if_pos hi]
      refine ⟨_, rfl, rfl, fun h => ?_⟩
      rw [hi] at h
      exact absurd h (by decide)
    · rw [if_neg hi, if_neg hi]
      exact ⟨_, rfl, rfl, fun _ => rfl⟩
  induction d with
  | zero =>
    intro n m x y c hs hn hm hc hc2 hx hy
    have : x = 0 := hs
    subst this
    exact stop n m y c (by omega) (by omega) hc (by omega)
  | succ d ih =>
    intro n m x y c hs hn hm hc hc2 hx hy
    by_cases h0 : x = 0
    · subst h0
      exact stop n m y c (by omega) (by omega) hc (by omega)
    have hs' : St d (y % x) x := hs.resolve_left h0
    obtain ⟨n, rfl⟩ : ∃ q, n = q + 1 := ⟨n - 1, by omega⟩
    obtain ⟨m, rfl⟩ : ∃ q, m = q + 1 := ⟨m - 1, by omega⟩
    have e1 : ¬ (200 : Int32) ≤ J c := by rw [j200, J_le b3200 ⟨by omega, by omega⟩]; omega
    have j0' := J_ne0 (a := x) (by omega) h0
    have l0' := L_ne0 (a := x) (by omega) h0
    have hq : y / x ≤ y := Nat.div_le_self _ _
    have hq0 : (0 : Int) ≤ ((y / x : Nat) : Int) := Int.natCast_nonneg _
    have hr : y % x < x := Nat.mod_lt _ (by omega)
    rw [e_X6_chain_39, if_neg e1, if_neg j0', e_X7_chained_13, if_neg l0', if_neg hK3, if_pos rfl, if_neg l0']
    unfold G_X7_chained_49
    by_cases hi : J c = i
    · rw [if_pos hi, if_neg j0', if_pos hi, J_natdiv (by omega) (by omega), L_natdiv (by omega) (by omega), L_J ⟨by omega, by omega⟩]
      refine ⟨_, rfl, rfl, fun h => ?_⟩
      rw [← hi, jm1, J_lt ⟨by omega, by omega⟩ bm1] at h
      omega
    · rw [if_neg hi, if_neg j0', if_neg hi]
      simp only [Option.bind_some]
      rw [if_pos trivial, if_neg l0', J_natrem (by omega) (by omega), L_natrem (by omega) (by omega), j1, J_add]
      exact ih n m (y % x) x (c + 1) hs' (by omega) (by omega) (by omega) (by omega) (by omega) hx
theorem lc5_ok {z : Nat} (hz : 2000 ≤ z) (x1 x2 x3 x4 x5 : Int32) {C : CS} {M : MS} {lt : Int64 × Int64} (hI : Inv C M lt) : Okc (lc5 z x1 x2 x3 x4 x5 C M lt) := by
  obtain ⟨h, hh, rfl⟩ := J_of x1
  obtain ⟨k, hk, rfl⟩ := J_of x2
  have hz2 : 200 ≤ z := by omega
  have e1 : F_X6_lies z (Int32.toInt64 (J k)) (1 : Int64) (1000000000 : Int64) = some (if 1 ≤ k ∧ k ≤ 1000000000 then 1 else 0) := by rw [lG, l1]; exact liesI z hk b61 bG
  have e2 : F_X7_isIn z (Int32.toInt64 (J k)) (1 : Int64) (1000000000 : Int64) = some (if 1 ≤ k ∧ k ≤ 1000000000 then 1 else 0) := by rw [lG, l1]; exact isinI z hk b61 bG
  have goal : ∃ r C1 M1, F_X6_chain z (J h) (J k) x3 C = some (r, C1) ∧ F_X7_chain z (J h) (J k) x3 M = some (r, M1) ∧ kC C1 = kC C ∧ kM M1 = kM M := by
    unfold F_X6_chain F_X7_chain
    simp only [e1, e2, Option.bind_some]
    by_cases c1 : 1 ≤ k ∧ k ≤ 1000000000
    · rw [if_pos c1, if_neg n10, if_neg n10, J_L hh, J_L hk]
      have hh1 := hh.1
      have hh2 := hh.2
      obtain ⟨k, rfl⟩ : ∃ q : Nat, k = q := ⟨k.toNat, by omega⟩
      rw [divisor_ok hz2 (B36 hh) (B36 hk) (by omega) (by omega) (by omega), common_ok hz2 (B36 hh) (B36 hk) (by omega) (by omega), Option.bind_some, Option.bind_some]
      have hgl := Int.le_of_dvd (by omega) (Int.gcd_dvd_right h k)
      by_cases c2 : L (Int.gcd h k : Nat) = 1
      · rw [if_pos c2, if_pos c2, fmodI_ok z hh hk (by omega), Option.bind_some]
        have m1 := Int.emod_nonneg h (b := (k : Int)) (by omega)
        have m2 := Int.emod_lt_of_pos h (b := (k : Int)) (by omega)
        by_cases c3 : k = 1
        · subst c3
          have m3 : h % ((1 : Nat) : Int) = 0 := by omega
          obtain ⟨z, rfl⟩ : ∃ q, z = q + 1 := ⟨z - 1, by omega⟩
          rw [m3, e_X6_chain_39, if_neg (by decide +kernel), if_pos (show J 0 = 0 from rfl)]
          unfold F_X7_chained
          rw [rest_ok _ (B36 hh) (B36 hk) (by omega), m3, Option.bind_some, e_X7_chained_13, if_pos (show L 0 = 0 from rfl)]
          by_cases c4 : x3 < (-1 : Int32)
          · rw [if_pos c4, if_neg (by intro h9; rw [h9] at c4; exact absurd c4 (by decide))]
            exact ⟨_, _, _, rfl, rfl, rfl, rfl⟩
          · rw [if_neg c4]
            by_cases c5 : x3 = -1
            · rw [if_pos c5, if_pos c5]
              exact ⟨_, _, _, rfl, rfl, rfl, rfl⟩
            · rw [if_neg c5, if_neg c5]
              exact ⟨_, _, _, rfl, rfl, rfl, rfl⟩
        · have em : h % (k : Int) = (((h % (k : Int)).toNat : Nat) : Int) := by omega
          obtain ⟨r, g1, g2, g3⟩ := chain_loop z x3 C k (by omega) (by omega) 62 z z (h % (k : Int)).toNat k 0 (St_of 31 _ _ (by show _ < 2147483648; omega)) (by omega) (by omega) (by omega) (by omega) (by omega) (by omega)
          unfold F_X7_chained
          rw [rest_ok z (B36 hh) (B36 hk) (by omega), Option.bind_some, em]
          by_cases c4 : x3 < (-1 : Int32)
          · rw [if_pos c4]
            exact ⟨r, C, ms_thrown M 0, g1, by rw [g3 c4], rfl, rfl⟩
          · rw [if_neg c4]
            exact ⟨r, C, ms_thrown M 0, g1, by rw [show G_X7_chained_13 z z (L k) x3 0 (L (((h % (k : Int)).toNat : Nat) : Int)) (L k) 0 = some r from g2, Option.bind_some], rfl, rfl⟩
      · rw [if_neg c2, if_neg c2]
        exact ⟨_, _, _, rfl, rfl, rfl, rfl⟩
    · rw [if_neg c1, if_pos rfl, if_pos rfl]
      exact ⟨_, _, _, rfl, rfl, rfl, rfl⟩
  obtain ⟨r, C1, M1, g1, g2, g3, g4⟩ := goal
  exact ok_S hI g1 g2 g3 g4
