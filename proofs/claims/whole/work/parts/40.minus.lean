/-! minus -/
theorem ceil_step {x y : Nat} (hx : 0 < x) (hy : 0 < y) : ∃ q r : Nat, (y + x - 1) / x = q ∧ q * x = y + r ∧ r < x ∧ q ≤ y := by
  have h1 := Nat.div_add_mod (y + x - 1) x
  have h2 := Nat.mod_lt (y + x - 1) hx
  refine ⟨(y + x - 1) / x, x * ((y + x - 1) / x) - y, rfl, ?_, ?_, ?_⟩
  · rw [Nat.mul_comm]; omega
  · omega
  · by_cases h3 : (y + x - 1) / x ≤ y
    · exact h3
    · have h4 : y + 1 ≤ (y + x - 1) / x := by omega
      have h5 : x * (y + 1) ≤ x * ((y + x - 1) / x) := Nat.mul_le_mul_left x h4
      have h6 : x * (y + 1) = x * y + x := by rw [Nat.mul_add]; omega
      have h7 : y ≤ x * y := Nat.le_mul_of_pos_left y hx
      omega
theorem j10k : (10000 : Int32) = J 10000 := rfl
theorem minus_loop (z : Nat) (i : Int32) (S : CS) (K : Nat) (hK : 1 < K) (hK2 : K ≤ 10000) (d : Nat) : ∀ (n m x y : Nat) (c : Int), x ≤ d → d + 1 ≤ n → d + 1 ≤ m → 0 ≤ c → c + d < 10000 → x < y → y ≤ 10000 →
    ∃ r, G_X6_minus_39 z n i (J x) (J y) (J c) S = some (r, S) ∧ G_X7_chained_13 z m (L K) i 1 (L x) (L y) (J c) = some r ∧ (i < (-1 : Int32) → r = -1) := by
  have hK3 : ¬ L K ≤ (1 : Int64) := by rw [l1, L_le ⟨by omega, by omega⟩ b61]; omega
  have stop : ∀ (n m y : Nat) (c : Int), 1 ≤ n → 1 ≤ m → 0 ≤ c → c < 10000 → ∃ r, G_X6_minus_39 z n i (J ((0 : Nat) : Int)) (J y) (J c) S = some (r, S) ∧ G_X7_chained_13 z m (L K) i 1 (L ((0 : Nat) : Int)) (L y) (J c) = some r ∧ (i < (-1 : Int32) → r = -1) := by
    intro n m y c hn hm hc hc2
    obtain ⟨n, rfl⟩ : ∃ q, n = q + 1 := ⟨n - 1, by omega⟩
    obtain ⟨m, rfl⟩ : ∃ q, m = q + 1 := ⟨m - 1, by omega⟩
    have e1 : ¬ (10000 : Int32) ≤ J c := by rw [j10k, J_le ⟨by decide, by decide⟩ ⟨by omega, by omega⟩]; omega
    rw [e_X6_minus_39, if_neg e1, if_pos (show J ((0 : Nat) : Int) = 0 from rfl), e_X7_chained_13, if_pos (show L ((0 : Nat) : Int) = 0 from rfl)]
    by_cases hi : i = -1
    · rw [if_pos hi, if_pos hi]
      refine ⟨_, rfl, rfl, fun h => ?_⟩
      rw [hi] at h
      exact absurd h (by decide)
    · rw [if_neg hi, if_neg hi]
      exact ⟨_, rfl, rfl, fun _ => rfl⟩
  induction d with
  | zero =>
    intro n m x y c hs hn hm hc hc2 hx hy
    have : x = 0 := by omega
    subst this
    exact stop n m y c (by omega) (by omega) hc (by omega)
  | succ d ih =>
    intro n m x y c hs hn hm hc hc2 hx hy
    by_cases h0 : x = 0
    · subst h0
      exact stop n m y c (by omega) (by omega) hc (by omega)
    obtain ⟨n, rfl⟩ : ∃ q, n = q + 1 := ⟨n - 1, by omega⟩
    obtain ⟨m, rfl⟩ : ∃ q, m = q + 1 := ⟨m - 1, by omega⟩
    have e1 : ¬ (10000 : Int32) ≤ J c := by rw [j10k, J_le ⟨by decide, by decide⟩ ⟨by omega, by omega⟩]; omega
    have j0' := J_ne0 (a := x) (by omega) h0
    have l0' := L_ne0 (a := x) (by omega) h0
    obtain ⟨q, r, q1, q2, q3, q4⟩ := ceil_step (x := x) (y := y) (by omega) (by omega)
    have q2I : (q : Int) * (x : Int) = (y : Int) + (r : Int) := by exact_mod_cast q2
    have eI : (y : Int) + (x : Int) - 1 = ((y + x - 1 : Nat) : Int) := by omega
    rw [e_X6_minus_39, if_neg e1, if_neg j0', if_neg j0', e_X7_chained_13, if_neg l0', if_neg hK3, if_neg n10, if_neg l0']
    unfold G_X7_chained_49
    simp only [Option.bind_some]
    rw [j1, J_add, J_sub, l1, L_add, L_sub, eI, J_natdiv (by omega) (by omega), L_natdiv (by omega) (by omega), q1]
    by_cases hi : J c = i
    · rw [if_pos hi, if_pos hi, L_J ⟨by omega, by omega⟩]
      refine ⟨_, rfl, rfl, fun h => ?_⟩
      rw [← hi, J_neg, J_lt ⟨by omega, by omega⟩ bm1] at h
      omega
    · rw [if_neg hi, if_neg hi, if_neg (by decide +kernel), J_mul, J_sub, L_mul, L_sub, J_add, q2I]
      have e3 : (y : Int) + (r : Int) - (y : Int) = (r : Int) := by omega
      rw [e3]
      exact ih n m r x (c + 1) (by omega) (by omega) (by omega) (by omega) (by omega) q3 (by omega)
theorem lc6_ok {z : Nat} (hz : 20000 ≤ z) (x1 x2 x3 x4 x5 : Int32) {C : CS} {M : MS} {lt : Int64 × Int64} (hI : Inv C M lt) : Okc (lc6 z x1 x2 x3 x4 x5 C M lt) := by
  obtain ⟨h, hh, rfl⟩ := J_of x1
  obtain ⟨k, hk, rfl⟩ := J_of x2
  have hz2 : 200 ≤ z := by omega
  have lTK : (10000 : Int64) = L 10000 := by decide +kernel
  have bTK : B6 10000 := ⟨by decide, by decide⟩
  have e1 : F_X6_lies z (Int32.toInt64 (J k)) (1 : Int64) (10000 : Int64) = some (if 1 ≤ k ∧ k ≤ 10000 then 1 else 0) := by rw [lTK, l1]; exact liesI z hk b61 bTK
  have e2 : F_X7_isIn z (Int32.toInt64 (J k)) (1 : Int64) (10000 : Int64) = some (if 1 ≤ k ∧ k ≤ 10000 then 1 else 0) := by rw [lTK, l1]; exact isinI z hk b61 bTK
  have goal : ∃ r C1 M1, F_X6_minus z (J h) (J k) x3 C = some (r, C1) ∧ F_X7_minus z (J h) (J k) x3 M = some (r, M1) ∧ kC C1 = kC C ∧ kM M1 = kM M := by
    unfold F_X6_minus F_X7_minus
    simp only [e1, e2, Option.bind_some]
    by_cases c1 : 1 ≤ k ∧ k ≤ 10000
    · rw [if_pos c1, if_neg n10, if_neg n10, J_L hh, J_L hk]
      have hh1 := hh.1
      have hh2 := hh.2
      obtain ⟨k, rfl⟩ : ∃ q : Nat, k = q := ⟨k.toNat, by omega⟩
      rw [divisor_ok hz2 (B36 hh) (B36 hk) (by omega) (by omega) (by omega), common_ok hz2 (B36 hh) (B36 hk) (by omega) (by omega), Option.bind_some, Option.bind_some]
      by_cases c2 : L (Int.gcd h k : Nat) = 1
      · rw [if_pos c2, if_pos c2, fmodI_ok z hh hk (by omega), Option.bind_some]
        have m1 := Int.emod_nonneg h (b := (k : Int)) (by omega)
        have m2 := Int.emod_lt_of_pos h (b := (k : Int)) (by omega)
        by_cases c3 : k = 1
        · subst c3
          have m3 : h % ((1 : Nat) : Int) = 0 := by omega
          obtain ⟨z, rfl⟩ : ∃ q, z = q + 1 := ⟨z - 1, by omega⟩
          rw [m3, e_X6_minus_39, if_neg (by decide +kernel), if_pos (show J 0 = 0 from rfl)]
          unfold F_X7_chained
          rw [rest_ok _ (B36 hh) (B36 hk) (by omega), m3, Option.bind_some, e_X7_chained_13, if_pos (show L 0 = 0 from rfl)]
          by_cases c4 : x3 < (-1 : Int32)
          · rw [if_pos c4, if_neg (by intro h9; rw [h9] at c4; exact absurd c4 (by decide))]
            exact ⟨_, _, _, rfl, rfl, rfl, rfl⟩
          · rw [if_neg c4]
            by_cases c5 : x3 = -1
            · rw [if_pos c5, if_pos c5]
              exact ⟨_, _, _, rfl, rfl, rfl, rfl⟩
            · rw [if_neg c5, if_neg c5]
              exact ⟨_, _, _, rfl, rfl, rfl, rfl⟩
        · have em : h % (k : Int) = (((h % (k : Int)).toNat : Nat) : Int) := by omega
          obtain ⟨r, g1, g2, g3⟩ := minus_loop z x3 C k (by omega) (by omega) 9999 z z (h % (k : Int)).toNat k 0 (by omega) (by omega) (by omega) (by omega) (by omega) (by omega) (by omega)
          unfold F_X7_chained
          rw [rest_ok z (B36 hh) (B36 hk) (by omega), Option.bind_some, em]
          by_cases c4 : x3 < (-1 : Int32)
          · rw [if_pos c4]
            exact ⟨r, C, ms_thrown M 0, g1, by rw [g3 c4], rfl, rfl⟩
          · rw [if_neg c4]
            exact ⟨r, C, ms_thrown M 0, g1, by rw [show G_X7_chained_13 z z (L k) x3 1 (L (((h % (k : Int)).toNat : Nat) : Int)) (L k) 0 = some r from g2, Option.bind_some], rfl, rfl⟩
      · rw [if_neg c2, if_neg c2]
        exact ⟨_, _, _, rfl, rfl, rfl, rfl⟩
    · rw [if_neg c1, if_pos rfl, if_pos rfl]
      exact ⟨_, _, _, rfl, rfl, rfl, rfl⟩
  obtain ⟨r, C1, M1, g1, g2, g3, g4⟩ := goal
  exact ok_S hI g1 g2 g3 g4
/-! alike -/
theorem alike_loop {z : Nat} (hz : 200 ≤ z) {h : Int} {k : Nat} (hk : 0 < k) (hk2 : k ≤ 500) {u v : Int} (hr : Rd (Tw h k) (12 * (k : Int)) u v) (hu : u.natAbs ≤ (Tw h k).natAbs) (hv : v ≤ 12 * (k : Int)) (C : CS) (i : Int32) (d : Nat) : ∀ (n m o : Nat) (f : Int32) (S : MS), o + d = k → d + 1 ≤ n → d + 1 ≤ m →
    ∃ r S', G_X6_alike_29 z n (J k) i (L (Tw h k)) f (J o) C = some (r, C) ∧ G_X7_alike_45 z m (J k) i (L u) (L v) f (J o) S = some (r, S') ∧ kM S' = kM S := by
  have t1 := Tw_bd (h := h) hk (by omega)
  have t2 : k * (k + 5) ≤ 500 * 505 := Nat.mul_le_mul hk2 (by omega)
  have hv0 := hr.1
  induction d with
  | zero =>
    intro n m o f S hi hn hm
    obtain ⟨n, rfl⟩ : ∃ q, n = q + 1 := ⟨n - 1, by omega⟩
    obtain ⟨m, rfl⟩ : ∃ q, m = q + 1 := ⟨m - 1, by omega⟩
    have e : J k ≤ J o := by rw [J_le ⟨by omega, by omega⟩ ⟨by omega, by omega⟩]; omega
    rw [e_X6_alike_29, if_pos e, e_X7_alike_45, if_pos e]
    by_cases c : i = -1
    · rw [if_pos c, if_pos c]
      exact ⟨_, _, rfl, rfl, rfl⟩
    · rw [if_neg c, if_neg c]
      exact ⟨_, _, rfl, rfl, rfl⟩
  | succ d ih =>
    intro n m o f S hi hn hm
    obtain ⟨n, rfl⟩ : ∃ q, n = q + 1 := ⟨n - 1, by omega⟩
    obtain ⟨m, rfl⟩ : ∃ q, m = q + 1 := ⟨m - 1, by omega⟩
    have e : ¬ J k ≤ J o := by rw [J_le ⟨by omega, by omega⟩ ⟨by omega, by omega⟩]; omega
    rw [e_X6_alike_29, if_neg e, e_X7_alike_45, if_neg e, J_L ⟨by omega, by omega⟩, J_L ⟨by omega, by omega⟩, divisor_ok hz ⟨by omega, by omega⟩ ⟨by omega, by omega⟩ (by omega) (by omega) (by omega), common_ok hz ⟨by omega, by omega⟩ ⟨by omega, by omega⟩ (by omega) (by omega)]
    simp only [Option.bind_some]
    by_cases c1 : L (Int.gcd (o : Int) k : Nat) = 1
    · obtain ⟨u', v', -, s2, r2, b2, d2⟩ := sums_ok hz (h := (o : Int)) (by omega) (k := k) (by omega) (by omega)
      have t3 := Tw_bd (h := (o : Int)) (k := k) (by omega) (by omega)
      have hv1 := r2.1
      rw [if_pos c1, if_pos c1, twelfths_ok hz ⟨by omega, by omega⟩ (by omega) (by omega), s2]
      simp only [Option.bind_some]
      have key : L (Tw (o : Int) k) = L (Tw h k) ↔ (L u' = L u ∧ L v' = L v) := by
        rw [L_eq ⟨by omega, by omega⟩ ⟨by omega, by omega⟩, L_eq ⟨by omega, by omega⟩ ⟨by omega, by omega⟩, L_eq ⟨by omega, by omega⟩ ⟨by omega, by omega⟩]
        constructor
        · intro q
          rw [q] at r2
          exact Rd_uniq (by omega) r2 hr
        · rintro ⟨rfl, rfl⟩
          have q1 := r2.2.2
          have q2 := hr.2.2
          exact Int.eq_of_mul_eq_mul_right (show v' ≠ 0 by omega) (by rw [q1, q2])
      have lk : F_X7_isLike z (L u) (L v) (ms_under (ms_up S (L u')) (L v')) = some (if L u' = L u ∧ L v' = L v then 1 else 0, ms_under (ms_up S (L u')) (L v')) := by
        unfold F_X7_isLike
        show (if L u' = L u then (if L v' = L v then _ else _) else _) = _
        by_cases q1 : L u' = L u
        · by_cases q2 : L v' = L v
          · rw [if_pos q1, if_pos q2, if_pos ⟨q1, q2⟩]
          · rw [if_pos q1, if_neg q2, if_neg (fun q => q2 q.2)]
        · rw [if_neg q1, if_neg (fun q => q1 q.1)]
      rw [lk]
      show ∃ r S', _ ∧ (if (if L u' = L u ∧ L v' = L v then (1 : Int32) else 0) = 0 then _ else _) = _ ∧ _
      by_cases c2 : L u' = L u ∧ L v' = L v
      · rw [if_pos (key.mpr c2), if_pos c2, if_neg n10]
        by_cases c3 : f = i
        · rw [if_pos c3, if_pos c3]
          exact ⟨_, _, rfl, rfl, rfl⟩
        · rw [if_neg c3, if_neg c3, j1, J_add]
          obtain ⟨r, S', g1, g2, g3⟩ := ih n m (o + 1) (f + J 1) (ms_under (ms_up S (L u')) (L v')) (by omega) (by omega) (by omega)
          exact ⟨r, S', g1, g2, g3⟩
      · rw [if_neg (fun q => c2 (key.mp q)), if_neg c2, if_pos rfl, j1, J_add]
        obtain ⟨r, S', g1, g2, g3⟩ := ih n m (o + 1) f (ms_under (ms_up S (L u')) (L v')) (by omega) (by omega) (by omega)
        exact ⟨r, S', g1, g2, g3⟩
    · rw [if_neg c1, if_neg c1, j1, J_add]
      exact ih n m (o + 1) f S (by omega) (by omega) (by omega)
theorem l5h : (500 : Int64) = L 500 := by decide +kernel
theorem b5h : B6 500 := ⟨by decide, by decide⟩
theorem lc7_ok {z : Nat} (hz : 2000 ≤ z) (x1 x2 x3 x4 x5 : Int32) {C : CS} {M : MS} {lt : Int64 × Int64} (hI : Inv C M lt) : Okc (lc7 z x1 x2 x3 x4 x5 C M lt) := by
  obtain ⟨h, hh, rfl⟩ := J_of x1
  obtain ⟨k, hk, rfl⟩ := J_of x2
  have hz2 : 200 ≤ z := by omega
  have e1 : F_X6_lies z (Int32.toInt64 (J k)) (1 : Int64) (500 : Int64) = some (if 1 ≤ k ∧ k ≤ 500 then 1 else 0) := by rw [l5h, l1]; exact liesI z hk b61 b5h
  have e2 : F_X7_isIn z (Int32.toInt64 (J k)) (1 : Int64) (500 : Int64) = some (if 1 ≤ k ∧ k ≤ 500 then 1 else 0) := by rw [l5h, l1]; exact isinI z hk b61 b5h
  have goal : ∃ r C1 M1, F_X6_alike z (J h) (J k) x3 C = some (r, C1) ∧ F_X7_alike z (J h) (J k) x3 M = some (r, M1) ∧ kC C1 = kC C ∧ kM M1 = kM M := by
    unfold F_X6_alike F_X7_alike
    simp only [e1, e2, Option.bind_some]
    by_cases c1 : 1 ≤ k ∧ k ≤ 500
    · rw [if_pos c1, if_neg n10, if_neg n10, J_L hh, J_L hk]
      obtain ⟨k, rfl⟩ : ∃ q : Nat, k = q := ⟨k.toNat, by omega⟩
      obtain ⟨u, v, -, s2, r2, b2, d2⟩ := sums_ok hz2 (h := h) (by have := hh.1; have := hh.2; omega) (k := k) (by omega) (by omega)
      rw [twelfths_ok hz2 (B36 hh) (by omega) (by omega), Option.bind_some, s2, Option.bind_some]
      obtain ⟨r, S', g1, g2, g3⟩ := alike_loop hz2 (k := k) (by omega) (by omega) r2 b2 d2 C x3 k z z 0 0 (ms_under (ms_up (ms_thrown M 0) (L u)) (L v)) (by omega) (by omega) (by omega)
      exact ⟨r, C, S', g1, g2, rfl, g3⟩
    · rw [if_neg c1, if_pos rfl, if_pos rfl]
      exact ⟨_, _, _, rfl, rfl, rfl, rfl⟩
  obtain ⟨r, C1, M1, g1, g2, g3, g4⟩ := goal
  exact ok_S hI g1 g2 g3 g4
