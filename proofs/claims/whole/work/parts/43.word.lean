/-! word -/
theorem fdiv_any (z : Nat) {a b : Int} (ha : B6 a) (hb : B6 b) (h0 : b ≠ 0) : ∃ q r : Int, F_J9_floorDiv_f86c9 z (L a) (L b) = some (L q) ∧ a = b * q + r ∧ (0 < b → 0 ≤ r ∧ r < b) ∧ (b < 0 → b < r ∧ r ≤ 0) := by
  rcases Int.lt_trichotomy b 0 with h | h | h
  · have hbn : ¬ L b = 0 := by rw [l0, L_eq hb b60]; exact h0
    have hbs : ¬ (0 : Int64) ≤ L b := by rw [l0, L_le b60 hb]; omega
    have hd := Int.tmod_add_mul_tdiv a b
    have hn := Int.natAbs_tmod a b
    have hlt : a.natAbs % b.natAbs < b.natAbs := Nat.mod_lt _ (by omega)
    have hs : L a / L b * L b = L a ↔ a.tmod b = 0 := by
      rw [← sub_back, L_rem ha hb, l0, L_eq (tmod_b6 ha) b60]
    unfold F_J9_floorDiv_f86c9
    rw [if_neg hbn, Option.bind_some]
    by_cases h1 : 0 ≤ a
    · have hx : ¬ (0 : Int64) ≤ L a ^^^ L b := by
        rw [xor6]
        intro hq
        exact hbs (hq.mp (by rw [l0, L_le b60 ha]; exact h1))
      rw [if_neg hx]
      have hp := Int.tmod_nonneg b h1
      by_cases h2 : a.tmod b = 0
      · rw [if_pos (hs.mpr h2), L_div ha hb]
        exact ⟨_, 0, rfl, by omega, fun h9 => by omega, fun _ => by omega⟩
      · rw [if_neg (fun q => h2 (hs.mp q)), L_div ha hb, l1, L_sub]
        refine ⟨_, a.tmod b + b, rfl, ?_, fun h9 => by omega, fun _ => by omega⟩
        rw [Int.mul_sub]; omega
    · have hx : (0 : Int64) ≤ L a ^^^ L b := by
        rw [xor6]
        exact ⟨fun q => absurd q (by rw [l0, L_le b60 ha]; exact h1), fun q => absurd q hbs⟩
      rw [if_pos hx, L_div ha hb]
      have hp : a.tmod b ≤ 0 := by
        have := Int.tmod_nonneg b (a := -a) (by omega)
        rw [Int.neg_tmod] at this
        omega
      exact ⟨_, a.tmod b, rfl, by omega, fun h9 => by omega, fun _ => by omega⟩
  · exact absurd h h0
  · refine ⟨a / b, a % b, fdiv_ok z ha hb h, ?_, fun _ => ⟨Int.emod_nonneg a (by omega), Int.emod_lt_of_pos a h⟩, fun h9 => by omega⟩
    have := Int.emod_add_mul_ediv a b
    omega
theorem lNO : (-4000000000000000000 : Int64) = L (-4000000000000000000) := by decide +kernel
theorem word_loop (z : Nat) (i : Int32) (C : CS) (M : MS) (k : Nat) : ∀ (n m : Nat) (o u : Int) (ob ub : Int64) (c : Int), u.natAbs < 2 ^ k → k + 1 ≤ n → k + 1 ≤ m → o.natAbs ≤ 1000000000 → u.natAbs ≤ 1000000000 → 0 ≤ c → c + k < 200 →
    ∃ r, G_X2_partOfWord_30 z n i (L o) ob (L u) ub (J c) C = some (r, C) ∧ G_X7_word_40 z m i (L o) ob (L u) ub (J c) M = some (r, M) ∧ (i < (-1 : Int32) → r = -4000000000000000000) := by
  have stop : ∀ (n m : Nat) (o : Int) (ob ub : Int64) (c : Int), 1 ≤ n → 1 ≤ m → 0 ≤ c → c < 200 → ∃ r, G_X2_partOfWord_30 z n i (L o) ob (L 0) ub (J c) C = some (r, C) ∧ G_X7_word_40 z m i (L o) ob (L 0) ub (J c) M = some (r, M) ∧ (i < (-1 : Int32) → r = -4000000000000000000) := by
    intro n m o ob ub c hn hm hc hc2
    obtain ⟨n, rfl⟩ : ∃ q, n = q + 1 := ⟨n - 1, by omega⟩
    obtain ⟨m, rfl⟩ : ∃ q, m = q + 1 := ⟨m - 1, by omega⟩
    have e1 : ¬ (200 : Int32) ≤ J c := by rw [j200, J_le b3200 ⟨by omega, by omega⟩]; omega
    rw [e_X2_partOfWord_30, if_neg e1, if_pos (show L 0 = 0 from rfl), e_X7_word_40, if_pos (show L 0 = 0 from rfl)]
    unfold G_X2_partOfWord_113
    by_cases c1 : J c = i
    · rw [if_pos c1, if_pos c1.symm]
      refine ⟨_, rfl, rfl, fun h => ?_⟩
      rw [← c1, jm1, J_lt ⟨by omega, by omega⟩ bm1] at h
      omega
    · rw [if_neg c1, if_neg (show ¬ i = J c from fun h => c1 h.symm)]
      by_cases c2 : i = -1
      · rw [if_pos c2, if_pos c2, j1, J_add, J_L ⟨by omega, by omega⟩, J_L ⟨by omega, by omega⟩, l1, L_add]
        refine ⟨_, rfl, rfl, fun h => ?_⟩
        rw [c2] at h
        exact absurd h (by decide)
      · rw [if_neg c2, if_neg c2]
        exact ⟨_, rfl, rfl, fun _ => rfl⟩
  induction k with
  | zero =>
    intro n m o u ob ub c hu hn hm ho hub hc hc2
    have : u = 0 := by omega
    subst this
    exact stop n m o ob ub c (by omega) (by omega) hc (by omega)
  | succ k ih =>
    intro n m o u ob ub c hu hn hm ho hub hc hc2
    by_cases h0 : u = 0
    · subst h0
      exact stop n m o ob ub c (by omega) (by omega) hc (by omega)
    obtain ⟨n, rfl⟩ : ∃ q, n = q + 1 := ⟨n - 1, by omega⟩
    obtain ⟨m, rfl⟩ : ∃ q, m = q + 1 := ⟨m - 1, by omega⟩
    have e1 : ¬ (200 : Int32) ≤ J c := by rw [j200, J_le b3200 ⟨by omega, by omega⟩]; omega
    have l0' : ¬ L u = 0 := by rw [l0, L_eq ⟨by omega, by omega⟩ b60]; exact h0
    obtain ⟨q, r, q1, q2, q3, q4⟩ := fdiv_any z (a := 2 * o + u) (b := 2 * u) ⟨by omega, by omega⟩ ⟨by omega, by omega⟩ (by omega)
    rw [e_X2_partOfWord_30, if_neg e1, if_neg l0', e_X7_word_40, if_neg l0', l2, L_mul, L_add, L_mul, down_eq, q1]
    simp only [Option.bind_some]
    have hr : 2 * (q * u - o) = u - r := by
      have : 2 * o + u = 2 * (q * u) + r := by rw [q2]; grind
      omega
    by_cases c1 : J c = i
    · rw [if_pos c1, if_pos c1.symm]
      refine ⟨_, rfl, rfl, fun h => ?_⟩
      rw [← c1, jm1, J_lt ⟨by omega, by omega⟩ bm1] at h
      omega
    · rw [if_neg c1, if_neg (show ¬ i = J c from fun h => c1 h.symm)]
      have x1 : -(L o - L q * L u) = L (q * u - o) := by rw [L_mul, L_sub, L_neg, Int.neg_sub]
      have x2 : L q * L u - L o = L (q * u - o) := by rw [L_mul, L_sub]
      have x3 : -(ob - L q * ub) = L q * ub - ob := by grind
      rw [x1, x2, x3, j1, J_add]
      have hb : 2 * (q * u - o).natAbs ≤ u.natAbs := by
        rcases Int.lt_trichotomy u 0 with h | h | h
        · have := q4 (by omega); omega
        · exact absurd h h0
        · have := q3 (by omega); omega
      exact ih n m u (q * u - o) ub (L q * ub - ob) (c + 1) (by rw [Nat.pow_succ] at hu; omega) (by omega) (by omega) hub (by omega) (by omega) (by omega)
theorem lc22_ok {z : Nat} (hz : 200 ≤ z) (x1 x2 x3 x4 x5 : Int32) {C : CS} {M : MS} {lt : Int64 × Int64} (hI : Inv C M lt) : Okc (lc22 z x1 x2 x3 x4 x5 C M lt) := by
  obtain ⟨a, b, c, d, ha, hb, hc, hd, hdet, e1, e2, e3, e4, f1, f2, f3, f4⟩ := Inv_mat hI
  obtain ⟨r, w1, w2, w3⟩ := word_loop z x1 C (ms_thrown M 0) 31 z z a c (L b) (L d) 0 (by show _ < 2147483648; omega) (by omega) (by omega) ha hc (by omega) (by omega)
  have g1 : F_X6_word z x1 C = some (r, C) := by
    unfold F_X6_word F_X2_partOfWord
    simp only [Option.bind_some]
    rw [e1, e2, e3, e4, J_L ⟨by omega, by omega⟩, J_L ⟨by omega, by omega⟩, J_L ⟨by omega, by omega⟩, J_L ⟨by omega, by omega⟩, show G_X2_partOfWord_30 z z x1 (L a) (L b) (L c) (L d) 0 C = some (r, C) from w1, bd2_some]
  have g2 : F_X7_word z x1 M = some (r, ms_thrown M 0) := by
    unfold F_X7_word
    simp only [Option.bind_some]
    rw [show mg_a0 (ms_thrown M 0) = mg_a0 M from rfl, show mg_b0 (ms_thrown M 0) = mg_b0 M from rfl, show mg_c0 (ms_thrown M 0) = mg_c0 M from rfl, show mg_d0 (ms_thrown M 0) = mg_d0 M from rfl, f1, f2, f3, f4]
    by_cases q : (-1 : Int32) ≤ x1
    · rw [if_pos q]
      exact w2
    · rw [if_neg q, w3 (Int32.not_le.mp q)]
  exact ok_T g1 g2 (Inv_thrown hI)
/-! rings: same, ring -/
theorem isRing_ok {z : Nat} (hz : 200 ≤ z) {p q : Int} (hp : B3 p) (hq : B3 q) : F_X0_isRing z (J p) (J q) = some (if (2 ≤ p ∧ p ≤ 1000) ∧ Int.gcd q p = 1 then 1 else 0) ∧ F_X7_isRing z (J p) (J q) = some (if (2 ≤ p ∧ p ≤ 1000) ∧ Int.gcd q p = 1 then 1 else 0) := by
  unfold F_X0_isRing F_X7_isRing
  rw [lTh, l2, liesI z hp ⟨by decide, by decide⟩ bTh, isinI z hp ⟨by decide, by decide⟩ bTh, Option.bind_some, Option.bind_some]
  by_cases c : 2 ≤ p ∧ p ≤ 1000
  · have q1 := hq.1
    have q2 := hq.2
    rw [if_pos c, if_neg n10, if_neg n10, J_L hp, J_L hq, divisor_ok hz (B36 hq) (B36 hp) (by omega) (by omega) (by omega), common_ok hz (B36 hp) (B36 hq) (by omega) (by omega), Option.bind_some, Option.bind_some, Int.gcd_comm p q]
    have hl := Int.le_of_dvd (by omega) (Int.gcd_dvd_right q p)
    have key : L (Int.gcd q p : Nat) = 1 ↔ Int.gcd q p = 1 := by rw [l1, L_eq ⟨by omega, by omega⟩ b61]; omega
    by_cases g : Int.gcd q p = 1
    · rw [if_pos (key.mpr g), if_pos ⟨c, g⟩]
      exact ⟨rfl, rfl⟩
    · rw [if_neg (fun h => g (key.mp h)), if_neg (fun h => g h.2)]
      exact ⟨rfl, rfl⟩
  · rw [if_neg c, if_pos rfl, if_pos rfl, if_neg (fun h => c h.1)]
    exact ⟨rfl, rfl⟩
theorem match_ok (z : Nat) {p x y : Nat} (hp : 0 < p) (hp2 : p ≤ 1000) (hx : x ≤ 1000) (hy : y ≤ 1000) : ∃ r : Int32, F_X0_match z (J p) (J x) (J y) = some r ∧ F_X7_areSame z (L p) (L x) (L y) = some r := by
  unfold F_X0_match F_X7_areSame
  have k1 : J x = J y ↔ L (x : Int) = L y := by rw [J_eq ⟨by omega, by omega⟩ ⟨by omega, by omega⟩, L_eq ⟨by omega, by omega⟩ ⟨by omega, by omega⟩]
  by_cases c1 : J x = J y
  · rw [if_pos c1, if_pos (k1.mp c1)]
    exact ⟨_, rfl, rfl⟩
  · rw [if_neg c1, if_neg (fun h => c1 (k1.mpr h)), if_neg (by rw [j0, J_le ⟨by omega, by omega⟩ b30]; omega), if_neg (J_ne0 (by omega) (by omega)), if_neg (L_ne0 (by omega) (by omega)), J_mul, L_mul, ← Int.natCast_mul]
    have hb : x * y ≤ 1000 * 1000 := Nat.mul_le_mul hx hy
    rw [J_natrem (by omega) (by omega), L_natrem (by omega) (by omega)]
    have hm : (x * y) % p < p := Nat.mod_lt _ hp
    have k2 : J ((x * y % p : Nat) : Int) = 1 ↔ L ((x * y % p : Nat) : Int) = 1 := by rw [j1, J_eq ⟨by omega, by omega⟩ ⟨by decide, by decide⟩, l1, L_eq ⟨by omega, by omega⟩ b61]
    by_cases c2 : J ((x * y % p : Nat) : Int) = 1
    · rw [if_pos c2, if_pos (k2.mp c2)]
      exact ⟨_, rfl, rfl⟩
    · rw [if_neg c2, if_neg (fun h => c2 (k2.mpr h))]
      exact ⟨_, rfl, rfl⟩
theorem lc23_ok {z : Nat} (hz : 200 ≤ z) (x1 x2 x3 x4 x5 : Int32) {C : CS} {M : MS} {lt : Int64 × Int64} (hI : Inv C M lt) : Okc (lc23 z x1 x2 x3 x4 x5 C M lt) := by
  obtain ⟨p, hp, rfl⟩ := J_of x1
  obtain ⟨q, hq, rfl⟩ := J_of x2
  obtain ⟨o, ho, rfl⟩ := J_of x3
  have goal : ∃ r, F_X6_same z (J p) (J q) (J o) C = some (r, C) ∧ F_X7_same z (J p) (J q) (J o) M = some (r, ms_thrown M 0) := by
    unfold F_X6_same F_X7_same
    rw [(isRing_ok hz hp hq).1, (isRing_ok hz hp hq).2, (isRing_ok hz hp ho).1, (isRing_ok hz hp ho).2]
    simp only [Option.bind_some]
    by_cases c1 : (2 ≤ p ∧ p ≤ 1000) ∧ Int.gcd q p = 1
    · rw [if_pos c1, if_neg n10, if_neg n10]
      by_cases c2 : (2 ≤ p ∧ p ≤ 1000) ∧ Int.gcd o p = 1
      · rw [if_pos c2, if_neg n10, if_neg n10, fmodI_ok z hq hp (by omega), fmodI_ok z ho hp (by omega), J_L hp, J_L hq, J_L ho, rest_ok z (B36 hq) (B36 hp) (by omega), rest_ok z (B36 ho) (B36 hp) (by omega)]
        simp only [Option.bind_some]
        have a1 := Int.emod_nonneg q (b := p) (by omega)
        have a2 := Int.emod_lt_of_pos q (b := p) (by omega)
        have a3 := Int.emod_nonneg o (b := p) (by omega)
        have a4 := Int.emod_lt_of_pos o (b := p) (by omega)
        obtain ⟨p, rfl⟩ : ∃ n : Nat, p = n := ⟨p.toNat, by omega⟩
        obtain ⟨x, hx⟩ : ∃ n : Nat, q % (p : Int) = n := ⟨(q % (p : Int)).toNat, by omega⟩
        obtain ⟨y, hy⟩ : ∃ n : Nat, o % (p : Int) = n := ⟨(o % (p : Int)).toNat, by omega⟩
        rw [hx, hy, J_sub, L_sub]
        rw [hx] at a2
        rw [hy] at a4
        rw [show (p : Int) - (x : Int) = ((p - x : Nat) : Int) by omega]
        obtain ⟨r1, m1, m2⟩ := match_ok z (p := p) (x := x) (y := y) (by omega) (by omega) (by omega) (by omega)
        obtain ⟨r2, m3, m4⟩ := match_ok z (p := p) (x := p - x) (y := y) (by omega) (by omega) (by omega) (by omega)
        rw [m1, m2, m3, m4]
        simp only [Option.bind_some]
        by_cases d1 : r1 = 0
        · rw [if_pos d1, if_pos d1]
          by_cases d2 : r2 = 0
          · rw [if_pos d2, if_pos d2]; exact ⟨_, rfl, rfl⟩
          · rw [if_neg d2, if_neg d2]; exact ⟨_, rfl, rfl⟩
        · rw [if_neg d1, if_neg d1]; exact ⟨_, rfl, rfl⟩
      · rw [if_neg c2, if_pos rfl, if_pos rfl]
        exact ⟨_, rfl, rfl⟩
    · rw [if_neg c1, if_pos rfl, if_pos rfl]
      exact ⟨_, rfl, rfl⟩
  obtain ⟨r, g1, g2⟩ := goal
  exact ok_T g1 g2 (Inv_thrown hI)
theorem minI_J {a b : Int} (ha : B3 a) (hb : B3 b) : minI (J a) (J b) = J (min a b) := by
  unfold minI
  by_cases c : J b < J a
  · rw [if_pos c]
    rw [J_lt hb ha] at c
    rw [show min a b = b by omega]
  · rw [if_neg c]
    rw [J_lt hb ha] at c
    rw [show min a b = a by omega]
/-- the number of a class -/
theorem least_ok {z : Nat} (hz : 2000 ≤ z) {p : Nat} {q : Int} (hp : 2 ≤ p) (hp2 : p ≤ 1000) (hq : B3 q) (hg : Int.gcd q p = 1) : ∃ v : Int, 0 < v ∧ 2 * v ≤ p ∧ v ≤ q % (p : Int) ∧ v ≤ (p : Int) - q % (p : Int) ∧ F_X0_leastOf z (J p) (J q) = some (J v) ∧ F_X7_ringOf z (J p) (J q) = some (J v) := by
  have a1 := Int.emod_nonneg q (b := (p : Int)) (by omega)
  have a2 := Int.emod_lt_of_pos q (b := (p : Int)) (by omega)
  obtain ⟨w, w1, w2, w3⟩ := inverse_ok (z := z) (by omega) (B36 hq) (m := p) (by omega) (by omega) hg
  have hx0 : q % (p : Int) ≠ 0 := by
    intro h
    have := gcd_toNat q p (by omega)
    rw [h, hg] at this
    simp at this
    omega
  have hw0 : w ≠ 0 := by
    intro h
    rw [h] at w3
    have := Int.le_of_dvd (show (0 : Int) < 1 by decide) (by simpa using w3 : (p : Int) ∣ 1)
    omega
  obtain ⟨x, hx⟩ : ∃ n : Nat, q % (p : Int) = n := ⟨(q % (p : Int)).toNat, by omega⟩
  have w4 : (p : Int) ∣ (w : Int) * (x : Int) - 1 := by
    have e := Int.emod_add_mul_ediv q (p : Int)
    rw [hx] at e
    obtain ⟨t, ht⟩ := w3
    refine ⟨t - w * (q / (p : Int)), ?_⟩
    generalize q / (p : Int) = s at *
    grind
  have lk := look_ok (z := z) (a := x) (m := p) (v := w) (by omega) (by omega) (by omega) w1 w4 (by omega)
  refine ⟨min (min (x : Int) ((p : Int) - x)) (min (w : Int) ((p : Int) - w)), by omega, by omega, by omega, by omega, ?_, ?_⟩
  · unfold F_X0_leastOf
    rw [if_pos (by rw [j1, J_le ⟨by decide, by decide⟩ ⟨by omega, by omega⟩]; omega), fmodI_ok z hq ⟨by omega, by omega⟩ (by omega), hx, J_L hq, J_L ⟨by omega, by omega⟩, w2]
    simp only [Option.bind_some]
    rw [L_J ⟨by omega, by omega⟩, J_sub, J_sub, minI_J ⟨by omega, by omega⟩ ⟨by omega, by omega⟩, minI_J ⟨by omega, by omega⟩ ⟨by omega, by omega⟩, minI_J ⟨by omega, by omega⟩ ⟨by omega, by omega⟩]
  · unfold F_X7_ringOf G_X7_ringOf_29 G_X7_ringOf_50
    rw [J_L hq, J_L ⟨by omega, by omega⟩, rest_ok z (B36 hq) ⟨by omega, by omega⟩ (by omega), hx, Option.bind_some, lk, Option.bind_some, L_sub, L_sub]
    simp only [L_le (a := (w : Int)) (b := (x : Int)) ⟨by omega, by omega⟩ ⟨by omega, by omega⟩, L_le (a := (w : Int)) (b := (p : Int) - x) ⟨by omega, by omega⟩ ⟨by omega, by omega⟩, L_le (a := (x : Int)) (b := (p : Int) - x) ⟨by omega, by omega⟩ ⟨by omega, by omega⟩, L_le (a := (w : Int)) (b := (p : Int) - w) ⟨by omega, by omega⟩ ⟨by omega, by omega⟩, L_le (a := (x : Int)) (b := (p : Int) - w) ⟨by omega, by omega⟩ ⟨by omega, by omega⟩, L_le (a := (p : Int) - x) (b := (p : Int) - w) ⟨by omega, by omega⟩ ⟨by omega, by omega⟩]
    rw [L_J (v := (w : Int)) ⟨by omega, by omega⟩, L_J (v := (x : Int)) ⟨by omega, by omega⟩, L_J (v := (p : Int) - w) ⟨by omega, by omega⟩, L_J (v := (p : Int) - x) ⟨by omega, by omega⟩]
    split <;> split <;> split <;> (congr 2; omega)
theorem lc24_ok {z : Nat} (hz : 2000 ≤ z) (x1 x2 x3 x4 x5 : Int32) {C : CS} {M : MS} {lt : Int64 × Int64} (hI : Inv C M lt) : Okc (lc24 z x1 x2 x3 x4 x5 C M lt) := by
  obtain ⟨p, hp, rfl⟩ := J_of x1
  obtain ⟨q, hq, rfl⟩ := J_of x2
  have goal : ∃ r, F_X6_ring z (J p) (J q) C = some (r, C) ∧ F_X7_ring z (J p) (J q) M = some (r, ms_thrown M 0) := by
    unfold F_X6_ring F_X7_ring
    rw [(isRing_ok (by omega) hp hq).1, (isRing_ok (by omega) hp hq).2]
    simp only [Option.bind_some]
    by_cases c1 : (2 ≤ p ∧ p ≤ 1000) ∧ Int.gcd q p = 1
    · obtain ⟨p, rfl⟩ : ∃ n : Nat, p = n := ⟨p.toNat, by omega⟩
      obtain ⟨v, -, -, -, -, v1, v2⟩ := least_ok hz (p := p) (by omega) (by omega) hq c1.2
      rw [if_pos c1, if_neg n10, if_neg n10, v1, v2]
      exact ⟨_, rfl, rfl⟩
    · rw [if_neg c1, if_pos rfl, if_pos rfl]
      exact ⟨_, rfl, rfl⟩
  obtain ⟨r, g1, g2⟩ := goal
  exact ok_T g1 g2 (Inv_thrown hI)
