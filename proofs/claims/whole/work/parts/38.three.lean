/-! the inverse, by Euclid's steps and by looking -/
theorem inverse_loop (z : Nat) (a : Int) (m : Nat) (hm0 : 0 < m) (hm : m ≤ 1000000) (k : Nat) : ∀ (n x y b f : Nat) (s : Int) (i : Int), y < 2 ^ k → 2 * k + 1 ≤ n → 0 ≤ i → i + 2 * k + 1 ≤ 200 → x ≤ 1000000 → y ≤ 1000000 → (s = 1 ∨ s = -1) → f * x + b * y = m → b ≤ m → 0 < x → Nat.gcd x y = 1 → (m : Int) ∣ (-s * b) * a - x → (m : Int) ∣ (s * f) * a - y →
    ∃ v : Nat, v < m ∧ G_X5_inverse_27 z n (L m) (L x) (L y) (L (-s * b)) (L (s * f)) (J i) = some (L v) ∧ (m : Int) ∣ (v : Int) * a - 1 := by
  have stop : ∀ (n x b f : Nat) (s i : Int), 1 ≤ n → (s = 1 ∨ s = -1) → b ≤ m → Nat.gcd x 0 = 1 → (m : Int) ∣ (-s * b) * a - x → ∃ v : Nat, v < m ∧ G_X5_inverse_27 z n (L m) (L x) (L ((0 : Nat) : Int)) (L (-s * b)) (L (s * f)) (J i) = some (L v) ∧ (m : Int) ∣ (v : Int) * a - 1 := by
    intro n x b f s i hn hs hb hg hd
    rw [Nat.gcd_zero_right] at hg
    subst hg
    have hsb : (-s * (b : Int)).natAbs ≤ 1 * m := nm (by rcases hs with rfl | rfl <;> decide) (by omega)
    have h1 := Int.emod_nonneg (-s * (b : Int)) (b := (m : Int)) (by omega)
    have h2 := Int.emod_lt_of_pos (-s * (b : Int)) (b := (m : Int)) (by omega)
    refine ⟨((-s * (b : Int)) % (m : Int)).toNat, by omega, ?_, ?_⟩
    · obtain ⟨n, rfl⟩ : ∃ q, n = q + 1 := ⟨n - 1, by omega⟩
      rw [e_X5_inverse_27, if_pos (show L ((0 : Nat) : Int) = 0 from rfl), ite_self, fmod_ok z ⟨by omega, by omega⟩ ⟨by omega, by omega⟩ (by omega), Option.bind_some]
      congr 2
      omega
    · have e : (((-s * (b : Int)) % (m : Int)).toNat : Int) = (-s * (b : Int)) - (m : Int) * ((-s * (b : Int)) / (m : Int)) := by
        have := Int.emod_add_mul_ediv (-s * (b : Int)) (m : Int)
        omega
      rw [e]
      generalize (-s * (b : Int)) / (m : Int) = w
      obtain ⟨t, ht⟩ := hd
      exact ⟨t - w * a, by grind⟩
  induction k with
  | zero =>
    intro n x y b f s i hy hn hi hi2 hxb hyb hs h1 h2 h3 h4 h5 h6
    have : y = 0 := by omega
    subst this
    exact stop n x b f s i (by omega) hs h2 h4 h5
  | succ k ih =>
    intro n x y b f s i hy hn hi hi2 hxb hyb hs h1 h2 h3 h4 h5 h6
    by_cases h0 : y = 0
    · subst h0
      exact stop n x b f s i (by omega) hs h2 h4 h5
    have one : ∀ (x y b f : Nat) (s : Int), 0 < x → 0 < y → (s = 1 ∨ s = -1) → f * x + b * y = m → Nat.gcd x y = 1 → (m : Int) ∣ (-s * b) * a - x → (m : Int) ∣ (s * f) * a - y →
        ((b + x / y * f) * y + f * (x % y) = m ∧ f ≤ m ∧ Nat.gcd y (x % y) = 1 ∧ (m : Int) ∣ (-(-s) * f) * a - y ∧ (m : Int) ∣ (-s * ((b + x / y * f : Nat) : Int)) * a - ((x % y : Nat) : Int)) := by
      intro x y b f s hx hy hs h1 h4 h5 h6
      have hdm := Nat.div_add_mod x y
      have hg : Nat.gcd y (x % y) = 1 := by rw [Nat.gcd_comm, ← Nat.gcd_rec, Nat.gcd_comm]; exact h4
      have hdI : (y : Int) * ((x / y : Nat) : Int) + ((x % y : Nat) : Int) = (x : Int) := by exact_mod_cast hdm
      generalize x / y = q at *
      generalize x % y = r at *
      refine ⟨?_, ?_, hg, ?_, ?_⟩
      · rw [← h1, ← hdm, Nat.add_mul, Nat.mul_add]
        have : q * f * y = f * (y * q) := by rw [Nat.mul_comm q f, Nat.mul_assoc, Nat.mul_comm q y]
        omega
      · have : f ≤ f * x := Nat.le_mul_of_pos_right f hx
        omega
      · rw [Int.neg_neg]; exact h6
      · obtain ⟨t, ht⟩ := h5
        obtain ⟨w, hw⟩ := h6
        refine ⟨t - (q : Int) * w, ?_⟩
        rw [Int.natCast_add, Int.natCast_mul]
        grind
    have stp : ∀ (n x y b f : Nat) (s i : Int), 0 < y → x ≤ 1000000 → y ≤ 1000000 → 0 ≤ i → i < 200 → G_X5_inverse_27 z (n + 1) (L m) (L x) (L y) (L (-s * b)) (L (s * f)) (J i) = G_X5_inverse_27 z n (L m) (L y) (L ((x % y : Nat) : Int)) (L (-(-s) * f)) (L (-s * ((b + x / y * f : Nat) : Int))) (J (i + 1)) := by
      intro n x y b f s i hy hxb hyb hi hi2
      have e1 : ¬ (200 : Int32) ≤ J i := by rw [j200, J_le b3200 ⟨by omega, by omega⟩]; omega
      have hdI : (y : Int) * ((x / y : Nat) : Int) + ((x % y : Nat) : Int) = (x : Int) := by exact_mod_cast Nat.div_add_mod x y
      rw [e_X5_inverse_27, if_neg e1, if_neg (L_ne0 (by omega) (by omega)), if_neg (L_ne0 (by omega) (by omega))]
      simp only [Option.bind_some]
      rw [L_natdiv (by omega) (by omega), L_mul, L_sub, L_mul, L_sub, j1, J_add]
      have e2 : (x : Int) - ((x / y : Nat) : Int) * (y : Int) = ((x % y : Nat) : Int) := by
        generalize x / y = q at *
        generalize x % y = r at *
        grind
      have e3 : -s * (b : Int) - ((x / y : Nat) : Int) * (s * (f : Int)) = -s * ((b + x / y * f : Nat) : Int) := by
        rw [Int.natCast_add, Int.natCast_mul]
        generalize ((x / y : Nat) : Int) = q
        grind
      rw [e2, e3, Int.neg_neg]
    obtain ⟨n, rfl⟩ : ∃ q, n = q + 1 + 1 := ⟨n - 2, by omega⟩
    have hr : x % y < y := Nat.mod_lt _ (by omega)
    obtain ⟨g1, g2, g3, g4, g5⟩ := one x y b f s h3 (by omega) hs h1 h4 h5 h6
    rw [stp (n + 1) x y b f s i (by omega) hxb hyb hi (by omega)]
    by_cases h7 : x % y = 0
    · rw [h7] at g1 g3 g5 ⊢
      exact stop (n + 1) y f (b + x / y * f) (-s) (i + 1) (by omega) (by omega) g2 g3 g4
    · obtain ⟨q1, q2, q3, q4, q5⟩ := one y (x % y) f (b + x / y * f) (-s) (by omega) (by omega) (by omega) g1 g3 g4 g5
      have hh := halve (x := x) (y := y) (by omega) (by omega)
      have hr2 : y % (x % y) < x % y := Nat.mod_lt _ (by omega)
      rw [stp n y (x % y) f (b + x / y * f) (-s) (i + 1) (by omega) (by omega) (by omega) (by omega) (by omega)]
      exact ih n (x % y) (y % (x % y)) (b + x / y * f) (f + y / (x % y) * (b + x / y * f)) (- -s) (i + 1 + 1) (by rw [Nat.pow_succ] at hy; omega) (by omega) (by omega) (by omega) (by omega) (by omega) (by omega) q1 q2 (by omega) q3 q4 q5
theorem inverse_ok {z : Nat} (hz : 200 ≤ z) {a : Int} (ha : B6 a) {m : Nat} (hm0 : 0 < m) (hm : m ≤ 1000000) (hg : Int.gcd a m = 1) : ∃ v : Nat, v < m ∧ F_X5_inverse z (L a) (L m) = some (L v) ∧ (m : Int) ∣ (v : Int) * a - 1 := by
  have h1 := Int.emod_nonneg a (b := (m : Int)) (by omega)
  have h2 := Int.emod_lt_of_pos a (b := (m : Int)) (by omega)
  have hgn := gcd_toNat a m hm0
  obtain ⟨v, g1, g2, g3⟩ := inverse_loop z a m hm0 hm 63 z m (a % (m : Int)).toNat 0 1 1 0 (by show _ < 9223372036854775808; omega) (by omega) (by omega) (by omega) hm (by omega) (Or.inl rfl) (by omega) (by omega) hm0 (by rw [Nat.gcd_comm, hgn]; exact hg) ⟨-1, by omega⟩ (by
    have := Int.emod_add_mul_ediv a (m : Int)
    refine ⟨a / (m : Int), ?_⟩
    have e : (((a % (m : Int)).toNat : Nat) : Int) = a % (m : Int) := by omega
    rw [e]
    omega)
  refine ⟨v, g1, ?_, g3⟩
  unfold F_X5_inverse
  rw [if_pos (by rw [l1, L_le b61 ⟨by omega, by omega⟩]; omega), fmod_ok z ha ⟨by omega, by omega⟩ (by omega), Option.bind_some]
  have e : a % (m : Int) = (((a % (m : Int)).toNat : Nat) : Int) := by omega
  rw [e, l1, l0, j0]
  exact g2
/-- looking finds the same -/
theorem look_ok {z : Nat} {a m v : Nat} (ha : a ≤ 1000000) (hm0 : 0 < m) (hm : m ≤ 1000000) (hv : v < m) (hd : (m : Int) ∣ (v : Int) * a - 1) (hz : v < z) : F_X7_inverse z (L a) (L m) = some (L v) := by
  have e1 : (1 : Int64) - 1 / L m * L m = L ((1 % m : Nat) : Int) := by
    have := L_natrem (a := 1) (b := m) (by omega) (by omega)
    exact this
  have key : ∀ w : Nat, w ≤ v → ((a * w) % m = 1 % m ↔ w = v) := by
    intro w hw
    have hv1 : (a * v) % m = 1 % m := by
      obtain ⟨t, ht⟩ := hd
      have e2 : ((a * v : Nat) : Int) = 1 + (m : Int) * t := by rw [Int.natCast_mul]; grind
      have e3 : ((a * v : Nat) : Int) % (m : Int) = (1 : Int) % (m : Int) := by rw [e2, Int.add_mul_emod_self_left]
      exact_mod_cast e3
    constructor
    · intro h
      have hgc : Nat.gcd m a = 1 := by
        have g1 : ((Nat.gcd m a : Nat) : Int) ∣ 1 := by
          have d1 : ((Nat.gcd m a : Nat) : Int) ∣ (m : Int) := Int.natCast_dvd_natCast.mpr (Nat.gcd_dvd_left m a)
          have d2 : ((Nat.gcd m a : Nat) : Int) ∣ (a : Int) := Int.natCast_dvd_natCast.mpr (Nat.gcd_dvd_right m a)
          have d3 : ((Nat.gcd m a : Nat) : Int) ∣ (v : Int) * a - 1 := Int.dvd_trans d1 hd
          have d4 : ((Nat.gcd m a : Nat) : Int) ∣ (v : Int) * a := Int.dvd_mul_of_dvd_right d2
          have := Int.dvd_sub d4 d3
          have e : (v : Int) * a - ((v : Int) * a - 1) = 1 := by omega
          rwa [e] at this
        have g2 : Nat.gcd m a ∣ 1 := Int.natCast_dvd_natCast.mp g1
        exact Nat.dvd_one.mp g2
      have hsub : m ∣ a * (v - w) := by
        rw [Nat.mul_sub]
        have : (a * v - a * w) % m = 0 := Nat.sub_mod_eq_zero_of_mod_eq (by rw [hv1, h])
        exact Nat.dvd_of_mod_eq_zero this
      have hd2 : m ∣ v - w := Nat.Coprime.dvd_of_dvd_mul_left (k := m) (m := a) hgc hsub
      rcases Nat.eq_zero_or_pos (v - w) with h0 | h0
      · omega
      · have := Nat.le_of_dvd h0 hd2
        omega
    · intro h
      rw [h]; exact hv1
  have loop : ∀ (d n w : Nat), w + d = v → d + 1 ≤ n → G_X7_inverse_3 z n (L a) (L m) (L w) = some (L v) := by
    intro d
    induction d with
    | zero =>
      intro n w hw hn
      obtain ⟨n, rfl⟩ : ∃ q, n = q + 1 := ⟨n - 1, by omega⟩
      have hwv : w = v := by omega
      subst hwv
      have hb : a * w ≤ 1000000 * 1000000 := Nat.mul_le_mul ha (by omega)
      rw [e_X7_inverse_3, if_neg (by rw [L_le ⟨by omega, by omega⟩ ⟨by omega, by omega⟩]; omega), if_neg (L_ne0 (by omega) (by omega)), if_neg (L_ne0 (by omega) (by omega)), L_mul, e1, ← Int.natCast_mul, L_natrem (by omega) (by omega), if_pos (by rw [(key w (by omega)).mpr rfl])]
    | succ d ih =>
      intro n w hw hn
      obtain ⟨n, rfl⟩ : ∃ q, n = q + 1 := ⟨n - 1, by omega⟩
      have hb : a * w ≤ 1000000 * 1000000 := Nat.mul_le_mul ha (by omega)
      have hne : ¬ (a * w) % m = 1 % m := fun h => by
        have := (key w (by omega)).mp h
        omega
      have hm1 : (a * w) % m < m := Nat.mod_lt _ hm0
      have hm2 : 1 % m < m := Nat.mod_lt _ hm0
      rw [e_X7_inverse_3, if_neg (by rw [L_le ⟨by omega, by omega⟩ ⟨by omega, by omega⟩]; omega), if_neg (L_ne0 (by omega) (by omega)), if_neg (L_ne0 (by omega) (by omega)), L_mul, e1, ← Int.natCast_mul, L_natrem (by omega) (by omega), if_neg (by rw [L_eq ⟨by omega, by omega⟩ ⟨by omega, by omega⟩]; omega), Option.bind_some, l1, L_add]
      exact ih n (w + 1) (by omega) (by omega)
  unfold F_X7_inverse
  rw [l0]
  exact loop v z 0 (by omega) (by omega)
theorem lTh : (1000 : Int64) = L 1000 := by decide +kernel
theorem bTh : B6 1000 := ⟨by decide, by decide⟩
theorem thousand_ok (z : Nat) {v : Int} (h : B3 v) : F_X7_isThousand z (J v) = some (if 1 ≤ v ∧ v ≤ 1000 then 1 else 0) := by
  unfold F_X7_isThousand
  rw [lTh, l1, isinI z h b61 bTh, Option.bind_some]
  by_cases c : 1 ≤ v ∧ v ≤ 1000
  · rw [if_pos c]; rfl
  · rw [if_neg c]; rfl
theorem three_eq {z : Nat} (hz : 2000 ≤ z) (M : MS) (x1 x2 x3 x4 : Int32) : ∃ r M1, F_X6_three z x1 x2 x3 x4 = some r ∧ F_X7_three z x1 x2 x3 x4 M = some (r, M1) ∧ kM M1 = kM M := by
  obtain ⟨a, ha, rfl⟩ := J_of x1
  obtain ⟨b, hb, rfl⟩ := J_of x2
  obtain ⟨c, hc, rfl⟩ := J_of x3
  have hz2 : 200 ≤ z := by omega
  have e1 : ∀ {w : Int}, B3 w → F_X6_lies z (Int32.toInt64 (J w)) (1 : Int64) (1000 : Int64) = some (if 1 ≤ w ∧ w ≤ 1000 then 1 else 0) := fun hw => by rw [lTh, l1]; exact liesI z hw b61 bTh
  unfold F_X6_three F_X7_three F_X6_areThree
  simp only [e1 ha, e1 hb, e1 hc, thousand_ok z ha, thousand_ok z hb, thousand_ok z hc, Option.bind_some]
  by_cases c1 : 1 ≤ a ∧ a ≤ 1000
  · rw [if_pos c1, if_neg n10, if_neg n10]
    by_cases c2 : 1 ≤ b ∧ b ≤ 1000
    · rw [if_pos c2, if_neg n10, if_neg n10]
      by_cases c3 : 1 ≤ c ∧ c ≤ 1000
      · rw [if_pos c3, if_neg n10, if_neg n10, J_L ha, J_L hb, J_L hc]
        obtain ⟨a, rfl⟩ : ∃ n : Nat, a = n := ⟨a.toNat, by omega⟩
        obtain ⟨b, rfl⟩ : ∃ n : Nat, b = n := ⟨b.toNat, by omega⟩
        obtain ⟨c, rfl⟩ : ∃ n : Nat, c = n := ⟨c.toNat, by omega⟩
        have d6 : ∀ {x y : Nat}, 1 ≤ y → y ≤ 1000 → x ≤ 1000 → F_X5_divisor z (L x) (L y) = some (L (Int.gcd x y : Nat)) ∧ F_X7_common z (L x) (L y) = some (L (Int.gcd x y : Nat)) ∧ 1 ≤ Int.gcd (x : Int) y ∧ Int.gcd (x : Int) y ≤ 1000 := by
          intro x y h1 h2 h3
          refine ⟨divisor_ok hz2 ⟨by omega, by omega⟩ ⟨by omega, by omega⟩ (by omega) (by omega) (by omega), common_ok hz2 ⟨by omega, by omega⟩ ⟨by omega, by omega⟩ (by omega) (by omega), Int.gcd_pos_of_ne_zero_right _ (by omega), ?_⟩
          have := Int.le_of_dvd (by omega) (Int.gcd_dvd_right (x : Int) y)
          omega
        obtain ⟨p1, p2, p3, p4⟩ := d6 (x := a) (y := b) (by omega) (by omega) (by omega)
        obtain ⟨p5, p6, p7, p8⟩ := d6 (x := b) (y := c) (by omega) (by omega) (by omega)
        obtain ⟨p9, -, p11, p12⟩ := d6 (x := a) (y := c) (by omega) (by omega) (by omega)
        obtain ⟨-, p14, p15, p16⟩ := d6 (x := c) (y := a) (by omega) (by omega) (by omega)
        have pc : Int.gcd (c : Int) a = Int.gcd (a : Int) c := Int.gcd_comm _ _
        rw [p1, p2, Option.bind_some, Option.bind_some]
        have t1 : ∀ {g : Nat}, g ≤ 1000 → (L (g : Int) = 1 ↔ g = 1) := fun {g} hg => by rw [l1, L_eq ⟨by omega, by omega⟩ b61]; omega
        have t2 : ∀ {g : Nat}, g ≤ 1000 → ((1 : Int64) < L (g : Int) ↔ 1 < g) := fun {g} hg => by rw [l1, L_lt b61 ⟨by omega, by omega⟩]; omega
        have t3 : ∀ {g : Nat}, g ≤ 1000 → (L (g : Int) ≤ (1 : Int64) ↔ g ≤ 1) := fun {g} hg => by rw [l1, L_le ⟨by omega, by omega⟩ b61]; omega
        by_cases g1 : Int.gcd (a : Int) b = 1
        · rw [if_pos ((t1 p4).mpr g1), if_neg (fun h => by have := (t2 p4).mp h; omega), p5, p6, Option.bind_some, Option.bind_some]
          by_cases g2 : Int.gcd (b : Int) c = 1
          · rw [if_pos ((t1 p8).mpr g2), if_neg (fun h => by have := (t2 p8).mp h; omega), p9, p14, Option.bind_some, Option.bind_some]
            by_cases g3 : Int.gcd (a : Int) c = 1
            · rw [if_pos ((t1 p12).mpr g3), if_pos ((t3 p16).mpr (by omega)), Option.bind_some, if_neg n10]
              obtain ⟨v1, i1, i2, i3⟩ := inverse_ok hz2 (a := (b : Int)) ⟨by omega, by omega⟩ (m := c) (by omega) (by omega) g2
              obtain ⟨v2, i4, i5, i6⟩ := inverse_ok hz2 (a := (c : Int)) ⟨by omega, by omega⟩ (m := a) (by omega) (by omega) (by omega)
              obtain ⟨v3, i7, i8, i9⟩ := inverse_ok hz2 (a := (a : Int)) ⟨by omega, by omega⟩ (m := b) (by omega) (by omega) g1
              have k1 := look_ok (z := z) (a := b) (m := c) (v := v1) (by omega) (by omega) (by omega) i1 i3 (by omega)
              have k2 := look_ok (z := z) (a := c) (m := a) (v := v2) (by omega) (by omega) (by omega) i4 i6 (by omega)
              have k3 := look_ok (z := z) (a := a) (m := b) (v := v3) (by omega) (by omega) (by omega) i7 i9 (by omega)
              have m1 : ((a : Int) * (v1 : Int)).natAbs ≤ 1000 * 1000 := nm (by omega) (by omega)
              have m2 : ((b : Int) * (v2 : Int)).natAbs ≤ 1000 * 1000 := nm (by omega) (by omega)
              have m3 : ((c : Int) * (v3 : Int)).natAbs ≤ 1000 * 1000 := nm (by omega) (by omega)
              obtain ⟨u1, w1, -, s1, r1, b1, d1⟩ := sums_ok hz2 (h := (a : Int) * (v1 : Int)) (by omega) (k := c) (by omega) (by omega)
              obtain ⟨u2, w2, -, s2, r2, b2, d2⟩ := sums_ok hz2 (h := (b : Int) * (v2 : Int)) (by omega) (k := a) (by omega) (by omega)
              obtain ⟨u3, w3, -, s3, r3, b3, d3⟩ := sums_ok hz2 (h := (c : Int) * (v3 : Int)) (by omega) (k := b) (by omega) (by omega)
              have o1 := Tw_bd (h := (a : Int) * (v1 : Int)) (k := c) (by omega) (by omega)
              have o2 := Tw_bd (h := (b : Int) * (v2 : Int)) (k := a) (by omega) (by omega)
              have o3 := Tw_bd (h := (c : Int) * (v3 : Int)) (k := b) (by omega) (by omega)
              have y1 : c * (c + 5) ≤ 1000 * 1005 := Nat.mul_le_mul (by omega) (by omega)
              have y2 : a * (a + 5) ≤ 1000 * 1005 := Nat.mul_le_mul (by omega) (by omega)
              have y3 : b * (b + 5) ≤ 1000 * 1005 := Nat.mul_le_mul (by omega) (by omega)
              have p1 := r1.1
              have p2 := r2.1
              have p3 := r3.1
              have tc := twelfths_ok hz2 (h := (a : Int) * (v1 : Int)) ⟨by omega, by omega⟩ (k := c) (by omega) (by omega)
              have ta := twelfths_ok hz2 (h := (b : Int) * (v2 : Int)) ⟨by omega, by omega⟩ (k := a) (by omega) (by omega)
              have tb := twelfths_ok hz2 (h := (c : Int) * (v3 : Int)) ⟨by omega, by omega⟩ (k := b) (by omega) (by omega)
              generalize Tw ((a : Int) * (v1 : Int)) c = C at *
              generalize Tw ((b : Int) * (v2 : Int)) a = A at *
              generalize Tw ((c : Int) * (v3 : Int)) b = B at *
              -- the first two
              have n1 : (u2 * w1).natAbs ≤ 1005000 * 12000 := nm (by omega) (by omega)
              have n2 : (u1 * w2).natAbs ≤ 1005000 * 12000 := nm (by omega) (by omega)
              have n3 : (w2 * w1).natAbs ≤ 12000 * 12000 := nm (by omega) (by omega)
              have n4 : 0 < w2 * w1 := Int.mul_pos p2 p1
              obtain ⟨u, w, f1, f2, f3, f4⟩ := lays_pos hz2 (a := u2 * w1 + u1 * w2) (b := w2 * w1) (n := 1005000 * 12000 + 1005000 * 12000) (by omega) (by decide) n4 (by omega)
              have hr := Rd_like (c := A * (12 * (c : Int)) + C * (12 * (a : Int))) (d := (12 * (a : Int)) * (12 * (c : Int))) (by omega) (by have := Rd_add r2 r1; grind) f2
              have f5 := f2.1
              -- all three
              have n5 : (u3 * w).natAbs ≤ 1005000 * 144000000 := nm (by omega) (by omega)
              have n6 : (u * w3).natAbs ≤ 24120000000 * 12000 := nm (by omega) (by omega)
              have n7 : (w3 * w).natAbs ≤ 12000 * 144000000 := nm (by omega) (by omega)
              have n8 : 0 < w3 * w := Int.mul_pos p3 f5
              have q1 : (C * (a : Int) * (b : Int)).natAbs ≤ 1005000 * 1000 * 1000 := nm (nm (by omega) (by omega)) (by omega)
              have q2 : (A * (b : Int) * (c : Int)).natAbs ≤ 1005000 * 1000 * 1000 := nm (nm (by omega) (by omega)) (by omega)
              have q3 : (B * (a : Int) * (c : Int)).natAbs ≤ 1005000 * 1000 * 1000 := nm (nm (by omega) (by omega)) (by omega)
              have q4 : (12 * (a : Int) * (b : Int) * (c : Int)).natAbs ≤ 12000 * 1000 * 1000 := nm (nm (by omega) (by omega)) (by omega)
              have q5 : 0 < 12 * (a : Int) * (b : Int) * (c : Int) := Int.mul_pos (Int.mul_pos (by omega) (by omega)) (by omega)
              have hadd := Rd_add r3 hr
              obtain ⟨U, V, h1, h2, h3, h4, h5, h6, h7⟩ := frac_ok hz2 (a := C * (a : Int) * (b : Int) + A * (b : Int) * (c : Int) + B * (a : Int) * (c : Int)) (b := 12 * (a : Int) * (b : Int) * (c : Int)) (c := u3 * w + u * w3) (d := w3 * w) (n := 3 * 1005000000000) (m := 1005000 * 144000000 + 24120000000 * 12000) (by omega) (by decide) q5 (by omega) (by omega) (by decide) n8 (by omega) (by
                have q6 : 0 < 144 * ((a : Int) * (c : Int)) := Int.mul_pos (by decide) (Int.mul_pos (by omega) (by omega))
                refine Int.eq_of_mul_eq_mul_left (a := 144 * ((a : Int) * (c : Int))) (by omega) ?_
                grind)
              rw [i2, Option.bind_some, L_mul, tc, Option.bind_some, i5, Option.bind_some, L_mul, ta, Option.bind_some, i8, Option.bind_some, L_mul, tb, Option.bind_some, L_mul, L_mul, L_mul, L_mul, L_add, L_mul, L_mul, L_add, l12, L_mul, L_mul, L_mul, h1, Option.bind_some]
              rw [k1, Option.bind_some, L_mul, s1, Option.bind_some]
              show ∃ r M1, _ ∧ ((F_X7_inverse z (L c) (L a)).bind _) = _ ∧ _
              rw [k2, Option.bind_some, L_mul, s2, Option.bind_some]
              have ad1 : F_X7_adds z (L u1) (L w1) (ms_under (ms_up (ms_under (ms_up (ms_thrown M 0) (L u1)) (L w1)) (L u2)) (L w2)) = some (ms_under (ms_up (ms_thrown M 0) (L u)) (L w)) := by
                unfold F_X7_adds
                show (F_X7_lays z (L u2 * L w1 + L u1 * L w2) (L w2 * L w1) _).bind _ = _
                rw [L_mul, L_mul, L_add, L_mul, f1, Option.bind_some]
                rfl
              have ad2 : F_X7_adds z (L u) (L w) (ms_under (ms_up (ms_under (ms_up (ms_thrown M 0) (L u)) (L w)) (L u3)) (L w3)) = some (ms_under (ms_up (ms_thrown M 0) (L U)) (L V)) := by
                unfold F_X7_adds
                show (F_X7_lays z (L u3 * L w + L u * L w3) (L w3 * L w) _).bind _ = _
                rw [L_mul, L_mul, L_add, L_mul, h2, Option.bind_some]
                rfl
              show ∃ r M1, _ ∧ ((F_X7_adds z (L u1) (L w1) _).bind _) = _ ∧ _
              rw [ad1, Option.bind_some]
              show ∃ r M1, _ ∧ ((F_X7_inverse z (L a) (L b)).bind _) = _ ∧ _
              rw [k3, Option.bind_some, L_mul, s3, Option.bind_some]
              show ∃ r M1, _ ∧ ((F_X7_adds z (L u) (L w) _).bind _) = _ ∧ _
              rw [ad2, Option.bind_some]
              obtain ⟨r, M1, e1, e2, e3⟩ := part_ok z x4 (L U) (L V) (ms_under (ms_up (ms_thrown M 0) (L U)) (L V)) M rfl rfl rfl
              rw [e1, e2]
              exact ⟨r, M1, rfl, rfl, e3⟩
            · rw [if_neg (fun h => g3 ((t1 p12).mp h)), if_neg (fun h => by have := (t3 p16).mp h; omega), Option.bind_some, if_pos rfl]
              exact ⟨_, _, rfl, rfl, rfl⟩
          · rw [if_neg (fun h => g2 ((t1 p8).mp h)), if_pos ((t2 p8).mpr (by omega)), Option.bind_some, if_pos rfl]
            exact ⟨_, _, rfl, rfl, rfl⟩
        · rw [if_neg (fun h => g1 ((t1 p4).mp h)), if_pos ((t2 p4).mpr (by omega)), Option.bind_some, if_pos rfl]
          exact ⟨_, _, rfl, rfl, rfl⟩
      · rw [if_neg c3, if_pos rfl, if_pos rfl, Option.bind_some, if_pos rfl]
        exact ⟨_, _, rfl, rfl, rfl⟩
    · rw [if_neg c2, if_pos rfl, if_pos rfl, Option.bind_some, if_pos rfl]
      exact ⟨_, _, rfl, rfl, rfl⟩
  · rw [if_neg c1, if_pos rfl, if_pos rfl, Option.bind_some, if_pos rfl]
    exact ⟨_, _, rfl, rfl, rfl⟩
theorem lc3_ok {z : Nat} (hz : 2000 ≤ z) (x1 x2 x3 x4 x5 : Int32) {C : CS} {M : MS} {lt : Int64 × Int64} (hI : Inv C M lt) : Okc (lc3 z x1 x2 x3 x4 x5 C M lt) := by
  obtain ⟨r, M1, h1, h2, h3⟩ := three_eq hz M x1 x2 x3 (bo x4)
  exact ok_N hI h1 h2 h3
