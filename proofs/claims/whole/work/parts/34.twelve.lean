/-! twelve times k times the sum of saws: what both do, as one function of whole numbers -/
def eu : Nat → Nat → Nat → Int → Int → Nat → Nat → Nat × Int × Int × Nat × Nat
  | 0, _, y, s, c, l, b => (y, s, c, l, b)
  | n + 1, x, y, s, c, l, b => if x = 0 then (y, s, c, l, b) else eu n (y % x) x (-s) (c + s * ((y / x : Nat) : Int)) (y / x * l + b) l
theorem eu_s (n x y : Nat) (s c : Int) (l b : Nat) : eu (n + 1) x y s c l b = if x = 0 then (y, s, c, l, b) else eu n (y % x) x (-s) (c + s * ((y / x : Nat) : Int)) (y / x * l + b) l := rfl
theorem eu_0 (n y : Nat) (s c : Int) (l b : Nat) : eu n 0 y s c l b = (y, s, c, l, b) := by
  cases n with
  | zero => rfl
  | succ n => rw [eu_s, if_pos rfl]
/-- enough steps are as good as more -/
theorem eu_more (k : Nat) : ∀ (n m x y : Nat) (s c : Int) (l b : Nat), x < 2 ^ k → 2 * k ≤ n → 2 * k ≤ m → eu n x y s c l b = eu m x y s c l b := by
  induction k with
  | zero =>
    intro n m x y s c l b hx _ _
    have : x = 0 := by omega
    subst this
    rw [eu_0, eu_0]
  | succ k ih =>
    intro n m x y s c l b hx hn hm
    obtain ⟨n, rfl⟩ : ∃ q, n = q + 1 + 1 := ⟨n - 2, by omega⟩
    obtain ⟨m, rfl⟩ : ∃ q, m = q + 1 + 1 := ⟨m - 2, by omega⟩
    rw [eu_s, eu_s (m + 1)]
    by_cases h0 : x = 0
    · rw [if_pos h0, if_pos h0]
    · rw [if_neg h0, if_neg h0, eu_s, eu_s m]
      by_cases h1 : y % x = 0
      · rw [if_pos h1, if_pos h1]
      · rw [if_neg h1, if_neg h1]
        have hh := halve (x := y) (y := x) (by omega) (by omega)
        exact ih _ _ _ _ _ _ _ _ (by rw [Nat.pow_succ] at hx; omega) (by omega) (by omega)
/-- both numbers by g -/
theorem eu_scale (g : Nat) (hg : 0 < g) (n : Nat) : ∀ (x y : Nat) (s c : Int) (l b : Nat), eu n (g * x) (g * y) s c l b = (g * (eu n x y s c l b).1, (eu n x y s c l b).2) := by
  induction n with
  | zero => intro x y s c l b; rfl
  | succ n ih =>
    intro x y s c l b
    rw [eu_s, eu_s]
    by_cases h0 : x = 0
    · subst h0
      rw [if_pos (Nat.mul_zero g), if_pos rfl]
    · rw [if_neg (by intro h; rcases Nat.mul_eq_zero.mp h with h | h <;> omega), if_neg h0, Nat.mul_mod_mul_left, Nat.mul_div_mul_left _ _ hg, ih]
theorem eu_ind {P : Nat → Nat → Int → Int → Nat → Nat → Prop} (hs : ∀ x y s c l b, 0 < x → P x y s c l b → P (y % x) x (-s) (c + s * ((y / x : Nat) : Int)) (y / x * l + b) l) (k : Nat) : ∀ (n x y : Nat) (s c : Int) (l b : Nat), x < 2 ^ k → 2 * k ≤ n → P x y s c l b → P 0 (eu n x y s c l b).1 (eu n x y s c l b).2.1 (eu n x y s c l b).2.2.1 (eu n x y s c l b).2.2.2.1 (eu n x y s c l b).2.2.2.2 := by
  induction k with
  | zero =>
    intro n x y s c l b hx _ h
    have : x = 0 := by omega
    subst this
    rw [eu_0]
    exact h
  | succ k ih =>
    intro n x y s c l b hx hn h
    by_cases h0 : x = 0
    · subst h0
      rw [eu_0]
      exact h
    obtain ⟨n, rfl⟩ : ∃ q, n = q + 1 + 1 := ⟨n - 2, by omega⟩
    rw [eu_s, if_neg h0]
    have h' := hs x y s c l b (by omega) h
    by_cases h1 : y % x = 0
    · rw [h1, eu_0]
      rw [h1] at h'
      exact h'
    · rw [eu_s, if_neg h1]
      have hh := halve (x := y) (y := x) (by omega) (by omega)
      exact ih _ _ _ _ _ _ _ (by rw [Nat.pow_succ] at hx; omega) (by omega) (hs _ _ _ _ _ _ (by omega) h')
/-- what holds all the way: the lower numbers, the sign, the links' bound, the divisor -/
def euP (g K : Nat) (x y : Nat) (s c : Int) (l b : Nat) : Prop := x < y ∧ Nat.gcd x y = g ∧ l * y + b * x = K ∧ (s = 1 ∨ s = -1) ∧ 0 < l ∧ ((c = 0 ∧ l = 1 ∧ b = 0) ∨ (0 < b ∧ c.natAbs ≤ l)) ∧ b ≤ l
theorem euP_step (g K : Nat) : ∀ x y s c l b, 0 < x → euP g K x y s c l b → euP g K (y % x) x (-s) (c + s * ((y / x : Nat) : Int)) (y / x * l + b) l := by
  intro x y s c l b hx ⟨hxy, hg, h1, h2, h3, h4, h5⟩
  have hq : 1 ≤ y / x := (Nat.one_le_div_iff hx).mpr (by omega)
  have hdm := Nat.div_add_mod y x
  have hr : y % x < x := Nat.mod_lt _ hx
  have hg2 : Nat.gcd (y % x) x = g := by rw [← hg, ← Nat.gcd_rec]
  generalize y / x = q at *
  generalize y % x = r at *
  have hql : l ≤ q * l := Nat.le_mul_of_pos_left l hq
  refine ⟨hr, hg2, ?_, by omega, by omega, Or.inr ⟨h3, ?_⟩, by omega⟩
  · rw [← h1, ← hdm, Nat.add_mul, Nat.mul_add]
    have e1 : q * l * x = l * (x * q) := by rw [Nat.mul_comm q l, Nat.mul_assoc, Nat.mul_comm q x]
    omega
  · have hs : (c + s * (q : Int)).natAbs ≤ c.natAbs + q := by
      rcases h2 with rfl | rfl <;> omega
    rcases h4 with ⟨rfl, rfl, rfl⟩ | ⟨hb, hc⟩
    · simp at hs
      omega
    · have e2 : l + q ≤ q * l + 1 := by
        obtain ⟨q, rfl⟩ : ∃ w, q = w + 1 := ⟨q - 1, by omega⟩
        obtain ⟨l, rfl⟩ : ∃ w, l = w + 1 := ⟨l - 1, by omega⟩
        have : (q + 1) * (l + 1) = q * l + q + l + 1 := by rw [Nat.add_mul, Nat.mul_add]; omega
        omega
      omega
/-- the value -/
def Tv (f : Nat) (r : Nat × Int × Int × Nat × Nat) : Int := (f : Int) + (r.1 : Int) * ((r.2.2.2.1 : Int) * (r.2.2.1 - (if r.2.1 < 0 then 3 else 0)) - r.2.1 * (r.2.2.2.2 : Int))
def Tn (f k : Nat) : Int := Tv f (eu 128 f k 1 0 1 0)
def Tw (h : Int) (k : Nat) : Int := Tn (h % (k : Int)).toNat k
theorem eu_fin {f k : Nat} (hk : f < k) (hf : f < 2 ^ 63) : euP (Nat.gcd f k) k 0 (eu 128 f k 1 0 1 0).1 (eu 128 f k 1 0 1 0).2.1 (eu 128 f k 1 0 1 0).2.2.1 (eu 128 f k 1 0 1 0).2.2.2.1 (eu 128 f k 1 0 1 0).2.2.2.2 :=
  eu_ind (P := euP (Nat.gcd f k) k) (euP_step _ _) 63 128 f k 1 0 1 0 hf (by omega) ⟨hk, rfl, by omega, Or.inl rfl, by omega, Or.inl ⟨rfl, rfl, rfl⟩, by omega⟩
/-- the class's loop -/
theorem twelfths_loop (z : Nat) (k : Nat) : ∀ (n m x y : Nat) (f s c : Int) (l b : Nat) (i : Int), x < 2 ^ k → 2 * k + 1 ≤ n → 2 * k ≤ m → (s = 1 ∨ s = -1) → 0 ≤ i → i + 2 * k + 1 ≤ 200 → (x : Int) < 9223372036854775808 → (y : Int) < 9223372036854775808 →
    G_X5_twelfths_37 z n (L f) (L x) (L y) (L s) (L c) (L b) (L l) (J i) = some (L (f + ((eu m x y s c l b).1 : Int) * (((eu m x y s c l b).2.2.2.1 : Int) * ((eu m x y s c l b).2.2.1 - (if (eu m x y s c l b).2.1 < 0 then 3 else 0)) - (eu m x y s c l b).2.1 * ((eu m x y s c l b).2.2.2.2 : Int)))) := by
  have stop : ∀ (n m y : Nat) (f s c : Int) (l b : Nat) (i : Int), 1 ≤ n → (s = 1 ∨ s = -1) → G_X5_twelfths_37 z n (L f) (L ((0 : Nat) : Int)) (L y) (L s) (L c) (L b) (L l) (J i) = some (L (f + ((eu m 0 y s c l b).1 : Int) * (((eu m 0 y s c l b).2.2.2.1 : Int) * ((eu m 0 y s c l b).2.2.1 - (if (eu m 0 y s c l b).2.1 < 0 then 3 else 0)) - (eu m 0 y s c l b).2.1 * ((eu m 0 y s c l b).2.2.2.2 : Int)))) := by
    intro n m y f s c l b i hn hs
    obtain ⟨n, rfl⟩ : ∃ q, n = q + 1 := ⟨n - 1, by omega⟩
    rw [eu_0, e_X5_twelfths_37, if_pos (show L ((0 : Nat) : Int) = 0 from rfl), ite_self]
    unfold G_X5_twelfths_113 G_X5_twelfths_127
    rcases hs with rfl | rfl
    · rw [if_pos (show (0 : Int64) ≤ L 1 by decide +kernel), l0, L_sub, L_mul, L_mul, L_sub, L_mul, L_add]
      simp
    · rw [if_neg (show ¬ (0 : Int64) ≤ L (-1) by decide +kernel), l3, L_sub, L_mul, L_mul, L_sub, L_mul, L_add]
      simp
  induction k with
  | zero =>
    intro n m x y f s c l b i hx hn hm hs hi hi2 hx2 hy
    have : x = 0 := by omega
    subst this
    exact stop n m y f s c l b i (by omega) hs
  | succ k ih =>
    intro n m x y f s c l b i hx hn hm hs hi hi2 hx2 hy
    by_cases h0 : x = 0
    · subst h0
      exact stop n m y f s c l b i (by omega) hs
    obtain ⟨n, rfl⟩ : ∃ q, n = q + 1 := ⟨n - 1, by omega⟩
    obtain ⟨m, rfl⟩ : ∃ q, m = q + 1 + 1 := ⟨m - 2, by omega⟩
    have e1 : ¬ (200 : Int32) ≤ J i := by rw [j200, J_le b3200 ⟨by omega, by omega⟩]; omega
    have hr : y % x < x := Nat.mod_lt _ (by omega)
    rw [eu_s, if_neg h0]
    rw [e_X5_twelfths_37, if_neg e1, if_neg (L_ne0 hx2 h0), if_neg (L_ne0 hx2 h0), Option.bind_some, if_neg (L_ne0 hx2 h0)]
    simp only [Option.bind_some]
    rw [L_natrem hy hx2, L_natdiv hy hx2, L_mul, L_add, L_neg, L_mul, L_add, j1, J_add]
    by_cases h1 : y % x = 0
    · rw [h1]
      exact stop _ _ _ _ _ _ _ _ _ (by omega) (by omega)
    · obtain ⟨n, rfl⟩ : ∃ q, n = q + 1 := ⟨n - 1, by omega⟩
      have e2 : ¬ (200 : Int32) ≤ J (i + 1) := by rw [j200, J_le b3200 ⟨by omega, by omega⟩]; omega
      rw [eu_s, if_neg h1]
      rw [e_X5_twelfths_37, if_neg e2, if_neg (L_ne0 (by omega) h1), if_neg (L_ne0 (by omega) h1), Option.bind_some, if_neg (L_ne0 (by omega) h1)]
      simp only [Option.bind_some]
      rw [L_natrem hx2 (by omega), L_natdiv hx2 (by omega), L_mul, L_add, L_neg, L_mul, L_add, j1, J_add]
      have hh := halve (x := y) (y := x) (by omega) (by omega)
      have hr2 : x % (y % x) < y % x := Nat.mod_lt _ (by omega)
      exact ih n m _ _ f _ _ _ _ _ (by rw [Nat.pow_succ] at hx; omega) (by omega) (by omega) (by omega) (by omega) (by omega) (by omega) (by omega)
theorem twelfths_ok {z : Nat} (hz : 200 ≤ z) {h : Int} (hh : B6 h) {k : Nat} (hk : 0 < k) (hk2 : (k : Int) < 9223372036854775808) : F_X5_twelfths z (L h) (L k) = some (L (Tw h k)) := by
  unfold F_X5_twelfths
  rw [if_pos (by rw [l1, L_le b61 ⟨by omega, hk2⟩]; omega), fmod_ok z hh ⟨by omega, hk2⟩ (by omega), Option.bind_some]
  have h1 := Int.emod_nonneg h (b := (k : Int)) (by omega)
  have h2 := Int.emod_lt_of_pos h (b := (k : Int)) (by omega)
  have e : h % (k : Int) = (((h % (k : Int)).toNat : Nat) : Int) := by omega
  rw [e, l1, l0, j0]
  exact twelfths_loop z 63 z 128 _ k _ 1 0 1 0 0 (by show (h % (k : Int)).toNat < 9223372036854775808; omega) (by omega) (by omega) (Or.inl rfl) (by omega) (by omega) (by omega) hk2
/-- the reference's loop -/
theorem twelve_loop (z : Nat) (h : Int) (K : Nat) (hh : B6 h) (hK : 0 < K) (hK2 : (K : Int) < 9223372036854775808) (k : Nat) : ∀ (n m x y : Nat) (s c : Int) (l b : Nat), x < 2 ^ k → 2 * k + 1 ≤ n → 2 * k ≤ m → (s = 1 ∨ s = -1) → (x : Int) < 9223372036854775808 → (y : Int) < 9223372036854775808 →
    G_X7_twelve_30 z n (L h) (L K) (L x) (L y) (L c) (L s) (L l) (L b) = some (L ((K : Int) * (eu m x y s c l b).2.2.1 - (if (eu m x y s c l b).2.1 < 0 then 3 else 0) * (K : Int) + h % (K : Int) - (eu m x y s c l b).2.1 * ((eu m x y s c l b).2.2.2.2 : Int))) := by
  have stop : ∀ (n m y : Nat) (s c : Int) (l b : Nat), 1 ≤ n → (s = 1 ∨ s = -1) → G_X7_twelve_30 z n (L h) (L K) (L ((0 : Nat) : Int)) (L y) (L c) (L s) (L l) (L b) = some (L ((K : Int) * (eu m 0 y s c l b).2.2.1 - (if (eu m 0 y s c l b).2.1 < 0 then 3 else 0) * (K : Int) + h % (K : Int) - (eu m 0 y s c l b).2.1 * ((eu m 0 y s c l b).2.2.2.2 : Int))) := by
    intro n m y s c l b hn hs
    obtain ⟨n, rfl⟩ : ∃ q, n = q + 1 := ⟨n - 1, by omega⟩
    rw [eu_0, e_X7_twelve_30, if_pos (show L ((0 : Nat) : Int) = 0 from rfl)]
    unfold G_X7_twelve_107
    rw [rest_ok z hh ⟨by omega, hK2⟩ (by omega), Option.bind_some, Option.bind_some]
    rcases hs with rfl | rfl
    · rw [if_pos (show (0 : Int64) ≤ L 1 by decide +kernel), if_neg (by decide), l3, l0, L_mul, L_mul, L_mul, L_sub, L_add, L_neg, L_add]
      congr 2
      simp
      omega
    · rw [if_neg (show ¬ (0 : Int64) ≤ L (-1) by decide +kernel), if_pos rfl, l3, l1, L_mul, L_mul, L_mul, L_sub, L_add, L_add]
      congr 2
      simp
  induction k with
  | zero =>
    intro n m x y s c l b hx hn hm hs hx2 hy
    have : x = 0 := by omega
    subst this
    exact stop n m y s c l b (by omega) hs
  | succ k ih =>
    intro n m x y s c l b hx hn hm hs hx2 hy
    by_cases h0 : x = 0
    · subst h0
      exact stop n m y s c l b (by omega) hs
    obtain ⟨n, rfl⟩ : ∃ q, n = q + 1 := ⟨n - 1, by omega⟩
    obtain ⟨m, rfl⟩ : ∃ q, m = q + 1 + 1 := ⟨m - 2, by omega⟩
    have hr : y % x < x := Nat.mod_lt _ (by omega)
    rw [eu_s, if_neg h0]
    rw [e_X7_twelve_30, if_neg (L_ne0 hx2 h0), if_neg (L_ne0 hx2 h0), Option.bind_some]
    simp only [Option.bind_some]
    rw [if_neg (L_ne0 hx2 h0), L_natrem hy hx2, L_natdiv hy hx2, L_mul, L_add, L_neg, L_mul, L_add]
    by_cases h1 : y % x = 0
    · rw [h1]
      exact stop _ _ _ _ _ _ _ (by omega) (by omega)
    · obtain ⟨n, rfl⟩ : ∃ q, n = q + 1 := ⟨n - 1, by omega⟩
      rw [eu_s, if_neg h1]
      rw [e_X7_twelve_30, if_neg (L_ne0 (by omega) h1), if_neg (L_ne0 (by omega) h1), Option.bind_some]
      simp only [Option.bind_some]
      rw [if_neg (L_ne0 (by omega) h1), L_natrem hx2 (by omega), L_natdiv hx2 (by omega), L_mul, L_add, L_neg, L_mul, L_add]
      have hh2 := halve (x := y) (y := x) (by omega) (by omega)
      have hr2 : x % (y % x) < y % x := Nat.mod_lt _ (by omega)
      exact ih n m _ _ _ _ _ _ (by rw [Nat.pow_succ] at hx; omega) (by omega) (by omega) (by omega) (by omega) (by omega)
