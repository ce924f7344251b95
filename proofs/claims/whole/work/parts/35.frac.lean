/-! fractions in least terms -/
theorem bn {v : Int} {n : Nat} (h : v.natAbs ≤ n) (hn : n < 9223372036854775808) : B6 v ∧ v ≠ -9223372036854775808 := ⟨⟨by omega, by omega⟩, by omega⟩
theorem nm {a b : Int} {m n : Nat} (h1 : a.natAbs ≤ m) (h2 : b.natAbs ≤ n) : (a * b).natAbs ≤ m * n := by
  rw [Int.natAbs_mul]
  exact Nat.mul_le_mul h1 h2
theorem na {a b : Int} {m n : Nat} (h1 : a.natAbs ≤ m) (h2 : b.natAbs ≤ n) : (a + b).natAbs ≤ m + n := by omega
def Rd (a b u v : Int) : Prop := 0 < v ∧ Nat.gcd u.natAbs v.natAbs = 1 ∧ a * v = u * b
theorem Rd_uniq {a b u v u' v' : Int} (hb : b ≠ 0) (h1 : Rd a b u v) (h2 : Rd a b u' v') : u = u' ∧ v = v' := by
  obtain ⟨p1, g1, e1⟩ := h1
  obtain ⟨p2, g2, e2⟩ := h2
  have e3 : u * v' = u' * v := by
    have : b * (u * v') = b * (u' * v) := by grind
    exact Int.eq_of_mul_eq_mul_left hb this
  have e4 : u.natAbs * v'.natAbs = u'.natAbs * v.natAbs := by rw [← Int.natAbs_mul, ← Int.natAbs_mul, e3]
  have d1 : v.natAbs ∣ v'.natAbs := Nat.Coprime.dvd_of_dvd_mul_left (k := v.natAbs) (m := u.natAbs) (by rw [Nat.Coprime, Nat.gcd_comm]; exact g1) ⟨u'.natAbs, by rw [e4, Nat.mul_comm]⟩
  have d2 : v'.natAbs ∣ v.natAbs := Nat.Coprime.dvd_of_dvd_mul_left (k := v'.natAbs) (m := u'.natAbs) (by rw [Nat.Coprime, Nat.gcd_comm]; exact g2) ⟨u.natAbs, by rw [← e4, Nat.mul_comm]⟩
  have hv : v = v' := by
    have := Nat.dvd_antisymm d1 d2
    omega
  subst hv
  exact ⟨Int.eq_of_mul_eq_mul_right (by omega) e3, rfl⟩
theorem Rd_like {a b c d u v : Int} (hb : b ≠ 0) (h : c * b = a * d) (hr : Rd a b u v) : Rd c d u v := by
  obtain ⟨p, g, e⟩ := hr
  refine ⟨p, g, ?_⟩
  have : b * (c * v) = b * (u * d) := by grind
  exact Int.eq_of_mul_eq_mul_left hb this
/-- least terms by the common divisor -/
theorem Rd_gcd {a b : Int} (hb : 0 < b) : Rd a b (a / (Int.gcd a b : Int)) (b / (Int.gcd a b : Int)) ∧ (a / (Int.gcd a b : Int)).natAbs ≤ a.natAbs ∧ (b / (Int.gcd a b : Int)) ≤ b ∧ 0 < Int.gcd a b := by
  have hg : 0 < Int.gcd a b := Int.gcd_pos_of_ne_zero_right a (by omega)
  have h1 := Int.mul_ediv_cancel_of_dvd (Int.gcd_dvd_left a b)
  have h2 := Int.mul_ediv_cancel_of_dvd (Int.gcd_dvd_right a b)
  have hv : 0 < b / (Int.gcd a b : Int) := by
    rcases Int.lt_trichotomy (b / (Int.gcd a b : Int)) 0 with h | h | h
    · have := Int.mul_neg_of_pos_of_neg (show (0 : Int) < (Int.gcd a b : Int) by omega) h
      omega
    · rw [h, Int.mul_zero] at h2
      omega
    · exact h
  refine ⟨⟨hv, ?_, ?_⟩, Int.natAbs_ediv_le_natAbs a _, ?_, hg⟩
  · rw [Int.natAbs_ediv_of_dvd (Int.gcd_dvd_left a b), Int.natAbs_ediv_of_dvd (Int.gcd_dvd_right a b)]
    exact Nat.coprime_div_gcd_div_gcd hg
  · generalize a / (Int.gcd a b : Int) = u at *
    generalize b / (Int.gcd a b : Int) = v at *
    generalize (Int.gcd a b : Int) = g at *
    grind
  · have := Int.natAbs_ediv_le_natAbs b (Int.gcd a b : Int)
    omega
theorem div_dvd {a : Int} {g : Nat} (ha : B6 a) (hg : 0 < g) (hg2 : (g : Int) < 9223372036854775808) (hd : (g : Int) ∣ a) : L a / L g = L (a / (g : Int)) := by
  rw [L_div ha ⟨by omega, hg2⟩, Int.tdiv_eq_ediv_of_dvd hd]
/-- the class's fraction, the reference's two numbers: of numbers with one ratio they are the same -/
theorem init_ok {z : Nat} (hz : 200 ≤ z) {a b : Int} {n : Nat} (ha : a.natAbs ≤ n) (hn : n < 9223372036854775808) (hb : 0 < b) (hb2 : b < 9223372036854775808) : ∃ u v, F_X1_init z (L a) (L b) = some (L u, L v) ∧ Rd a b u v ∧ u.natAbs ≤ a.natAbs ∧ v ≤ b := by
  obtain ⟨hr, hu, hv, hg⟩ := Rd_gcd (a := a) hb
  refine ⟨_, _, ?_, hr, hu, hv⟩
  have hgl : (Int.gcd a b : Int) ≤ b := by
    have := Int.le_of_dvd hb (Int.gcd_dvd_right a b)
    exact this
  unfold F_X1_init
  rw [divisor_ok hz (bn ha hn).1 ⟨by omega, hb2⟩ (bn ha hn).2 (by omega) (by omega), Option.bind_some, if_neg (L_ne0 (by omega) (by omega)), div_dvd (bn ha hn).1 hg (by omega) (Int.gcd_dvd_left a b), div_dvd ⟨by omega, hb2⟩ hg (by omega) (Int.gcd_dvd_right a b)]
theorem lays_pos {z : Nat} (hz : 200 ≤ z) {a b : Int} {n : Nat} (ha : a.natAbs ≤ n) (hn : n < 9223372036854775808) (hb : 0 < b) (hb2 : b < 9223372036854775808) : ∃ u v, (∀ S, F_X7_lays z (L a) (L b) S = some (ms_under (ms_up S (L u)) (L v))) ∧ Rd a b u v ∧ u.natAbs ≤ a.natAbs ∧ v ≤ b := by
  obtain ⟨hr, hu, hv, hg⟩ := Rd_gcd (a := a) hb
  refine ⟨_, _, ?_, hr, hu, hv⟩
  intro S
  have hgl : (Int.gcd a b : Int) ≤ b := Int.le_of_dvd hb (Int.gcd_dvd_right a b)
  unfold F_X7_lays
  rw [common_ok hz (bn ha hn).1 ⟨by omega, hb2⟩ (bn ha hn).2 (by omega), Option.bind_some, if_pos (by rw [l0, L_le b60 ⟨by omega, hb2⟩]; omega)]
  unfold G_X7_lays_21
  simp only [Option.bind_some]
  rw [if_neg (L_ne0 (by omega) (by omega)), if_neg (L_ne0 (by omega) (by omega)), div_dvd (bn ha hn).1 hg (by omega) (Int.gcd_dvd_left a b), div_dvd ⟨by omega, hb2⟩ hg (by omega) (Int.gcd_dvd_right a b)]
/-- the two side by side -/
theorem frac_ok {z : Nat} (hz : 200 ≤ z) {a b c d : Int} {n m : Nat} (ha : a.natAbs ≤ n) (hn : n < 9223372036854775808) (hb : 0 < b) (hb2 : b < 9223372036854775808) (hc : c.natAbs ≤ m) (hm : m < 9223372036854775808) (hd : 0 < d) (hd2 : d < 9223372036854775808) (he : c * b = a * d) : ∃ u v, F_X1_init z (L a) (L b) = some (L u, L v) ∧ (∀ S, F_X7_lays z (L c) (L d) S = some (ms_under (ms_up S (L u)) (L v))) ∧ Rd a b u v ∧ u.natAbs ≤ a.natAbs ∧ v ≤ b ∧ u.natAbs ≤ c.natAbs ∧ v ≤ d := by
  obtain ⟨u, v, h1, h2, h3, h4⟩ := init_ok hz ha hn hb hb2
  obtain ⟨u', v', g1, g2, g3, g4⟩ := lays_pos hz hc hm hd hd2
  obtain ⟨rfl, rfl⟩ := Rd_uniq (by omega) (Rd_like (by omega) he h2) g2
  exact ⟨u, v, h1, g1, h2, h3, h4, g3, g4⟩
/-- below 0: the signs change -/
theorem lays_neg {z : Nat} (hz : 200 ≤ z) {a b : Int} {n : Nat} (ha : a.natAbs ≤ n) (hn : n < 9223372036854775808) (hb : b < 0) (hb2 : -9223372036854775808 < b) : ∃ u v, (∀ S, F_X7_lays z (L a) (L b) S = some (ms_under (ms_up S (L u)) (L v))) ∧ Rd (-a) (-b) u v ∧ u.natAbs ≤ a.natAbs ∧ v ≤ -b := by
  obtain ⟨hr, hu, hv, hg⟩ := Rd_gcd (a := -a) (b := -b) (by omega)
  refine ⟨_, _, ?_, hr, by omega, hv⟩
  intro S
  rw [Int.neg_gcd, Int.gcd_neg] at hg ⊢
  have hgl : (Int.gcd a b : Int) ≤ -b := by
    have := Int.le_of_dvd (by omega) (Int.gcd_dvd_right (-a) (-b))
    rwa [Int.neg_gcd, Int.gcd_neg] at this
  have d1 := Int.gcd_dvd_left a b
  have d2 := Int.gcd_dvd_right a b
  have k1 : ∀ w : Int, (Int.gcd a b : Int) ∣ w → w.tdiv (-(Int.gcd a b : Int)) = -w / (Int.gcd a b : Int) := by
    intro w hw
    rw [Int.tdiv_neg, Int.tdiv_eq_ediv_of_dvd hw, Int.neg_ediv_of_dvd hw]
  unfold F_X7_lays
  rw [common_ok hz (bn ha hn).1 ⟨by omega, by omega⟩ (bn ha hn).2 (by omega), Option.bind_some, if_neg (by rw [l0, L_le b60 ⟨by omega, by omega⟩]; omega)]
  unfold G_X7_lays_21
  simp only [Option.bind_some]
  rw [L_neg]
  have n0 : ¬ L (-(Int.gcd a b : Int)) = 0 := by rw [l0, L_eq ⟨by omega, by omega⟩ b60]; omega
  rw [if_neg n0, if_neg n0, L_div (bn ha hn).1 ⟨by omega, by omega⟩, L_div ⟨by omega, by omega⟩ ⟨by omega, by omega⟩, k1 a d1, k1 b d2]
/-! the sum of saws as a fraction -/
theorem gcd_toNat (h : Int) (k : Nat) (hk : 0 < k) : Nat.gcd (h % (k : Int)).toNat k = Int.gcd h k := by
  have h1 := Int.emod_nonneg h (b := (k : Int)) (by omega)
  have e : h = h % (k : Int) + (k : Int) * (h / (k : Int)) := (Int.emod_add_mul_ediv h k).symm
  have e2 : Int.gcd h k = Int.gcd (h % (k : Int)) k := by
    conv => lhs; rw [e]
    exact Int.gcd_add_mul_left_left _ _ _
  rw [e2, Int.gcd, Int.natAbs_natCast]
  congr 1
  omega
theorem Tw_fin {h : Int} {k : Nat} (hk : 0 < k) (hk2 : k < 9223372036854775808) : ∃ (y l b : Nat) (s c : Int), eu 128 (h % (k : Int)).toNat k 1 0 1 0 = (y, s, c, l, b) ∧ y = Int.gcd h k ∧ l * y = k ∧ (s = 1 ∨ s = -1) ∧ c.natAbs ≤ l ∧ b ≤ l := by
  have h1 := Int.emod_nonneg h (b := (k : Int)) (by omega)
  have h2 := Int.emod_lt_of_pos h (b := (k : Int)) (by omega)
  have hf := eu_fin (f := (h % (k : Int)).toNat) (k := k) (by omega) (by show _ < 9223372036854775808; omega)
  rw [gcd_toNat h k hk] at hf
  generalize eu 128 (h % (k : Int)).toNat k 1 0 1 0 = r at hf
  obtain ⟨y, s, c, l, b⟩ := r
  obtain ⟨g1, g2, g3, g4, g5, g6, g7⟩ := hf
  rw [Nat.gcd_zero_left] at g2
  refine ⟨y, l, b, s, c, rfl, g2, ?_, g4, ?_, g7⟩
  · simp only at g3
    omega
  · rcases g6 with ⟨e1, e2, e3⟩ | ⟨_, e⟩
    · simp only at e1
      rw [e1]; simp
    · exact e
theorem Tw_bd {h : Int} {k : Nat} (hk : 0 < k) (hk2 : k < 9223372036854775808) : (Tw h k).natAbs ≤ k * (k + 5) := by
  have h1 := Int.emod_nonneg h (b := (k : Int)) (by omega)
  have h2 := Int.emod_lt_of_pos h (b := (k : Int)) (by omega)
  obtain ⟨y, l, b, s, c, he, hy, hl, hs, hc, hb⟩ := Tw_fin (h := h) hk hk2
  unfold Tw Tn
  rw [he]
  unfold Tv
  simp only
  have e1 : ((l : Int) * (c - (if s < 0 then 3 else 0))).natAbs ≤ l * (l + 3) := nm (by omega) (by split <;> omega)
  have e2 : (s * (b : Int)).natAbs ≤ 1 * l := nm (by rcases hs with rfl | rfl <;> decide) (by omega)
  have e3 : ((y : Int) * ((l : Int) * (c - (if s < 0 then 3 else 0)) - s * (b : Int))).natAbs ≤ y * (l * (l + 3) + 1 * l) := nm (by omega) (by omega)
  have hy0 : 0 < y := by
    rcases Nat.eq_zero_or_pos y with h0 | h0
    · subst h0; omega
    · exact h0
  have e4 : y * (l * (l + 3) + 1 * l) = k * (l + 4) := by
    rw [← hl]
    have : l * (l + 3) + 1 * l = l * (l + 4) := by rw [Nat.mul_add, Nat.mul_add]; omega
    rw [this, ← Nat.mul_assoc, Nat.mul_comm y l]
  have e5 : l ≤ k := by rw [← hl]; exact Nat.le_mul_of_pos_right l hy0
  have e6 : k * (l + 4) ≤ k * (k + 4) := Nat.mul_le_mul_left k (by omega)
  have e7 : k * (k + 5) = k * (k + 4) + k := by rw [Nat.mul_add, Nat.mul_add]; omega
  omega
theorem Tw_scale (g : Nat) (hg : 0 < g) (h : Int) (k : Nat) (hk : 0 < k) : Tw ((g : Int) * h) (g * k) = (g : Int) * Tw h k := by
  unfold Tw Tn
  have hm := Int.emod_nonneg h (b := (k : Int)) (by omega)
  have e1 : ((g : Int) * h) % ((g * k : Nat) : Int) = (g : Int) * (h % (k : Int)) := by
    rw [Int.natCast_mul]
    exact Int.mul_emod_mul_of_pos _ _ (by omega)
  have e2 : ((g : Int) * (h % (k : Int))).toNat = g * (h % (k : Int)).toNat := by
    rw [Int.toNat_mul (by omega) hm, Int.toNat_natCast]
  rw [e1, e2, eu_scale g hg]
  unfold Tv
  simp only [Int.natCast_mul]
  grind
theorem twelve_ok {z : Nat} (hz : 200 ≤ z) {h : Int} (hh : B6 h) {k : Nat} (hk : 0 < k) (hk2 : (k : Int) < 9223372036854775808) (hg : Int.gcd h k = 1) : F_X7_twelve z (L h) (L k) = some (L (Tw h k)) := by
  have h1 := Int.emod_nonneg h (b := (k : Int)) (by omega)
  have h2 := Int.emod_lt_of_pos h (b := (k : Int)) (by omega)
  obtain ⟨y, l, b, s, c, he, hy, hl, hs, hc, hb⟩ := Tw_fin (h := h) hk (by omega)
  rw [hg] at hy
  subst hy
  have hlk : l = k := by omega
  subst hlk
  have e : h % (l : Int) = (((h % (l : Int)).toNat : Nat) : Int) := by omega
  unfold F_X7_twelve
  rw [rest_ok z hh ⟨by omega, hk2⟩ (by omega), Option.bind_some]
  unfold Tw Tn
  by_cases h3 : l = 1
  · subst h3
    have e3 : (h % ((1 : Nat) : Int)).toNat = 0 := by omega
    rw [if_pos (show L ((1 : Nat) : Int) = 1 from rfl), e3, eu_0]
    rfl
  · rw [if_neg (by rw [l1, L_eq ⟨by omega, hk2⟩ b61]; omega)]
    conv => lhs; rw [e]
    refine (twelve_loop z h l hh hk hk2 63 z 128 (h % (l : Int)).toNat l 1 0 1 0 (by show _ < 9223372036854775808; omega) (by omega) (by omega) (Or.inl rfl) (by omega) hk2).trans ?_
    rw [he]
    unfold Tv
    simp only
    congr 2
    rw [← e]
    grind
