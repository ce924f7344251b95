/-! PURE: longs and ints as images of whole numbers -/
def L (v : Int) : Int64 := Int64.ofInt v
def J (v : Int) : Int32 := Int32.ofInt v
def B6 (v : Int) : Prop := -9223372036854775808 ≤ v ∧ v < 9223372036854775808
def B3 (v : Int) : Prop := -2147483648 ≤ v ∧ v < 2147483648
theorem L_add (a b : Int) : L a + L b = L (a + b) := (Int64.ofInt_add a b).symm
theorem L_sub (a b : Int) : L a - L b = L (a - b) := (Int64.ofInt_sub a b).symm
theorem L_mul (a b : Int) : L a * L b = L (a * b) := (Int64.ofInt_mul a b).symm
theorem L_neg (a : Int) : -L a = L (-a) := (Int64.ofInt_neg a).symm
theorem J_add (a b : Int) : J a + J b = J (a + b) := (Int32.ofInt_add a b).symm
theorem J_sub (a b : Int) : J a - J b = J (a - b) := (Int32.ofInt_sub a b).symm
theorem J_mul (a b : Int) : J a * J b = J (a * b) := (Int32.ofInt_mul a b).symm
theorem J_neg (a : Int) : -J a = J (-a) := (Int32.ofInt_neg a).symm
theorem L_toInt {v : Int} (h : B6 v) : (L v).toInt = v := Int64.toInt_ofInt_of_le h.1 h.2
theorem J_toInt {v : Int} (h : B3 v) : (J v).toInt = v := Int32.toInt_ofInt_of_le h.1 h.2
theorem L_eq {a b : Int} (ha : B6 a) (hb : B6 b) : L a = L b ↔ a = b := ⟨fun h => by have := congrArg Int64.toInt h; rwa [L_toInt ha, L_toInt hb] at this, fun h => by rw [h]⟩
theorem L_lt {a b : Int} (ha : B6 a) (hb : B6 b) : L a < L b ↔ a < b := by rw [Int64.lt_iff_toInt_lt, L_toInt ha, L_toInt hb]
theorem L_le {a b : Int} (ha : B6 a) (hb : B6 b) : L a ≤ L b ↔ a ≤ b := by rw [Int64.le_iff_toInt_le, L_toInt ha, L_toInt hb]
theorem J_eq {a b : Int} (ha : B3 a) (hb : B3 b) : J a = J b ↔ a = b := ⟨fun h => by have := congrArg Int32.toInt h; rwa [J_toInt ha, J_toInt hb] at this, fun h => by rw [h]⟩
theorem J_lt {a b : Int} (ha : B3 a) (hb : B3 b) : J a < J b ↔ a < b := by rw [Int32.lt_iff_toInt_lt, J_toInt ha, J_toInt hb]
theorem J_le {a b : Int} (ha : B3 a) (hb : B3 b) : J a ≤ J b ↔ a ≤ b := by rw [Int32.le_iff_toInt_le, J_toInt ha, J_toInt hb]
theorem L_div {a b : Int} (ha : B6 a) (hb : B6 b) : L a / L b = L (a.tdiv b) := (Int64.ofInt_tdiv ha.1 (Int.le_sub_one_of_lt ha.2) hb.1 (Int.le_sub_one_of_lt hb.2)).symm
theorem J_div {a b : Int} (ha : B3 a) (hb : B3 b) : J a / J b = J (a.tdiv b) := (Int32.ofInt_tdiv ha.1 (Int.le_sub_one_of_lt ha.2) hb.1 (Int.le_sub_one_of_lt hb.2)).symm
theorem L_rem {a b : Int} (ha : B6 a) (hb : B6 b) : L a - L a / L b * L b = L (a.tmod b) := by rw [L_div ha hb, L_mul, L_sub, Int.tmod_def, Int.mul_comm]
theorem J_rem {a b : Int} (ha : B3 a) (hb : B3 b) : J a - J a / J b * J b = J (a.tmod b) := by rw [J_div ha hb, J_mul, J_sub, Int.tmod_def, Int.mul_comm]
theorem J_L {v : Int} (h : B3 v) : (J v).toInt64 = L v := Int64.toInt_inj.mp (by rw [Int32.toInt_toInt64, J_toInt h, L_toInt ⟨by have := h.1; omega, by have := h.2; omega⟩])
theorem L_J {v : Int} (h : B3 v) : (L v).toInt32 = J v := Int32.toInt_inj.mp (by rw [Jvm.Kit.i32_of_i64 (by rw [L_toInt ⟨by have := h.1; omega, by have := h.2; omega⟩]; exact h.1) (by rw [L_toInt ⟨by have := h.1; omega, by have := h.2; omega⟩]; exact h.2), J_toInt h, L_toInt ⟨by have := h.1; omega, by have := h.2; omega⟩])
theorem J_of (x : Int32) : ∃ v : Int, B3 v ∧ x = J v := ⟨x.toInt, ⟨x.le_toInt, x.toInt_lt⟩, (Int32.ofInt_toInt x).symm⟩
theorem L_of (x : Int64) : ∃ v : Int, B6 v ∧ x = L v := ⟨x.toInt, ⟨x.le_toInt, x.toInt_lt⟩, (Int64.ofInt_toInt x).symm⟩
theorem l0 : (0 : Int64) = L 0 := rfl
theorem l1 : (1 : Int64) = L 1 := rfl
theorem l2 : (2 : Int64) = L 2 := rfl
theorem l3 : (3 : Int64) = L 3 := rfl
theorem l12 : (12 : Int64) = L 12 := rfl
theorem lm1 : (-1 : Int64) = L (-1) := rfl
theorem j0 : (0 : Int32) = J 0 := rfl
theorem j1 : (1 : Int32) = J 1 := rfl
theorem j2 : (2 : Int32) = J 2 := rfl
theorem jm1 : (-1 : Int32) = J (-1) := rfl
theorem j200 : (200 : Int32) = J 200 := rfl
theorem b60 : B6 0 := ⟨by decide, by decide⟩
theorem b61 : B6 1 := ⟨by decide, by decide⟩
theorem b30 : B3 0 := ⟨by decide, by decide⟩
theorem bm1 : B3 (-1) := ⟨by decide, by decide⟩
theorem b3200 : B3 200 := ⟨by decide, by decide⟩
theorem L_natdiv {a b : Nat} (ha : (a : Int) < 9223372036854775808) (hb : (b : Int) < 9223372036854775808) : L a / L b = L ((a / b : Nat) : Int) := by
  rw [L_div ⟨by omega, ha⟩ ⟨by omega, hb⟩]; rfl
theorem L_natrem {a b : Nat} (ha : (a : Int) < 9223372036854775808) (hb : (b : Int) < 9223372036854775808) : L a - L a / L b * L b = L ((a % b : Nat) : Int) := by
  rw [L_rem ⟨by omega, ha⟩ ⟨by omega, hb⟩]; rfl
theorem L_ne0 {a : Nat} (ha : (a : Int) < 9223372036854775808) (h : a ≠ 0) : ¬ L a = (0 : Int64) := by
  rw [l0, L_eq ⟨by omega, ha⟩ b60]; omega
/-! absolute value, tests -/
theorem size_ok (z : Nat) {a : Int} (ha : B6 a) : F_X7_size z (L a) = some (L (a.natAbs : Int)) := by
  unfold F_X7_size
  rw [l0]
  by_cases h : L 0 ≤ L a
  · rw [if_pos h]
    rw [L_le b60 ha] at h
    rw [show ((a.natAbs : Nat) : Int) = a by omega]
  · rw [if_neg h]
    rw [L_le b60 ha] at h
    rw [L_neg, show ((a.natAbs : Nat) : Int) = -a by omega]
theorem abs_ok {a : Int} (ha : B6 a) : absL (L a) = L (a.natAbs : Int) := by
  unfold absL
  rw [l0]
  by_cases h : L 0 < L a
  · rw [if_pos h]
    rw [L_lt b60 ha] at h
    rw [show ((a.natAbs : Nat) : Int) = a by omega]
  · rw [if_neg h]
    rw [L_lt b60 ha] at h
    rw [L_neg, show ((a.natAbs : Nat) : Int) = -a by omega]
theorem isin_ok (z : Nat) {a b c : Int} (ha : B6 a) (hb : B6 b) (hc : B6 c) : F_X7_isIn z (L a) (L b) (L c) = some (if b ≤ a ∧ a ≤ c then 1 else 0) := by
  unfold F_X7_isIn
  by_cases h1 : a < b
  · rw [if_pos ((L_lt ha hb).mpr h1), if_neg (by omega)]
  · rw [if_neg (fun h => h1 ((L_lt ha hb).mp h))]
    by_cases h2 : c < a
    · rw [if_pos ((L_lt hc ha).mpr h2), if_neg (by omega)]
    · rw [if_neg (fun h => h2 ((L_lt hc ha).mp h)), if_pos (by omega)]
theorem lies_ok (z : Nat) {a b c : Int} (ha : B6 a) (hb : B6 b) (hc : B6 c) : F_X6_lies z (L a) (L b) (L c) = some (if b ≤ a ∧ a ≤ c then 1 else 0) := by
  have h := isin_ok z ha hb hc
  unfold F_X7_isIn at h
  unfold F_X6_lies
  exact h
/-! the common divisor -/
theorem halve {x y : Nat} (hy : 0 < y) (hr : 0 < x % y) : 2 * (y % (x % y)) < y := by
  have h1 : x % y < y := Nat.mod_lt _ hy
  by_cases h : 2 * (x % y) ≤ y
  · have := Nat.mod_lt y hr
    omega
  · have h2 : y % (x % y) = y - x % y := by
      rw [Nat.mod_eq_sub_mod (by omega), Nat.mod_eq_of_lt (by omega)]
    omega
theorem common_loop (z : Nat) (k : Nat) : ∀ (n x y : Nat), y < 2 ^ k → 2 * k + 1 ≤ n → (x : Int) < 9223372036854775808 → (y : Int) < 9223372036854775808 → G_X7_common_12 z n (L x) (L y) = some (L (Nat.gcd x y : Nat)) := by
  induction k with
  | zero =>
    intro n x y hy hn hx hy2
    obtain ⟨n, rfl⟩ : ∃ m, n = m + 1 := ⟨n - 1, by omega⟩
    have : y = 0 := by omega
    subst this
    rw [e_X7_common_12, if_pos (show L ((0 : Nat) : Int) = 0 from rfl), Nat.gcd_zero_right]
  | succ k ih =>
    intro n x y hy hn hx hy2
    obtain ⟨n, rfl⟩ : ∃ m, n = m + 1 := ⟨n - 1, by omega⟩
    by_cases h0 : y = 0
    · subst h0
      rw [e_X7_common_12, if_pos (show L ((0 : Nat) : Int) = 0 from rfl), Nat.gcd_zero_right]
    · rw [e_X7_common_12, if_neg (L_ne0 hy2 h0), if_neg (L_ne0 hy2 h0), L_natrem hx hy2, Option.bind_some]
      have hr : x % y < y := Nat.mod_lt _ (by omega)
      obtain ⟨n, rfl⟩ : ∃ m, n = m + 1 := ⟨n - 1, by omega⟩
      by_cases h1 : x % y = 0
      · rw [h1, e_X7_common_12, if_pos (show L ((0 : Nat) : Int) = 0 from rfl), Nat.gcd_comm x y, Nat.gcd_rec, h1, Nat.gcd_zero_left]
      · rw [e_X7_common_12, if_neg (L_ne0 (by omega) h1), if_neg (L_ne0 (by omega) h1), L_natrem hy2 (by omega), Option.bind_some]
        have hh := halve (x := x) (y := y) (by omega) (by omega)
        have hr2 : y % (x % y) < x % y := Nat.mod_lt _ (by omega)
        rw [ih n (x % y) (y % (x % y)) (by rw [Nat.pow_succ] at hy; omega) (by omega) (by omega) (by omega)]
        rw [Nat.gcd_comm (x % y), ← Nat.gcd_rec, ← Nat.gcd_rec, Nat.gcd_comm y x]
theorem common_ok {z : Nat} (hz : 200 ≤ z) {a b : Int} (ha : B6 a) (hb : B6 b) (ha2 : a ≠ -9223372036854775808) (hb2 : b ≠ -9223372036854775808) : F_X7_common z (L a) (L b) = some (L (Int.gcd a b : Nat)) := by
  unfold F_X7_common
  rw [size_ok z ha, Option.bind_some, size_ok z hb, Option.bind_some]
  obtain ⟨h1, h2⟩ := ha
  obtain ⟨h3, h4⟩ := hb
  exact common_loop z 63 z a.natAbs b.natAbs (by show b.natAbs < 9223372036854775808; omega) (by omega) (by omega) (by omega)
theorem divisor_loop (z : Nat) (k : Nat) : ∀ (n x y : Nat) (c : Int), y < 2 ^ k → 2 * k + 1 ≤ n → 0 ≤ c → c + 2 * k + 1 ≤ 200 → (x : Int) < 9223372036854775808 → (y : Int) < 9223372036854775808 → G_X5_divisor_15 z n (L x) (L y) (J c) = some (maxL (L (Nat.gcd x y : Nat)) 1) := by
  induction k with
  | zero =>
    intro n x y c hy hn hc hc2 hx hy2
    obtain ⟨n, rfl⟩ : ∃ m, n = m + 1 := ⟨n - 1, by omega⟩
    have : y = 0 := by omega
    subst this
    rw [e_X5_divisor_15, if_pos (show L ((0 : Nat) : Int) = 0 from rfl), Nat.gcd_zero_right, ite_self]
  | succ k ih =>
    intro n x y c hy hn hc hc2 hx hy2
    obtain ⟨n, rfl⟩ : ∃ m, n = m + 1 := ⟨n - 1, by omega⟩
    by_cases h0 : y = 0
    · subst h0
      rw [e_X5_divisor_15, if_pos (show L ((0 : Nat) : Int) = 0 from rfl), Nat.gcd_zero_right, ite_self]
    · have e1 : ¬ (200 : Int32) ≤ J c := by rw [j200, J_le b3200 ⟨by omega, by omega⟩]; omega
      rw [e_X5_divisor_15, if_neg e1, if_neg (L_ne0 hy2 h0), if_neg (L_ne0 hy2 h0), L_natrem hx hy2, Option.bind_some, Option.bind_some, j1, J_add]
      have hr : x % y < y := Nat.mod_lt _ (by omega)
      obtain ⟨n, rfl⟩ : ∃ m, n = m + 1 := ⟨n - 1, by omega⟩
      by_cases h1 : x % y = 0
      · rw [h1, e_X5_divisor_15, if_pos (show L ((0 : Nat) : Int) = 0 from rfl), ite_self, Nat.gcd_comm x y, Nat.gcd_rec, h1, Nat.gcd_zero_left]
      · have e2 : ¬ (200 : Int32) ≤ J (c + 1) := by rw [j200, J_le b3200 ⟨by omega, by omega⟩]; omega
        rw [e_X5_divisor_15, if_neg e2, if_neg (L_ne0 (by omega) h1), if_neg (L_ne0 (by omega) h1), L_natrem hy2 (by omega), Option.bind_some, Option.bind_some, j1, J_add]
        have hh := halve (x := x) (y := y) (by omega) (by omega)
        have hr2 : y % (x % y) < x % y := Nat.mod_lt _ (by omega)
        rw [ih n (x % y) (y % (x % y)) (c + 1 + 1) (by rw [Nat.pow_succ] at hy; omega) (by omega) (by omega) (by omega) (by omega) (by omega)]
        rw [Nat.gcd_comm (x % y), ← Nat.gcd_rec, ← Nat.gcd_rec, Nat.gcd_comm y x]
theorem divisor_ok {z : Nat} (hz : 200 ≤ z) {a b : Int} (ha : B6 a) (hb : B6 b) (ha2 : a ≠ -9223372036854775808) (hb2 : b ≠ -9223372036854775808) (h0 : b ≠ 0) : F_X5_divisor z (L a) (L b) = some (L (Int.gcd a b : Nat)) := by
  unfold F_X5_divisor
  rw [abs_ok ha, Option.bind_some, abs_ok hb, Option.bind_some]
  obtain ⟨h1, h2⟩ := ha
  obtain ⟨h3, h4⟩ := hb
  rw [j0, divisor_loop z 63 z a.natAbs b.natAbs 0 (by show b.natAbs < 9223372036854775808; omega) (by omega) (by omega) (by omega) (by omega) (by omega)]
  have hp : 0 < Nat.gcd a.natAbs b.natAbs := Nat.gcd_pos_of_pos_right _ (by omega)
  have hl : Nat.gcd a.natAbs b.natAbs ≤ b.natAbs := Nat.gcd_le_right _ (by omega)
  have hm : maxL (L (Nat.gcd a.natAbs b.natAbs : Nat)) 1 = L (Nat.gcd a.natAbs b.natAbs : Nat) := by
    unfold maxL
    by_cases h : (1 : Int64) < L (Nat.gcd a.natAbs b.natAbs : Nat)
    · rw [if_pos h]
    · rw [if_neg h]
      rw [l1, L_lt b61 ⟨by omega, by omega⟩] at h
      rw [l1, show ((Nat.gcd a.natAbs b.natAbs : Nat) : Int) = 1 by omega]
  rw [hm]
  rfl
