/-! division downwards -/
theorem msb6 (x : Int64) : 0 ≤ x ↔ x.toBitVec.msb = false := by
  rw [Int64.le_iff_toInt_le, BitVec.msb_eq_toInt]
  show (0 : Int) ≤ x.toBitVec.toInt ↔ _
  simp
theorem msb3 (x : Int32) : 0 ≤ x ↔ x.toBitVec.msb = false := by
  rw [Int32.le_iff_toInt_le, BitVec.msb_eq_toInt]
  show (0 : Int) ≤ x.toBitVec.toInt ↔ _
  simp
theorem xor6 (x y : Int64) : (0 : Int64) ≤ x ^^^ y ↔ ((0 : Int64) ≤ x ↔ (0 : Int64) ≤ y) := by
  rw [msb6, msb6, msb6, Int64.toBitVec_xor, BitVec.msb_xor]
  cases x.toBitVec.msb <;> cases y.toBitVec.msb <;> simp
theorem xor3 (x y : Int32) : (0 : Int32) ≤ x ^^^ y ↔ ((0 : Int32) ≤ x ↔ (0 : Int32) ≤ y) := by
  rw [msb3, msb3, msb3, Int32.toBitVec_xor, BitVec.msb_xor]
  cases x.toBitVec.msb <;> cases y.toBitVec.msb <;> simp
theorem tmod_b6 {a b : Int} (ha : B6 a) : B6 (a.tmod b) := by
  have h1 := Int.natAbs_tmod a b
  have h2 := Nat.mod_le a.natAbs b.natAbs
  have h3 : 0 ≤ a → 0 ≤ a.tmod b := fun h => Int.tmod_nonneg b h
  obtain ⟨h4, h5⟩ := ha
  constructor
  · omega
  · by_cases h : 0 ≤ a
    · omega
    · have h6 : a.tmod b ≤ 0 := by
        have := Int.tmod_nonneg b (a := -a) (by omega)
        rw [Int.neg_tmod] at this
        omega
      omega
theorem tmod_sg {a b : Int} (h : a.tmod b ≠ 0) : 0 ≤ a.tmod b ↔ 0 ≤ a := by
  constructor
  · intro h1
    by_cases h2 : 0 ≤ a
    · exact h2
    · have := Int.tmod_nonneg b (a := -a) (by omega)
      rw [Int.neg_tmod] at this
      omega
  · exact fun h => Int.tmod_nonneg b h
theorem sub_back (x y q : Int64) : x - q * y = 0 ↔ q * y = x := ⟨fun h => by grind, fun h => by grind⟩
theorem down_eq (z : Nat) (x y : Int64) : F_X7_down z x y = F_J9_floorDiv_f86c9 z x y := by
  obtain ⟨a, ha, rfl⟩ := L_of x
  obtain ⟨b, hb, rfl⟩ := L_of y
  unfold F_X7_down F_J9_floorDiv_f86c9
  by_cases h0 : L b = 0
  · rw [if_pos h0, if_pos h0]
  rw [if_neg h0, if_neg h0, Option.bind_some, Option.bind_some, if_neg h0]
  by_cases hr : L a - L a / L b * L b = 0
  · rw [if_pos hr]
    rw [sub_back] at hr
    rw [if_pos hr, ite_self]
  · have hr' := hr
    rw [if_neg hr, if_neg h0, if_neg (fun h => hr ((sub_back _ _ _).mpr h))]
    rw [L_rem ha hb, l0, L_eq (tmod_b6 ha) b60] at hr'
    have e1 : (0 : Int64) ≤ L a - L a / L b * L b ↔ (0 : Int64) ≤ L a := by
      rw [L_rem ha hb, l0, L_le b60 (tmod_b6 ha), L_le b60 ha]
      exact tmod_sg hr'
    unfold G_X7_down_26
    by_cases h1 : (0 : Int64) ≤ L a <;> by_cases h2 : (0 : Int64) ≤ L b
    · rw [if_pos (e1.mpr h1), if_pos h2, if_pos rfl, if_pos ((xor6 _ _).mpr ⟨fun _ => h2, fun _ => h1⟩)]
    · rw [if_pos (e1.mpr h1), if_neg h2, if_neg (by decide), if_neg (fun h => h2 (((xor6 _ _).mp h).mp h1))]
    · rw [if_neg (fun h => h1 (e1.mp h)), if_pos h2, if_neg (by decide), if_neg (fun h => h1 (((xor6 _ _).mp h).mpr h2))]
    · rw [if_neg (fun h => h1 (e1.mp h)), if_neg h2, if_pos rfl, if_pos ((xor6 _ _).mpr ⟨fun h => absurd h h1, fun h => absurd h h2⟩)]
theorem rest_eq (z : Nat) (x y : Int64) : F_X7_rest z x y = F_J9_floorMod_f86c9 z x y := by
  unfold F_X7_rest F_J9_floorMod_f86c9
  rw [down_eq, F_J9_floorDiv_f86c9]
  by_cases h0 : y = 0
  · rw [if_pos h0, if_pos h0]; rfl
  rw [if_neg h0, if_neg h0, Option.bind_some, Option.bind_some]
  have e1 : x - y * (x / y) = x - x / y * y := by rw [Int64.mul_comm]
  by_cases h1 : (0 : Int64) ≤ x ^^^ y
  · rw [if_pos h1, if_pos h1, Option.bind_some, e1]
  · rw [if_neg h1, if_neg h1]
    by_cases h2 : x / y * y = x
    · rw [if_pos h2, if_pos ((sub_back _ _ _).mpr h2), Option.bind_some, e1]
    · rw [if_neg h2, if_neg (fun h => h2 ((sub_back _ _ _).mp h)), Option.bind_some]
      congr 1
      rw [← e1, Int64.mul_sub, Int64.mul_one]
      grind
theorem fmod_ok (z : Nat) {a b : Int} (ha : B6 a) (hb : B6 b) (h0 : 0 < b) : F_J9_floorMod_f86c9 z (L a) (L b) = some (L (a % b)) := by
  unfold F_J9_floorMod_f86c9
  have hb0 : ¬ L b = 0 := by rw [l0, L_eq hb b60]; omega
  have hbp : (0 : Int64) ≤ L b := by rw [l0, L_le b60 hb]; omega
  rw [if_neg hb0, Option.bind_some, L_rem ha hb]
  have hm := Int.emod_nonneg a (b := b) (by omega)
  have hm2 := Int.emod_lt_of_pos a h0
  have ht : a.tmod b = a % b - if 0 ≤ a ∨ b ∣ a then (0 : Int) else (b.natAbs : Int) := by
    rw [Int.tmod_eq_emod]
    split <;> rfl
  have hx : (0 : Int64) ≤ L a ^^^ L b ↔ 0 ≤ a := by
    rw [xor6]
    constructor
    · intro h
      have := h.mpr hbp
      rwa [l0, L_le b60 ha] at this
    · intro h
      exact ⟨fun _ => hbp, fun _ => by rw [l0, L_le b60 ha]; exact h⟩
  by_cases h1 : 0 ≤ a
  · rw [if_pos (hx.mpr h1), ht, if_pos (Or.inl h1), Int.sub_zero]
  · rw [if_neg (fun h => h1 (hx.mp h))]
    by_cases h2 : b ∣ a
    · have h3 : a % b = 0 := Int.emod_eq_zero_of_dvd h2
      rw [ht, if_pos (Or.inr h2), h3, if_pos (by rfl)]
      rfl
    · have h3 : a % b ≠ 0 := fun h => h2 (Int.dvd_of_emod_eq_zero h)
      have h6 : a.tmod b = a % b - b := by rw [ht, if_neg (fun h => h.elim h1 h2)]; omega
      rw [h6]
      rw [if_neg (by rw [l0, L_eq ⟨by have := hb.2; omega, by have := hb.2; omega⟩ b60]; omega), L_add]
      congr 2
      omega
theorem rest_ok (z : Nat) {a b : Int} (ha : B6 a) (hb : B6 b) (h0 : 0 < b) : F_X7_rest z (L a) (L b) = some (L (a % b)) := by
  rw [rest_eq, fmod_ok z ha hb h0]
theorem fmodI_ok (z : Nat) {a b : Int} (ha : B3 a) (hb : B3 b) (h0 : 0 < b) : F_J9_floorMod_7cf53 z (J a) (J b) = some (J (a % b)) := by
  unfold F_J9_floorMod_7cf53
  have hb0 : ¬ J b = 0 := by rw [j0, J_eq hb b30]; omega
  have hbp : (0 : Int32) ≤ J b := by rw [j0, J_le b30 hb]; omega
  rw [if_neg hb0, Option.bind_some, J_rem ha hb]
  have hm := Int.emod_nonneg a (b := b) (by omega)
  have hm2 := Int.emod_lt_of_pos a h0
  have ht : a.tmod b = a % b - if 0 ≤ a ∨ b ∣ a then (0 : Int) else (b.natAbs : Int) := by
    rw [Int.tmod_eq_emod]
    split <;> rfl
  have hx : (0 : Int32) ≤ J a ^^^ J b ↔ 0 ≤ a := by
    rw [xor3]
    constructor
    · intro h
      have := h.mpr hbp
      rwa [j0, J_le b30 ha] at this
    · intro h
      exact ⟨fun _ => hbp, fun _ => by rw [j0, J_le b30 ha]; exact h⟩
  by_cases h1 : 0 ≤ a
  · rw [if_pos (hx.mpr h1), ht, if_pos (Or.inl h1), Int.sub_zero]
  · rw [if_neg (fun h => h1 (hx.mp h))]
    by_cases h2 : b ∣ a
    · have h3 : a % b = 0 := Int.emod_eq_zero_of_dvd h2
      rw [ht, if_pos (Or.inr h2), h3, if_pos (by rfl)]
      rfl
    · have h3 : a % b ≠ 0 := fun h => h2 (Int.dvd_of_emod_eq_zero h)
      have h6 : a.tmod b = a % b - b := by rw [ht, if_neg (fun h => h.elim h1 h2)]; omega
      rw [h6]
      rw [if_neg (by rw [j0, J_eq ⟨by have := hb.2; omega, by have := hb.2; omega⟩ b30]; omega), J_add]
      congr 2
      omega
theorem fdiv_ok (z : Nat) {a b : Int} (ha : B6 a) (hb : B6 b) (h0 : 0 < b) : F_J9_floorDiv_f86c9 z (L a) (L b) = some (L (a / b)) := by
  unfold F_J9_floorDiv_f86c9
  have hb0 : ¬ L b = 0 := by rw [l0, L_eq hb b60]; omega
  have hbp : (0 : Int64) ≤ L b := by rw [l0, L_le b60 hb]; omega
  rw [if_neg hb0, Option.bind_some]
  have hm := Int.emod_nonneg a (b := b) (by omega)
  have hm2 := Int.emod_lt_of_pos a h0
  have ht : a.tmod b = a % b - if 0 ≤ a ∨ b ∣ a then (0 : Int) else (b.natAbs : Int) := by
    rw [Int.tmod_eq_emod]
    split <;> rfl
  have hd1 := Int.tmod_add_mul_tdiv a b
  have hd2 := Int.emod_add_mul_ediv a b
  have hx : (0 : Int64) ≤ L a ^^^ L b ↔ 0 ≤ a := by
    rw [xor6]
    constructor
    · intro h
      have := h.mpr hbp
      rwa [l0, L_le b60 ha] at this
    · intro h
      exact ⟨fun _ => hbp, fun _ => by rw [l0, L_le b60 ha]; exact h⟩
  by_cases h1 : 0 ≤ a
  · rw [if_pos (hx.mpr h1), L_div ha hb, Int.tdiv_eq_ediv_of_nonneg h1]
  · rw [if_neg (fun h => h1 (hx.mp h))]
    have hs : L a / L b * L b = L a ↔ a.tmod b = 0 := by
      rw [← sub_back, L_rem ha hb, l0, L_eq (tmod_b6 ha) b60]
    by_cases h2 : b ∣ a
    · have h3 : a.tmod b = 0 := by rw [ht, if_pos (Or.inr h2), Int.emod_eq_zero_of_dvd h2]; rfl
      rw [if_pos (hs.mpr h3), L_div ha hb]
      have h4 : b * a.tdiv b = b * (a / b) := by rw [Int.emod_eq_zero_of_dvd h2] at hd2; omega
      rw [Int.eq_of_mul_eq_mul_left (show b ≠ 0 by omega) h4]
    · have h3 : a % b ≠ 0 := fun h => h2 (Int.dvd_of_emod_eq_zero h)
      have h5 : a.tmod b ≠ 0 := by rw [ht, if_neg (fun h => h.elim h1 h2)]; omega
      rw [if_neg (fun h => h5 (hs.mp h)), L_div ha hb, l1, L_sub]
      have h6 : a.tmod b = a % b - b := by rw [ht, if_neg (fun h => h.elim h1 h2)]; omega
      have h4 : b * (a.tdiv b - 1) = b * (a / b) := by rw [Int.mul_sub]; omega
      rw [Int.eq_of_mul_eq_mul_left (show b ≠ 0 by omega) h4]
