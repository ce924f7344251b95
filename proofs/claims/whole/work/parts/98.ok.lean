/-! the law's steps keep the invariant -/
theorem lawStep_ok {z : Nat} (hz : 200000 ≤ z) (x0 x1 x2 x3 x4 x5 : Int32) {C : CS} {M : MS} {lt : Int64 × Int64} (hI : Inv C M lt) : Okc (lawStep z x0 x1 x2 x3 x4 x5 C M lt) := by
  unfold lawStep
  by_cases h0 : x0 &&& 31 = 0
  · rw [if_pos h0]; exact lc0_ok (by omega) x1 x2 x3 x4 x5 hI
  rw [if_neg h0]
  by_cases h1 : x0 &&& 31 = 1
  · rw [if_pos h1]; exact lc1_ok (by omega) x1 x2 x3 x4 x5 hI
  rw [if_neg h1]
  by_cases h2 : x0 &&& 31 = 2
  · rw [if_pos h2]; exact lc2_ok (by omega) x1 x2 x3 x4 x5 hI
  rw [if_neg h2]
  by_cases h3 : x0 &&& 31 = 3
  · rw [if_pos h3]; exact lc3_ok (by omega) x1 x2 x3 x4 x5 hI
  rw [if_neg h3]
  by_cases h4 : x0 &&& 31 = 4
  · rw [if_pos h4]; exact lc4_ok (by omega) x1 x2 x3 x4 x5 hI
  rw [if_neg h4]
  by_cases h5 : x0 &&& 31 = 5
  · rw [if_pos h5]; exact lc5_ok (by omega) x1 x2 x3 x4 x5 hI
  rw [if_neg h5]
  by_cases h6 : x0 &&& 31 = 6
  · rw [if_pos h6]; exact lc6_ok (by omega) x1 x2 x3 x4 x5 hI
  rw [if_neg h6]
  by_cases h7 : x0 &&& 31 = 7
  · rw [if_pos h7]; exact lc7_ok (by omega) x1 x2 x3 x4 x5 hI
  rw [if_neg h7]
  by_cases h8 : x0 &&& 31 = 8
  · rw [if_pos h8]; exact lc8_ok (by omega) x1 x2 x3 x4 x5 hI
  rw [if_neg h8]
  by_cases h9 : x0 &&& 31 = 9
  · rw [if_pos h9]; exact lc9_ok (by omega) x1 x2 x3 x4 x5 hI
  rw [if_neg h9]
  by_cases h10 : x0 &&& 31 = 10
  · rw [if_pos h10]; exact lc10_ok (by omega) x1 x2 x3 x4 x5 hI
  rw [if_neg h10]
  by_cases h11 : x0 &&& 31 = 11
  · rw [if_pos h11]; exact lc11_ok (by omega) x1 x2 x3 x4 x5 hI
  rw [if_neg h11]
  by_cases h12 : x0 &&& 31 = 12
  · rw [if_pos h12]; exact lc12_ok (by omega) x1 x2 x3 x4 x5 hI
  rw [if_neg h12]
  by_cases h13 : x0 &&& 31 = 13
  · rw [if_pos h13]; exact lc13_ok z x1 x2 x3 x4 x5 hI
  rw [if_neg h13]
  by_cases h14 : x0 &&& 31 = 14
  · rw [if_pos h14]; exact lc14_ok z x1 x2 x3 x4 x5 hI
  rw [if_neg h14]
  by_cases h15 : x0 &&& 31 = 15
  · rw [if_pos h15]; exact lc15_ok z x1 x2 x3 x4 x5 hI
  rw [if_neg h15]
  by_cases h16 : x0 &&& 31 = 16
  · rw [if_pos h16]; exact lc16_ok z x1 x2 x3 x4 x5 hI
  rw [if_neg h16]
  by_cases h17 : x0 &&& 31 = 17
  · rw [if_pos h17]; exact lc17_ok z x1 x2 x3 x4 x5 hI
  rw [if_neg h17]
  by_cases h18 : x0 &&& 31 = 18
  · rw [if_pos h18]; exact lc18_ok z x1 x2 x3 x4 x5 hI
  rw [if_neg h18]
  by_cases h19 : x0 &&& 31 = 19
  · rw [if_pos h19]; exact lc19_ok (by omega) x1 x2 x3 x4 x5 hI
  rw [if_neg h19]
  by_cases h20 : x0 &&& 31 = 20
  · rw [if_pos h20]; exact lc20_ok z x1 x2 x3 x4 x5 hI
  rw [if_neg h20]
  by_cases h21 : x0 &&& 31 = 21
  · rw [if_pos h21]; exact lc21_ok z x1 x2 x3 x4 x5 hI
  rw [if_neg h21]
  by_cases h22 : x0 &&& 31 = 22
  · rw [if_pos h22]; exact lc22_ok (by omega) x1 x2 x3 x4 x5 hI
  rw [if_neg h22]
  by_cases h23 : x0 &&& 31 = 23
  · rw [if_pos h23]; exact lc23_ok (by omega) x1 x2 x3 x4 x5 hI
  rw [if_neg h23]
  by_cases h24 : x0 &&& 31 = 24
  · rw [if_pos h24]; exact lc24_ok (by omega) x1 x2 x3 x4 x5 hI
  rw [if_neg h24]
  by_cases h25 : x0 &&& 31 = 25
  · rw [if_pos h25]; exact lc25_ok (by omega) x1 x2 x3 x4 x5 hI
  rw [if_neg h25]
  by_cases h26 : x0 &&& 31 = 26
  · rw [if_pos h26]; exact lc26_ok (by omega) x1 x2 x3 x4 x5 hI
  rw [if_neg h26]
  by_cases h27 : x0 &&& 31 = 27
  · rw [if_pos h27]; exact lc27_ok (by omega) x1 x2 x3 x4 x5 hI
  rw [if_neg h27]
  by_cases h28 : x0 &&& 31 = 28
  · rw [if_pos h28]; exact lc28_ok z x1 x2 x3 x4 x5 hI
  rw [if_neg h28]
  by_cases h29 : x0 &&& 31 = 29
  · rw [if_pos h29]; exact lc29_ok (by omega) x1 x2 x3 x4 x5 hI
  rw [if_neg h29]
  by_cases h30 : x0 &&& 31 = 30
  · rw [if_pos h30]; exact lc30_ok z x1 x2 x3 x4 x5 hI
  rw [if_neg h30]
  by_cases h31 : x0 &&& 31 = 31
  · rw [if_pos h31]; exact lc31_ok z x1 x2 x3 x4 x5 hI
  rw [if_neg h31]
  exact ⟨C, M, lt, rfl, hI⟩
theorem law_run {z : Nat} (hz : 200000 ≤ z) (xs : Nat → Int32) (j : Nat) : ∀ (n : Nat) (st : LSt), Inv st.1 st.2.1 st.2.2 → ∃ r, lawF z xs j n st = some r := by
  induction j with
  | zero => intro n st _; exact ⟨st, rfl⟩
  | succ j ih =>
    intro n st hI
    obtain ⟨C', M', lt', h1, h2⟩ := lawStep_ok hz (xs n) (xs (n + 1)) (xs (n + 2)) (xs (n + 3)) (xs (n + 4)) (xs (n + 5)) hI
    obtain ⟨r, h3⟩ := ih (n + 6) (C', M', lt') h2
    refine ⟨r, ?_⟩
    show (lawStep z (xs n) (xs (n + 1)) (xs (n + 2)) (xs (n + 3)) (xs (n + 4)) (xs (n + 5)) st.1 st.2.1 st.2.2).bind (lawF z xs j (n + 6)) = _
    rw [h1, Option.bind_some, h3]
theorem Inv_00 : Inv C00 M00 (0, 1) := by
  refine ⟨⟨1, 0, 0, 1, by decide, by decide, by decide, by decide, by decide, rfl, rfl, rfl, rfl, rfl, rfl, rfl, rfl⟩, ⟨0, by decide, rfl, rfl⟩, rfl, fun i => ?_, rfl, rfl, rfl⟩
  show -128 ≤ (0 : Int32).toInt ∧ (0 : Int32).toInt ≤ 127
  decide
theorem law_ok : ∀ (xs : Nat → Int32) (j : Nat), ∃ (z : Nat) (r : LSt), lawF z xs j 0 (C00, M00, (0, 1)) = some r := by
  intro xs j
  obtain ⟨z, hz⟩ : ∃ z : Nat, 200000 ≤ z := ⟨200000, Nat.le_refl _⟩
  obtain ⟨r, h⟩ := law_run hz xs j 0 (C00, M00, (0, 1)) Inv_00
  exact ⟨z, r, h⟩
