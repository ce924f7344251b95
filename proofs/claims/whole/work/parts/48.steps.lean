/-! steps -/
theorem steps_loop (z : Nat) {a b : Int} {m N : Nat} (hm : 0 < m) (hm2 : m ≤ 1000000) (hN : N ≤ 100000) (ha : a.natAbs ≤ 1000000) (hb : b.natAbs ≤ 1000000) (M : MS) (d : Nat) : ∀ (n i : Nat), i + d = N → d + 1 ≤ n → G_X7_steps_68 z n (J a) (J b) (J m) (J N) (L (Sf a b m i)) (J i) M = some (L (Sf a b m N), M) := by
  induction d with
  | zero =>
    intro n i hi hn
    obtain ⟨n, rfl⟩ : ∃ w, n = w + 1 := ⟨n - 1, by omega⟩
    have : i = N := by omega
    subst this
    rw [e_X7_steps_68, if_pos (Int32.le_refl _)]
  | succ d ih =>
    intro n i hi hn
    obtain ⟨n, rfl⟩ : ∃ w, n = w + 1 := ⟨n - 1, by omega⟩
    have w1 : (a * (i : Int)).natAbs ≤ 1000000 * 100000 := nm ha (by omega)
    rw [e_X7_steps_68, if_neg (by rw [J_le ⟨by omega, by omega⟩ ⟨by omega, by omega⟩]; omega), J_L ⟨by omega, by omega⟩, J_L ⟨by omega, by omega⟩, J_L ⟨by omega, by omega⟩, J_L ⟨by omega, by omega⟩, L_mul, L_add, down_eq, fdiv_ok z ⟨by omega, by omega⟩ ⟨by omega, by omega⟩ (by omega)]
    simp only [Option.bind_some]
    rw [L_add, j1, J_add]
    exact ih n (i + 1) (by omega) (by omega)
theorem lM6 : (1000000 : Int64) = L 1000000 := by decide +kernel
theorem lM6m : (-1000000 : Int64) = L (-1000000) := by decide +kernel
theorem bM6 : B6 1000000 := ⟨by decide, by decide⟩
theorem bM6m : B6 (-1000000) := ⟨by decide, by decide⟩
theorem lc9_ok {z : Nat} (hz : 200000 ≤ z) (x1 x2 x3 x4 x5 : Int32) {C : CS} {M : MS} {lt : Int64 × Int64} (hI : Inv C M lt) : Okc (lc9 z x1 x2 x3 x4 x5 C M lt) := by
  obtain ⟨a, ha, rfl⟩ := J_of x1
  obtain ⟨b, hb, rfl⟩ := J_of x2
  obtain ⟨m, hm, rfl⟩ := J_of x3
  obtain ⟨n, hn, rfl⟩ := J_of x4
  have e1 : ∀ {w : Int}, B3 w → F_X6_lies z (Int32.toInt64 (J w)) (-1000000 : Int64) (1000000 : Int64) = some (if -1000000 ≤ w ∧ w ≤ 1000000 then 1 else 0) := fun hw => by rw [lM6m, lM6]; exact liesI z hw bM6m bM6
  have e2 : ∀ {w : Int}, B3 w → F_X7_isIn z (Int32.toInt64 (J w)) (-1000000 : Int64) (1000000 : Int64) = some (if -1000000 ≤ w ∧ w ≤ 1000000 then 1 else 0) := fun hw => by rw [lM6m, lM6]; exact isinI z hw bM6m bM6
  have e3 : F_X6_lies z (Int32.toInt64 (J m)) (1 : Int64) (1000000 : Int64) = some (if 1 ≤ m ∧ m ≤ 1000000 then 1 else 0) := by rw [lM6, l1]; exact liesI z hm b61 bM6
  have e4 : F_X7_isIn z (Int32.toInt64 (J m)) (1 : Int64) (1000000 : Int64) = some (if 1 ≤ m ∧ m ≤ 1000000 then 1 else 0) := by rw [lM6, l1]; exact isinI z hm b61 bM6
  have lHT : (100000 : Int64) = L 100000 := by decide +kernel
  have e5 : F_X6_lies z (Int32.toInt64 (J n)) (0 : Int64) (100000 : Int64) = some (if 0 ≤ n ∧ n ≤ 100000 then 1 else 0) := by rw [lHT, l0]; exact liesI z hn b60 ⟨by decide, by decide⟩
  have e6 : F_X7_isIn z (Int32.toInt64 (J n)) (0 : Int64) (100000 : Int64) = some (if 0 ≤ n ∧ n ≤ 100000 then 1 else 0) := by rw [lHT, l0]; exact isinI z hn b60 ⟨by decide, by decide⟩
  have goal : ∃ r, F_X6_steps z (J a) (J b) (J m) (J n) C = some (r, C) ∧ F_X7_steps z (J a) (J b) (J m) (J n) M = some (r, ms_thrown M 0) := by
    unfold F_X6_steps F_X7_steps
    simp only [e1 ha, e1 hb, e2 ha, e2 hb, e3, e4, e5, e6, Option.bind_some]
    by_cases c1 : -1000000 ≤ a ∧ a ≤ 1000000
    · rw [if_pos c1, if_neg n10, if_neg n10]
      by_cases c2 : -1000000 ≤ b ∧ b ≤ 1000000
      · rw [if_pos c2, if_neg n10, if_neg n10]
        by_cases c3 : 1 ≤ m ∧ m ≤ 1000000
        · rw [if_pos c3, if_neg n10, if_neg n10]
          by_cases c4 : 0 ≤ n ∧ n ≤ 100000
          · rw [if_pos c4, if_neg n10, if_neg n10]
            obtain ⟨m, rfl⟩ : ∃ q : Nat, m = q := ⟨m.toNat, by omega⟩
            obtain ⟨n, rfl⟩ : ∃ q : Nat, n = q := ⟨n.toNat, by omega⟩
            rw [J_L ha, J_L hb, J_L hm, J_L hn, floorSum_ok (by omega) (by omega) (by omega) (by omega) (by omega) (by omega), Option.bind_some]
            exact ⟨_, rfl, steps_loop z (by omega) (by omega) (by omega) (by omega) (by omega) (ms_thrown M 0) n z 0 (by omega) (by omega)⟩
          · rw [if_neg c4, if_pos rfl, if_pos rfl]; exact ⟨_, rfl, rfl⟩
        · rw [if_neg c3, if_pos rfl, if_pos rfl]; exact ⟨_, rfl, rfl⟩
      · rw [if_neg c2, if_pos rfl, if_pos rfl]; exact ⟨_, rfl, rfl⟩
    · rw [if_neg c1, if_pos rfl, if_pos rfl]; exact ⟨_, rfl, rfl⟩
  obtain ⟨r, g1, g2⟩ := goal
  exact ok_T g1 g2 (Inv_thrown hI)
/-! triangle, inside -/
def PB (a b : Nat) (c : Int) : Int := if 0 ≤ c then c / (a : Int) + 1 + Sf a (c % (a : Int)) b (c / (a : Int) + 1).toNat else 0
theorem pb_ok {z : Nat} (hz : 200 ≤ z) {a b : Nat} {c : Int} (ha : 0 < a) (ha2 : a ≤ 1000000) (hb : 0 < b) (hb2 : b ≤ 1000000) (hc : -1000000000 ≤ c) (hc2 : c ≤ 1000000000) : F_X5_pointsBelow z (L a) (L b) (L c) = some (L (PB a b c)) ∧ F_X7_below z (L a) (L b) (L c) = some (L (PB a b c)) := by
  unfold F_X5_pointsBelow F_X7_below PB
  rw [if_neg (by rw [l1, L_lt ⟨by omega, by omega⟩ b61]; omega), if_neg (by rw [l1, L_lt ⟨by omega, by omega⟩ b61]; omega), l0]
  by_cases c0 : 0 ≤ c
  · have q1 := Int.ediv_nonneg c0 (show (0 : Int) ≤ a by omega)
    have q2 : c / (a : Int) ≤ c := Int.ediv_le_self _ c0
    have r1 := Int.emod_nonneg c (b := (a : Int)) (by omega)
    have r2 := Int.emod_lt_of_pos c (b := (a : Int)) (by omega)
    have na : ¬ L a = L 0 := L_ne0 (by omega) (by omega)
    have le0 : L 0 ≤ L c := by rw [L_le b60 ⟨by omega, by omega⟩]; exact c0
    rw [if_pos le0, if_neg na, if_pos le0, if_neg na, if_pos c0]
    simp only [Option.bind_some]
    rw [if_neg na, L_rem ⟨by omega, by omega⟩ ⟨by omega, by omega⟩, L_div ⟨by omega, by omega⟩ ⟨by omega, by omega⟩, Int.tdiv_eq_ediv_of_nonneg c0, Int.tmod_eq_emod_of_nonneg c0, l1, L_add]
    obtain ⟨N, hN⟩ : ∃ w : Nat, c / (a : Int) + 1 = w := ⟨(c / (a : Int) + 1).toNat, by omega⟩
    rw [hN, floorSum_ok hz (by omega) (by omega) (by omega) (by omega) (by omega), floors_ok hz (by omega) (by omega) (by omega) (by omega) (by omega) (by omega) (by omega)]
    simp only [Option.bind_some]
    rw [L_add, L_add, Int.add_comm (Sf _ _ _ _), if_neg na]
    exact ⟨rfl, rfl⟩
  · have le0 : ¬ L 0 ≤ L c := by rw [L_le b60 ⟨by omega, by omega⟩]; exact c0
    rw [if_neg le0, if_neg le0, if_neg c0]
    exact ⟨rfl, rfl⟩
theorem tri_ok (z : Nat) {a b c : Int} (ha : B3 a) (hb : B3 b) (hc : B3 c) : F_X6_isTriangle z (J a) (J b) (J c) = some (if (1 ≤ a ∧ a ≤ 1000000) ∧ (1 ≤ b ∧ b ≤ 1000000) ∧ (0 ≤ c ∧ c ≤ 1000000000) then 1 else 0) ∧ F_X7_isTriangle z (J a) (J b) (J c) = some (if (1 ≤ a ∧ a ≤ 1000000) ∧ (1 ≤ b ∧ b ≤ 1000000) ∧ (0 ≤ c ∧ c ≤ 1000000000) then 1 else 0) := by
  have e3 : ∀ {w : Int}, B3 w → F_X6_lies z (Int32.toInt64 (J w)) (1 : Int64) (1000000 : Int64) = some (if 1 ≤ w ∧ w ≤ 1000000 then 1 else 0) := fun hw => by rw [lM6, l1]; exact liesI z hw b61 bM6
  have e4 : ∀ {w : Int}, B3 w → F_X7_isIn z (Int32.toInt64 (J w)) (1 : Int64) (1000000 : Int64) = some (if 1 ≤ w ∧ w ≤ 1000000 then 1 else 0) := fun hw => by rw [lM6, l1]; exact isinI z hw b61 bM6
  have e5 : F_X6_lies z (Int32.toInt64 (J c)) (0 : Int64) (1000000000 : Int64) = some (if 0 ≤ c ∧ c ≤ 1000000000 then 1 else 0) := by rw [lG, l0]; exact liesI z hc b60 bG
  have e6 : F_X7_isIn z (Int32.toInt64 (J c)) (0 : Int64) (1000000000 : Int64) = some (if 0 ≤ c ∧ c ≤ 1000000000 then 1 else 0) := by rw [lG, l0]; exact isinI z hc b60 bG
  unfold F_X6_isTriangle F_X7_isTriangle
  simp only [e3 ha, e3 hb, e4 ha, e4 hb, e5, e6, Option.bind_some]
  by_cases c1 : 1 ≤ a ∧ a ≤ 1000000
  · rw [if_pos c1, if_neg n10]
    by_cases c2 : 1 ≤ b ∧ b ≤ 1000000
    · rw [if_pos c2, if_neg n10]
      by_cases c3 : 0 ≤ c ∧ c ≤ 1000000000
      · rw [if_pos c3, if_neg n10, if_pos ⟨c1, c2, c3⟩]; exact ⟨rfl, rfl⟩
      · rw [if_neg c3, if_pos rfl, if_neg (fun h => c3 h.2.2)]; exact ⟨rfl, rfl⟩
    · rw [if_neg c2, if_pos rfl, if_neg (fun h => c2 h.2.1)]; exact ⟨rfl, rfl⟩
  · rw [if_neg c1, if_pos rfl, if_neg (fun h => c1 h.1)]; exact ⟨rfl, rfl⟩
theorem lc10_ok {z : Nat} (hz : 200 ≤ z) (x1 x2 x3 x4 x5 : Int32) {C : CS} {M : MS} {lt : Int64 × Int64} (hI : Inv C M lt) : Okc (lc10 z x1 x2 x3 x4 x5 C M lt) := by
  obtain ⟨a, ha, rfl⟩ := J_of x1
  obtain ⟨b, hb, rfl⟩ := J_of x2
  obtain ⟨c, hc, rfl⟩ := J_of x3
  have goal : ∃ r, F_X6_triangle z (J a) (J b) (J c) C = some (r, C) ∧ F_X7_triangle z (J a) (J b) (J c) M = some (r, ms_thrown M 0) := by
    unfold F_X6_triangle F_X7_triangle
    rw [(tri_ok z ha hb hc).1, (tri_ok z ha hb hc).2]
    simp only [Option.bind_some]
    by_cases c1 : (1 ≤ a ∧ a ≤ 1000000) ∧ (1 ≤ b ∧ b ≤ 1000000) ∧ (0 ≤ c ∧ c ≤ 1000000000)
    · rw [if_pos c1, if_neg n10, if_neg n10]
      obtain ⟨a, rfl⟩ : ∃ q : Nat, a = q := ⟨a.toNat, by omega⟩
      obtain ⟨b, rfl⟩ : ∃ q : Nat, b = q := ⟨b.toNat, by omega⟩
      obtain ⟨p1, p2⟩ := pb_ok hz (a := a) (b := b) (c := c) (by omega) (by omega) (by omega) (by omega) (by omega) (by omega)
      rw [J_L ha, J_L hb, J_L hc, p1, p2]
      exact ⟨_, rfl, rfl⟩
    · rw [if_neg c1, if_pos rfl, if_pos rfl]; exact ⟨_, rfl, rfl⟩
  obtain ⟨r, g1, g2⟩ := goal
  exact ok_T g1 g2 (Inv_thrown hI)
theorem lc11_ok {z : Nat} (hz : 200 ≤ z) (x1 x2 x3 x4 x5 : Int32) {C : CS} {M : MS} {lt : Int64 × Int64} (hI : Inv C M lt) : Okc (lc11 z x1 x2 x3 x4 x5 C M lt) := by
  obtain ⟨a, ha, rfl⟩ := J_of x1
  obtain ⟨b, hb, rfl⟩ := J_of x2
  obtain ⟨c, hc, rfl⟩ := J_of x3
  have goal : ∃ r, F_X6_inside z (J a) (J b) (J c) C = some (r, C) ∧ F_X7_inside z (J a) (J b) (J c) M = some (r, ms_thrown M 0) := by
    unfold F_X6_inside F_X7_inside
    rw [(tri_ok z ha hb hc).1, (tri_ok z ha hb hc).2]
    simp only [Option.bind_some]
    by_cases c1 : (1 ≤ a ∧ a ≤ 1000000) ∧ (1 ≤ b ∧ b ≤ 1000000) ∧ (0 ≤ c ∧ c ≤ 1000000000)
    · rw [if_pos c1, if_neg n10, if_neg n10]
      obtain ⟨a, rfl⟩ : ∃ q : Nat, a = q := ⟨a.toNat, by omega⟩
      obtain ⟨b, rfl⟩ : ∃ q : Nat, b = q := ⟨b.toNat, by omega⟩
      obtain ⟨p1, p2⟩ := pb_ok hz (a := a) (b := b) (c := c - 1 - a - b) (by omega) (by omega) (by omega) (by omega) (by omega) (by omega)
      rw [J_L ha, J_L hb, J_L hc, l1, L_sub, L_sub, L_sub, p1, p2]
      exact ⟨_, rfl, rfl⟩
    · rw [if_neg c1, if_pos rfl, if_pos rfl]; exact ⟨_, rfl, rfl⟩
  obtain ⟨r, g1, g2⟩ := goal
  exact ok_T g1 g2 (Inv_thrown hI)
