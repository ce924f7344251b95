/-! the saw -/
theorem saw_ok {z : Nat} (hz : 200 ≤ z) {u v : Int} (hv : 0 < v) (hv2 : v ≤ 1000000000) (hu : u.natAbs ≤ 1000000000) : ∃ p q, F_X1_sawOf z (L u, L v) = some (L p, L q) ∧ (∀ S a b, F_X7_lays z a b S = some (ms_under (ms_up S (L u)) (L v)) → F_X7_laysSaw z a b S = some (ms_under (ms_up S (L p)) (L q))) ∧ 0 < q ∧ Nat.gcd p.natAbs q.natAbs = 1 ∧ p.natAbs ≤ 1000000000 ∧ q ≤ 2000000000 := by
  have hr1 := Int.emod_nonneg u (b := v) (by omega)
  have hr2 := Int.emod_lt_of_pos u (b := v) (by omega)
  have hm := fmod_ok z (a := u) (b := v) ⟨by omega, by omega⟩ ⟨by omega, by omega⟩ hv
  have hm2 := rest_ok z (a := u) (b := v) ⟨by omega, by omega⟩ ⟨by omega, by omega⟩ hv
  by_cases h1 : v = 1
  · subst h1
    obtain ⟨p, q, g1, g2, g3, g4, g5, g6, g7⟩ := frac_ok hz (a := 0) (b := 1) (c := 0) (d := 1) (n := 0) (m := 0) (by decide) (by decide) (by decide) (by decide) (by decide) (by decide) (by decide) (by decide) (by decide)
    refine ⟨p, q, ?_, ?_, g3.1, g3.2.1, by omega, by omega⟩
    · unfold F_X1_sawOf
      rw [if_neg (show ¬ (1 : Int64) < (L u, L 1).2 by show ¬ (1 : Int64) < L 1; decide +kernel), l0, l1, g1, Option.bind_some]
    · intro S a b h
      unfold F_X7_laysSaw
      rw [h, Option.bind_some]
      show (F_X7_rest z (L u) (L 1)).bind _ = _
      rw [hm2, Option.bind_some, if_pos (show mg_under (ms_under (ms_up S (L u)) (L 1)) = 1 from rfl), l0, l1, g2, Option.bind_some]
      rfl
  · obtain ⟨p, q, g1, g2, g3, g4, g5, g6, g7⟩ := frac_ok hz (a := 2 * (u % v) - v) (b := 2 * v) (c := 2 * (u % v) - v) (d := 2 * v) (n := 1000000000) (m := 1000000000) (by omega) (by decide) (by omega) (by omega) (by omega) (by decide) (by omega) (by omega) rfl
    refine ⟨p, q, ?_, ?_, g3.1, g3.2.1, by omega, by omega⟩
    · unfold F_X1_sawOf
      rw [if_pos (show (1 : Int64) < (L u, L v).2 by show (1 : Int64) < L v; rw [l1, L_lt b61 ⟨by omega, by omega⟩]; omega)]
      show (F_J9_floorMod_f86c9 z (L u) (L v)).bind _ = _
      rw [hm, Option.bind_some]
      show (F_X1_init z ((2 : Int64) * L (u % v) - L v) ((2 : Int64) * L v)).bind _ = _
      rw [l2, L_mul, L_sub, L_mul, g1, Option.bind_some]
    · intro S a b h
      unfold F_X7_laysSaw
      rw [h, Option.bind_some]
      show (F_X7_rest z (L u) (L v)).bind _ = _
      rw [hm2, Option.bind_some, if_neg (show ¬ mg_under (ms_under (ms_up S (L u)) (L v)) = 1 by show ¬ L v = 1; rw [l1, L_eq ⟨by omega, by omega⟩ b61]; omega)]
      show (F_X7_lays z ((2 : Int64) * L (u % v) - L v) ((2 : Int64) * L v) _).bind _ = _
      rw [l2, L_mul, L_sub, L_mul, g2, Option.bind_some]
      rfl
theorem saw_eq {z : Nat} (hz : 200 ≤ z) (M : MS) (x1 x2 x3 : Int32) : ∃ r M1, F_X6_saw z x1 x2 x3 = some r ∧ F_X7_saw z x1 x2 x3 M = some (r, M1) ∧ kM M1 = kM M := by
  obtain ⟨a, ha, rfl⟩ := J_of x1
  obtain ⟨b, hb, rfl⟩ := J_of x2
  have e1 : ∀ {w : Int}, B3 w → F_X6_lies z (Int32.toInt64 (J w)) (-1000000000 : Int64) (1000000000 : Int64) = some (if -1000000000 ≤ w ∧ w ≤ 1000000000 then 1 else 0) := fun hw => by rw [lGm, lG]; exact liesI z hw bGm bG
  have e2 : ∀ {w : Int}, B3 w → F_X7_isIn z (Int32.toInt64 (J w)) (-1000000000 : Int64) (1000000000 : Int64) = some (if -1000000000 ≤ w ∧ w ≤ 1000000000 then 1 else 0) := fun hw => by rw [lGm, lG]; exact isinI z hw bGm bG
  unfold F_X6_saw F_X7_saw
  simp only [e1 ha, e1 hb, e2 ha, e2 hb, Option.bind_some]
  by_cases c1 : -1000000000 ≤ a ∧ a ≤ 1000000000
  · rw [if_pos c1, if_neg n10, if_neg n10]
    by_cases c2 : -1000000000 ≤ b ∧ b ≤ 1000000000
    · rw [if_pos c2, if_neg n10, if_neg n10]
      by_cases c3 : b = 0
      · subst c3
        rw [if_pos (show J 0 = 0 from rfl), if_pos (show J 0 = 0 from rfl)]
        exact ⟨_, _, rfl, rfl, rfl⟩
      · have n0 : ¬ J b = 0 := by rw [j0, J_eq hb b30]; exact c3
        rw [if_neg n0, if_neg n0]
        by_cases c4 : 0 ≤ b
        · have p0 : (0 : Int32) ≤ J b := by rw [j0, J_le b30 hb]; exact c4
          have eA : absI (J b) = J b := by unfold absI; rw [if_pos p0]
          rw [if_pos p0, eA, J_L ha, J_L hb]
          obtain ⟨u, v, g1, g2, g3, g4, g5, g6, g7⟩ := frac_ok hz (a := a) (b := b) (c := a) (d := b) (n := 1000000000) (m := 1000000000) (by omega) (by decide) (by omega) (by omega) (by omega) (by decide) (by omega) (by omega) rfl
          obtain ⟨p, q, s1, s2, s3, s4, s5, s6⟩ := saw_ok hz g3.1 (by omega) (u := u) (by omega)
          rw [g1, Option.bind_some, s1, Option.bind_some, s2 _ _ _ (g2 _), Option.bind_some]
          obtain ⟨r, M1, w1, w2, w3⟩ := part_ok z x3 (L p) (L q) (ms_under (ms_up (ms_thrown M 0) (L p)) (L q)) M rfl rfl rfl
          rw [w1, w2]
          exact ⟨r, M1, rfl, rfl, w3⟩
        · have p0 : ¬ (0 : Int32) ≤ J b := by rw [j0, J_le b30 hb]; exact c4
          have eA : absI (J b) = J (-b) := by unfold absI; rw [if_neg p0, j0, J_sub, Int.zero_sub]
          rw [if_neg p0, eA, J_neg, J_L ha, J_L hb, J_L ⟨by omega, by omega⟩, J_L ⟨by omega, by omega⟩]
          obtain ⟨u, v, g1, g3, g4, g5⟩ := init_ok hz (a := -a) (b := -b) (n := 1000000000) (by omega) (by decide) (by omega) (by omega)
          obtain ⟨u', v', k2, k3, k4, k5⟩ := lays_neg hz (a := a) (b := b) (n := 1000000000) (by omega) (by decide) (by omega) (by omega)
          obtain ⟨rfl, rfl⟩ := Rd_uniq (by omega) g3 k3
          obtain ⟨p, q, s1, s2, s3, s4, s5, s6⟩ := saw_ok hz g3.1 (by omega) (u := u) (by omega)
          rw [g1, Option.bind_some, s1, Option.bind_some, s2 _ _ _ (k2 _), Option.bind_some]
          obtain ⟨r, M1, w1, w2, w3⟩ := part_ok z x3 (L p) (L q) (ms_under (ms_up (ms_thrown M 0) (L p)) (L q)) M rfl rfl rfl
          rw [w1, w2]
          exact ⟨r, M1, rfl, rfl, w3⟩
    · rw [if_neg c2, if_pos rfl, if_pos rfl]
      by_cases c3 : J b = 0
      · rw [if_pos c3]
        exact ⟨_, _, rfl, rfl, rfl⟩
      · rw [if_neg c3]
        exact ⟨_, _, rfl, rfl, rfl⟩
  · rw [if_neg c1, if_pos rfl, if_pos rfl]
    by_cases c3 : J b = 0
    · rw [if_pos c3]
      exact ⟨_, _, rfl, rfl, rfl⟩
    · rw [if_neg c3]
      exact ⟨_, _, rfl, rfl, rfl⟩
theorem lc0_ok {z : Nat} (hz : 200 ≤ z) (x1 x2 x3 x4 x5 : Int32) {C : CS} {M : MS} {lt : Int64 × Int64} (hI : Inv C M lt) : Okc (lc0 z x1 x2 x3 x4 x5 C M lt) := by
  obtain ⟨r, M1, h1, h2, h3⟩ := saw_eq hz M x1 x2 (bo x3)
  exact ok_N hI h1 h2 h3
/-! both -/
theorem Rd_add {a b a' b' u v u' v' : Int} (h1 : Rd a b u v) (h2 : Rd a' b' u' v') : (u * v' + u' * v) * (b * b') = (a * b' + a' * b) * (v * v') := by
  obtain ⟨-, -, e1⟩ := h1
  obtain ⟨-, -, e2⟩ := h2
  grind
theorem both_eq {z : Nat} (hz : 200 ≤ z) (M : MS) (x1 x2 x3 : Int32) : ∃ r M1, F_X6_both z x1 x2 x3 = some r ∧ F_X7_both z x1 x2 x3 M = some (r, M1) ∧ kM M1 = kM M := by
  obtain ⟨h, hh, rfl⟩ := J_of x1
  obtain ⟨k, hk, rfl⟩ := J_of x2
  have l3w : (30000 : Int64) = L 30000 := by decide +kernel
  have e1 : ∀ {w : Int}, B3 w → F_X6_lies z (Int32.toInt64 (J w)) (1 : Int64) (30000 : Int64) = some (if 1 ≤ w ∧ w ≤ 30000 then 1 else 0) := fun hw => by rw [l3w, l1]; exact liesI z hw b61 ⟨by decide, by decide⟩
  have e2 : ∀ {w : Int}, B3 w → F_X7_isIn z (Int32.toInt64 (J w)) (1 : Int64) (30000 : Int64) = some (if 1 ≤ w ∧ w ≤ 30000 then 1 else 0) := fun hw => by rw [l3w, l1]; exact isinI z hw b61 ⟨by decide, by decide⟩
  unfold F_X6_both F_X7_both
  simp only [e1 hh, e1 hk, e2 hh, e2 hk, Option.bind_some]
  by_cases c1 : 1 ≤ h ∧ h ≤ 30000
  · rw [if_pos c1, if_neg n10, if_neg n10]
    by_cases c2 : 1 ≤ k ∧ k ≤ 30000
    · rw [if_pos c2, if_neg n10, if_neg n10, J_L hh, J_L hk]
      obtain ⟨h, rfl⟩ : ∃ n : Nat, h = n := ⟨h.toNat, by omega⟩
      obtain ⟨k, rfl⟩ : ∃ n : Nat, k = n := ⟨k.toNat, by omega⟩
      obtain ⟨u1, v1, -, s1, r1, b1, d1⟩ := sums_ok hz (h := (h : Int)) (by omega) (k := k) (by omega) (by omega)
      obtain ⟨u2, v2, -, s2, r2, b2, d2⟩ := sums_ok hz (h := (k : Int)) (by omega) (k := h) (by omega) (by omega)
      have t1 := Tw_bd (h := (h : Int)) (k := k) (by omega) (by omega)
      have t2 := Tw_bd (h := (k : Int)) (k := h) (by omega) (by omega)
      have t3 : k * (k + 5) ≤ 30000 * 30005 := Nat.mul_le_mul (by omega) (by omega)
      have t4 : h * (h + 5) ≤ 30000 * 30005 := Nat.mul_le_mul (by omega) (by omega)
      have p1 := r1.1
      have p2 := r2.1
      have w1 : (Tw h k * (h : Int)).natAbs ≤ 900150000 * 30000 := nm (by omega) (by omega)
      have w2 : (Tw k h * (k : Int)).natAbs ≤ 900150000 * 30000 := nm (by omega) (by omega)
      have w3 : (u2 * v1).natAbs ≤ 900150000 * 360000 := nm (by omega) (by omega)
      have w4 : (u1 * v2).natAbs ≤ 900150000 * 360000 := nm (by omega) (by omega)
      have w5 : (v2 * v1).natAbs ≤ 360000 * 360000 := nm (by omega) (by omega)
      have w6 : ((12 * (h : Int)) * (k : Int)).natAbs ≤ 360000 * 30000 := nm (by omega) (by omega)
      have w7 : 0 < v2 * v1 := Int.mul_pos p2 p1
      have w8 : 0 < (12 * (h : Int)) * (k : Int) := Int.mul_pos (by omega) (by omega)
      have hra := Rd_add r2 r1
      obtain ⟨u, v, g1, g2, g3, g4, g5, g6, g7⟩ := frac_ok hz (a := Tw h k * (h : Int) + Tw k h * (k : Int)) (b := (12 * (h : Int)) * (k : Int)) (c := u2 * v1 + u1 * v2) (d := v2 * v1) (n := 900150000 * 30000 + 900150000 * 30000) (m := 900150000 * 360000 + 900150000 * 360000) (by omega) (by decide) w8 (by omega) (by omega) (by decide) w7 (by omega) (by grind)
      rw [twelfths_ok hz ⟨by omega, by omega⟩ (by omega) (by omega), Option.bind_some, twelfths_ok hz ⟨by omega, by omega⟩ (by omega) (by omega), Option.bind_some, L_mul, L_mul, L_add, l12, L_mul, L_mul, g1, Option.bind_some]
      rw [s1, Option.bind_some]
      show ∃ r M1, _ ∧ ((F_X7_laysSum z (L k) (L h) (ms_under (ms_up (ms_thrown M 0) (L u1)) (L v1))).bind fun S9 => (F_X7_adds z (L u1) (L v1) S9).bind fun S10 => bd2 (F_X7_latest z x3 S10) fun r11 S12 => some (r11, S12)) = _ ∧ _
      rw [s2, Option.bind_some]
      have ad : F_X7_adds z (L u1) (L v1) (ms_under (ms_up (ms_under (ms_up (ms_thrown M 0) (L u1)) (L v1)) (L u2)) (L v2)) = some (ms_under (ms_up (ms_thrown M 0) (L u)) (L v)) := by
        unfold F_X7_adds
        show (F_X7_lays z (L u2 * L v1 + L u1 * L v2) (L v2 * L v1) _).bind _ = _
        rw [L_mul, L_mul, L_add, L_mul, g2, Option.bind_some]
        rfl
      rw [ad, Option.bind_some]
      obtain ⟨r, M1, y1, y2, y3⟩ := part_ok z x3 (L u) (L v) (ms_under (ms_up (ms_thrown M 0) (L u)) (L v)) M rfl rfl rfl
      rw [y1, y2]
      exact ⟨r, M1, rfl, rfl, y3⟩
    · rw [if_neg c2, if_pos rfl, if_pos rfl]
      exact ⟨_, _, rfl, rfl, rfl⟩
  · rw [if_neg c1, if_pos rfl, if_pos rfl]
    exact ⟨_, _, rfl, rfl, rfl⟩
theorem lc2_ok {z : Nat} (hz : 200 ≤ z) (x1 x2 x3 x4 x5 : Int32) {C : CS} {M : MS} {lt : Int64 × Int64} (hI : Inv C M lt) : Okc (lc2 z x1 x2 x3 x4 x5 C M lt) := by
  obtain ⟨r, M1, h1, h2, h3⟩ := both_eq hz M x1 x2 (bo x3)
  exact ok_N hI h1 h2 h3
