/-! told, count, kind, order -/
theorem lc30_ok (z : Nat) (x1 x2 x3 x4 x5 : Int32) {C : CS} {M : MS} {lt : Int64 × Int64} (hI : Inv C M lt) : Okc (lc30 z x1 x2 x3 x4 x5 C M lt) := by
  have hl : lt = (mg_toldUp M, mg_toldUnder M) := hI.2.2.2.2.2.2
  unfold lc30 F_X6_told F_X7_told F_X1_part
  rw [hl]
  by_cases c : bo x1 = 0
  · simp only [Option.bind_some]
    rw [if_pos c, if_pos c]
    simp only [Option.bind_some]
    refine ⟨C, ms_thrown M 0, _, ?_, hl ▸ Inv_thrown hI⟩
    show (if mg_toldUp M = mg_toldUp M then _ else _) = _
    rw [if_pos rfl]
  · simp only [Option.bind_some]
    rw [if_neg c, if_neg c]
    simp only [Option.bind_some]
    refine ⟨C, ms_thrown M 0, _, ?_, hl ▸ Inv_thrown hI⟩
    show (if mg_toldUnder M = mg_toldUnder M then _ else _) = _
    rw [if_pos rfl]
theorem lc31_ok (z : Nat) (x1 x2 x3 x4 x5 : Int32) {C : CS} {M : MS} {lt : Int64 × Int64} (hI : Inv C M lt) : Okc (lc31 z x1 x2 x3 x4 x5 C M lt) := by
  obtain ⟨t, ht, t1, t2⟩ := hI.2.1
  have t3 : cg_tapeLength C = mg_taped M := t1.trans t2.symm
  have s1 : cg_sumsTold C = mg_sums M := hI.2.2.2.2.1
  have s2 : cg_inLatest C = mg_often M := hI.2.2.2.2.2.1
  have goal : ∃ r, F_X6_count z x1 C = some (r, C) ∧ F_X7_count z x1 M = some (r, ms_thrown M 0) := by
    unfold F_X6_count F_X7_count
    rw [Option.bind_some]
    by_cases c0 : x1 = 0
    · rw [if_pos c0, if_pos c0]
      exact ⟨_, rfl, by show some (mg_taped M, _) = _; rw [t3]⟩
    · rw [if_neg c0, if_neg c0]
      by_cases c1 : x1 = 1
      · rw [if_pos c1, if_pos c1]
        exact ⟨_, rfl, by show some (mg_sums M, _) = _; rw [s1]⟩
      · rw [if_neg c1, if_neg c1]
        by_cases c2 : x1 = 2
        · rw [if_pos c2, if_pos c2]
          exact ⟨_, rfl, by show some (mg_often M, _) = _; rw [s2]⟩
        · rw [if_neg c2, if_neg c2]
          exact ⟨_, rfl, rfl⟩
  obtain ⟨r, g1, g2⟩ := goal
  exact ok_T g1 g2 (Inv_thrown hI)
theorem trace_ok (z : Nat) {C : CS} {a d : Int} (ha : a.natAbs ≤ 1000000000) (hd : d.natAbs ≤ 1000000000) (e1 : cg_ma C = J a) (e4 : cg_md C = J d) : F_X2_trace z C = some (L (a + d), C) := by
  unfold F_X2_trace
  rw [e1, e4, J_L ⟨by omega, by omega⟩, J_L ⟨by omega, by omega⟩, L_add]
theorem lc20_ok (z : Nat) (x1 x2 x3 x4 x5 : Int32) {C : CS} {M : MS} {lt : Int64 × Int64} (hI : Inv C M lt) : Okc (lc20 z x1 x2 x3 x4 x5 C M lt) := by
  obtain ⟨a, b, c, d, ha, hb, hc, hd, hdet, e1, e2, e3, e4, f1, f2, f3, f4⟩ := Inv_mat hI
  have goal : ∃ r, F_X6_kind z C = some (r, C) ∧ F_X7_kind z M = some (r, ms_thrown M 0) := by
    unfold F_X6_kind F_X7_kind
    rw [trace_ok z ha hd e1 e4]
    simp only [bd2_some, Option.bind_some]
    rw [show mg_a0 (ms_thrown M 0) = mg_a0 M from rfl, show mg_d0 (ms_thrown M 0) = mg_d0 M from rfl, f1, f4, L_add, size_ok z ⟨by omega, by omega⟩, abs_ok ⟨by omega, by omega⟩, Option.bind_some]
    by_cases c1 : (2 : Int64) ≤ L ((a + d).natAbs : Int)
    · rw [if_pos c1, if_pos c1]
      by_cases c2 : L ((a + d).natAbs : Int) = 2
      · rw [if_pos c2, if_pos c2]
        exact ⟨_, rfl, rfl⟩
      · rw [if_neg c2, if_neg c2]
        exact ⟨_, rfl, rfl⟩
    · rw [if_neg c1, if_neg c1]
      exact ⟨_, rfl, rfl⟩
  obtain ⟨r, g1, g2⟩ := goal
  exact ok_T g1 g2 (Inv_thrown hI)
theorem sq1 {a d : Int} (h : a * d = 1) : (a = 1 ∧ d = 1) ∨ (a = -1 ∧ d = -1) := by
  have h1 : a.natAbs * d.natAbs = 1 := by rw [← Int.natAbs_mul, h]; rfl
  have h2 := Nat.eq_one_of_mul_eq_one_right h1
  have h3 := Nat.eq_one_of_mul_eq_one_left h1
  rcases (show a = 1 ∨ a = -1 by omega) with rfl | rfl
  · left; exact ⟨rfl, by omega⟩
  · right; exact ⟨rfl, by omega⟩
theorem lc21_ok (z : Nat) (x1 x2 x3 x4 x5 : Int32) {C : CS} {M : MS} {lt : Int64 × Int64} (hI : Inv C M lt) : Okc (lc21 z x1 x2 x3 x4 x5 C M lt) := by
  obtain ⟨a, b, c, d, ha, hb, hc, hd, hdet, e1, e2, e3, e4, f1, f2, f3, f4⟩ := Inv_mat hI
  have goal : ∃ r, F_X6_order z C = some (r, C) ∧ F_X7_order z M = some (r, ms_thrown M 0) := by
    have q1 : cg_mb C = 0 ↔ b = 0 := by rw [e2, j0, J_eq ⟨by omega, by omega⟩ b30]
    have q2 : cg_mc C = 0 ↔ c = 0 := by rw [e3, j0, J_eq ⟨by omega, by omega⟩ b30]
    have q3 : mg_b0 (ms_thrown M 0) = 0 ↔ b = 0 := by rw [show mg_b0 (ms_thrown M 0) = mg_b0 M from rfl, f2, l0, L_eq ⟨by omega, by omega⟩ b60]
    have q4 : mg_c0 (ms_thrown M 0) = 0 ↔ c = 0 := by rw [show mg_c0 (ms_thrown M 0) = mg_c0 M from rfl, f3, l0, L_eq ⟨by omega, by omega⟩ b60]
    have q5 : cg_ma C = 1 ↔ a = 1 := by rw [e1, j1, J_eq ⟨by omega, by omega⟩ ⟨by decide, by decide⟩]
    have pow : ∃ r, G_X2_fewestPowers_28 z C = some (r, C) ∧ G_X7_order_56 z (L (a + d)) (ms_thrown M 0) = some (r, ms_thrown M 0) := by
      unfold G_X2_fewestPowers_28 G_X7_order_56
      rw [trace_ok z ha hd e1 e4, bd2_some]
      by_cases c1 : L (a + d) = 0
      · rw [if_pos c1, if_pos c1]; exact ⟨_, rfl, rfl⟩
      · rw [if_neg c1, if_neg c1]
        by_cases c2 : L (a + d) = 1
        · rw [if_pos c2, if_pos c2]; exact ⟨_, rfl, rfl⟩
        · rw [if_neg c2, if_neg c2]
          by_cases c3 : L (a + d) = -1
          · rw [if_pos c3, if_pos c3]; exact ⟨_, rfl, rfl⟩
          · rw [if_neg c3, if_neg c3]; exact ⟨_, rfl, rfl⟩
    obtain ⟨r, p1, p2⟩ := pow
    unfold F_X6_order F_X2_fewestPowers F_X7_order
    simp only [Option.bind_some]
    rw [show mg_a0 (ms_thrown M 0) = mg_a0 M from rfl, show mg_d0 (ms_thrown M 0) = mg_d0 M from rfl, f1, f4, L_add]
    by_cases c1 : b = 0
    · rw [if_pos (q1.mpr c1), if_pos (q3.mpr c1)]
      by_cases c2 : c = 0
      · rw [if_pos (q2.mpr c2), if_pos (q4.mpr c2)]
        subst c1
        rcases sq1 (a := a) (d := d) (by rw [← hdet]; simp) with ⟨rfl, rfl⟩ | ⟨rfl, rfl⟩
        · rw [if_pos (q5.mpr rfl)]
          exact ⟨1, rfl, by rw [size_ok z ⟨by decide, by decide⟩]; rfl⟩
        · rw [if_neg (fun h => absurd (q5.mp h) (by decide))]
          exact ⟨2, rfl, by rw [size_ok z ⟨by decide, by decide⟩]; rfl⟩
      · rw [if_neg (fun h => c2 (q2.mp h)), if_neg (fun h => c2 (q4.mp h)), p1, p2]
        exact ⟨r, rfl, rfl⟩
    · rw [if_neg (fun h => c1 (q1.mp h)), if_neg (fun h => c1 (q3.mp h)), p1, p2]
      exact ⟨r, rfl, rfl⟩
  obtain ⟨r, g1, g2⟩ := goal
  exact ok_T g1 g2 (Inv_thrown hI)
/-! phi -/
theorem det_cop {a b c d : Int} (h : a * d - b * c = 1) : Int.gcd d c = 1 := by
  have d1 := Int.gcd_dvd_left d c
  have d2 := Int.gcd_dvd_right d c
  have d3 : (Int.gcd d c : Int) ∣ 1 := by
    rw [← h]
    exact Int.dvd_sub (Int.dvd_mul_of_dvd_right d1) (Int.dvd_mul_of_dvd_right d2)
  have d4 : Int.gcd d c ∣ 1 := Int.natCast_dvd_natCast.mp d3
  exact Nat.dvd_one.mp d4
theorem phi_ok {z : Nat} (hz : 200 ≤ z) {C : CS} {M : MS} {a b c d : Int} (ha : a.natAbs ≤ 1000000000) (hb : b.natAbs ≤ 1000000000) (hc : c.natAbs ≤ 1000000000) (hd : d.natAbs ≤ 1000000000) (hdet : a * d - b * c = 1) (e1 : cg_ma C = J a) (e2 : cg_mb C = J b) (e3 : cg_mc C = J c) (e4 : cg_md C = J d) (f1 : mg_a0 M = L a) (f2 : mg_b0 M = L b) (f3 : mg_c0 M = L c) (f4 : mg_d0 M = L d) : ∃ v : Int, v.natAbs ≤ 1000000010000000000 ∧ F_X2_companion z C = some (L v, C) ∧ F_X7_phi z M = some (L v, M) := by
  unfold F_X2_companion F_X7_phi
  have q2 : cg_mc C = 0 ↔ c = 0 := by rw [e3, j0, J_eq ⟨by omega, by omega⟩ b30]
  have q4 : mg_c0 M = 0 ↔ c = 0 := by rw [f3, l0, L_eq ⟨by omega, by omega⟩ b60]
  by_cases c0 : c = 0
  · rw [if_pos (q2.mpr c0), if_pos (q4.mpr c0), e2, e4, f2, f4, J_L ⟨by omega, by omega⟩, J_L ⟨by omega, by omega⟩, L_mul]
    have := nm hb hd
    exact ⟨_, by omega, rfl, rfl⟩
  · rw [if_neg (fun h => c0 (q2.mp h)), if_neg (fun h => c0 (q4.mp h)), e3, J_L ⟨by omega, by omega⟩, abs_ok ⟨by omega, by omega⟩, f3, size_ok z ⟨by omega, by omega⟩, trace_ok z ha hd e1 e4]
    simp only [Option.bind_some, bd2_some]
    have hn : (0 : Nat) < c.natAbs := by omega
    have hcop : Int.gcd d (c.natAbs : Int) = 1 := by
      have := det_cop hdet
      rw [Int.gcd] at this ⊢
      rw [Int.natAbs_natCast]
      exact this
    have tb := Tw_bd (h := d) (k := c.natAbs) hn (by omega)
    have tb2 : c.natAbs * (c.natAbs + 5) ≤ 1000000000 * 1000000005 := Nat.mul_le_mul hc (by omega)
    rw [e4, J_L ⟨by omega, by omega⟩, twelfths_ok hz ⟨by omega, by omega⟩ hn (by omega), f4, twelve_ok hz ⟨by omega, by omega⟩ hn (by omega) hcop, f1, L_add]
    simp only [Option.bind_some]
    have nL : ¬ L c = 0 := by rw [l0, L_eq ⟨by omega, by omega⟩ b60]; exact c0
    rw [if_neg (L_ne0 (by omega) (by omega)), if_neg nL, L_sub, L_div ⟨by omega, by omega⟩ ⟨by omega, by omega⟩, L_div ⟨by omega, by omega⟩ ⟨by omega, by omega⟩, e3]
    have hle : ∀ w : Int, ((a + d - Tw d c.natAbs).tdiv w).natAbs ≤ (a + d - Tw d c.natAbs).natAbs := fun w => by
      rw [Int.natAbs_tdiv]
      exact Nat.div_le_self _ _
    by_cases c1 : 0 ≤ c
    · rw [if_pos (by rw [j0, J_le b30 ⟨by omega, by omega⟩]; exact c1)]
      rw [show ((c.natAbs : Nat) : Int) = c by omega] at *
      exact ⟨_, by have := hle c; omega, rfl, rfl⟩
    · rw [if_neg (by rw [j0, J_le b30 ⟨by omega, by omega⟩]; exact c1), L_neg]
      have ec : c = -((c.natAbs : Nat) : Int) := by omega
      refine ⟨_, ?_, rfl, ?_⟩
      · have := hle (c.natAbs : Int); omega
      · conv => lhs; rw [ec]
        rw [Int.tdiv_neg, Int.natAbs_neg, Int.natAbs_natCast]
def sg (v : Int) : Int := if 0 < v then 1 else if v < 0 then -1 else 0
theorem signOf_ok (z : Nat) {v : Int} (hv : B6 v) : F_X7_signOf z (L v) = some (L (sg v)) := by
  unfold F_X7_signOf sg
  rw [l0]
  by_cases c1 : 0 < v
  · rw [if_neg (by rw [L_le hv b60]; omega), if_pos c1]; rfl
  · rw [if_pos (by rw [L_le hv b60]; omega), if_neg c1]
    by_cases c2 : v < 0
    · rw [if_neg (by rw [L_le b60 hv]; omega), if_pos c2]; rfl
    · rw [if_pos (by rw [L_le b60 hv]; omega), if_neg c2]
theorem sg_mul (a b : Int) : sg (a * b) = sg a * sg b := by
  unfold sg
  rcases Int.lt_trichotomy a 0 with h1 | h1 | h1 <;> rcases Int.lt_trichotomy b 0 with h2 | h2 | h2
  · have := Int.mul_pos_of_neg_of_neg h1 h2
    rw [if_pos this, if_neg (by omega), if_pos h1, if_neg (by omega), if_pos h2]; rfl
  · subst h2; simp
  · have := Int.mul_neg_of_neg_of_pos h1 h2
    rw [if_neg (by omega), if_pos this, if_neg (by omega), if_pos h1, if_pos h2]; rfl
  · subst h1; simp
  · subst h1; simp
  · subst h1; simp
  · have := Int.mul_neg_of_pos_of_neg h1 h2
    rw [if_neg (by omega), if_pos this, if_pos h1, if_neg (by omega), if_pos h2]; rfl
  · subst h2; simp
  · have := Int.mul_pos h1 h2
    rw [if_pos this, if_pos h1, if_pos h2]; rfl
theorem signum_ok (z : Nat) {v : Int} (hv : B6 v) (hm : v ≠ -9223372036854775808) : F_J13_signum_95d88 z (L v) = some (J (sg v)) := by
  have a1 : (L v >>> (Int32.toInt64 (63 : Int32) &&& 63)).toInt = v / 9223372036854775808 := by
    rw [Jvm.Kit.i64_shr (L v) _ (k := 63) (by decide +kernel), L_toInt hv]; rfl
  have sh : (Int64.toUInt64 (Int32.toInt64 (63 : Int32)) &&& Int64.toUInt64 63) = 63 := by decide +kernel
  unfold F_J13_signum_95d88
  rw [sh, L_neg]
  rcases Int.lt_trichotomy v 0 with h | h | h
  · have x1 : L v >>> (Int32.toInt64 (63 : Int32) &&& 63) = -1 := Int64.toInt_inj.mp (by rw [a1]; have := hv.1; show v / 9223372036854775808 = -1; omega)
    have x2 : ((L (-v)).toUInt64 >>> (63 : UInt64)).toInt64 = 0 := Int64.toInt_inj.mp (by
      rw [Jvm.Kit.i64_lushr (by rw [l0, L_le b60 ⟨by omega, by have := hv.1; omega⟩]; omega) (k := 63) rfl (by decide), L_toInt ⟨by omega, by have := hv.1; omega⟩]
      have := hv.1
      show -v / 9223372036854775808 = 0
      omega)
    rw [x1, x2, show sg v = -1 by unfold sg; rw [if_neg (by omega), if_pos h]]
    decide +kernel
  · subst h
    decide +kernel
  · have x1 : L v >>> (Int32.toInt64 (63 : Int32) &&& 63) = 0 := Int64.toInt_inj.mp (by rw [a1]; have := hv.2; show v / 9223372036854775808 = 0; omega)
    have x2 : ((L (-v)).toUInt64 >>> (63 : UInt64)).toInt64 = 1 := by
      have n1 : (L (-v)).toUInt64.toNat = 18446744073709551616 - v.toNat := by
        have t1 := L_toInt (v := -v) ⟨by have := hv.2; omega, by omega⟩
        have t2 : (L (-v)).toInt = (L (-v)).toBitVec.toInt := rfl
        rw [t2, BitVec.toInt_eq_toNat_cond] at t1
        have t3 := (L (-v)).toBitVec.isLt
        show (L (-v)).toBitVec.toNat = _
        split at t1 <;> omega
      have n2 : ((L (-v)).toUInt64 >>> (63 : UInt64)) = 1 := UInt64.toNat_inj.mp (by
        rw [UInt64.toNat_shiftRight, n1]
        show (18446744073709551616 - v.toNat) >>> 63 = 1
        rw [Nat.shiftRight_eq_div_pow]
        have := hv.2
        omega)
      rw [n2]; rfl
    rw [x1, x2, show sg v = 1 by unfold sg; rw [if_pos h]]
    decide +kernel
theorem sg3 (v : Int) : B3 (sg v) := by
  unfold sg B3
  split
  · constructor <;> decide
  · split <;> constructor <;> decide
theorem phi1_ok {z : Nat} {C : CS} {M : MS} {a c d v : Int} (ha : a.natAbs ≤ 1000000000) (hc : c.natAbs ≤ 1000000000) (hd : d.natAbs ≤ 1000000000) (e1 : cg_ma C = J a) (e3 : cg_mc C = J c) (e4 : cg_md C = J d) (f1 : mg_a0 M = L a) (f3 : mg_c0 M = L c) (f4 : mg_d0 M = L d) (v1 : F_X2_companion z C = some (L v, C)) (v2 : F_X7_phi z M = some (L v, M)) :
    (bd2 (F_X2_companion z C) fun r5 S6 => bd2 (F_X2_trace z S6) fun r7 S8 => (F_J13_signum_95d88 z (Int32.toInt64 (cg_mc S6) * r7)).bind fun r9 => some (r5 - 3 * Int32.toInt64 r9, S8)) = some (L v - L 3 * L (sg (c * (a + d))), C) ∧
    (bd2 (F_X7_phi z M) fun r4 S5 => (F_X7_signOf z (mg_c0 S5)).bind fun r6 => (F_X7_signOf z (mg_a0 S5 + mg_d0 S5)).bind fun r7 => some (r4 - 3 * r6 * r7, S5)) = some (L v - L 3 * L (sg (c * (a + d))), M) := by
  have w : (c * (a + d)).natAbs ≤ 1000000000 * 2000000000 := nm hc (by omega)
  have b1 : B6 (c * (a + d)) := ⟨by omega, by omega⟩
  constructor
  · rw [v1, bd2_some, trace_ok z ha hd e1 e4, bd2_some, e3, J_L ⟨by omega, by omega⟩, L_mul, signum_ok z b1 (by omega), Option.bind_some, J_L (sg3 _), l3]
  · rw [v2, bd2_some, f1, f3, f4, L_add, signOf_ok z ⟨by omega, by omega⟩, Option.bind_some, signOf_ok z ⟨by omega, by omega⟩, Option.bind_some, sg_mul, l3, Int64.mul_assoc, L_mul (sg c)]
theorem phi_eq {z : Nat} (hz : 200 ≤ z) (x1 : Int32) {C : CS} {M : MS} {a b c d : Int} (ha : a.natAbs ≤ 1000000000) (hb : b.natAbs ≤ 1000000000) (hc : c.natAbs ≤ 1000000000) (hd : d.natAbs ≤ 1000000000) (hdet : a * d - b * c = 1) (e1 : cg_ma C = J a) (e2 : cg_mb C = J b) (e3 : cg_mc C = J c) (e4 : cg_md C = J d) (f1 : mg_a0 M = L a) (f2 : mg_b0 M = L b) (f3 : mg_c0 M = L c) (f4 : mg_d0 M = L d) : ∃ r, F_X6_phi z x1 C = some (r, C) ∧ F_X7_phi_ z x1 M = some (r, ms_thrown M 0) := by
  obtain ⟨v, v0, v1, v2⟩ := phi_ok hz (M := ms_thrown M 0) ha hb hc hd hdet e1 e2 e3 e4 f1 f2 f3 f4
  have p1 := phi1_ok (z := z) (M := ms_thrown M 0) ha hc hd e1 e3 e4 f1 f3 f4 v1 v2
  unfold F_X6_phi F_X7_phi_
  rw [Option.bind_some]
  by_cases c0 : x1 = 0
  · rw [if_pos c0, if_pos c0, v1, v2, bd2_some, bd2_some]
    exact ⟨_, rfl, rfl⟩
  · rw [if_neg c0, if_neg c0]
    by_cases c1 : x1 = 1
    · rw [if_pos c1, if_pos c1, p1.1, p1.2]
      exact ⟨_, rfl, rfl⟩
    · rw [if_neg c1, if_neg c1]
      exact ⟨_, rfl, rfl⟩
theorem lc19_ok {z : Nat} (hz : 200 ≤ z) (x1 x2 x3 x4 x5 : Int32) {C : CS} {M : MS} {lt : Int64 × Int64} (hI : Inv C M lt) : Okc (lc19 z x1 x2 x3 x4 x5 C M lt) := by
  obtain ⟨a, b, c, d, ha, hb, hc, hd, hdet, e1, e2, e3, e4, f1, f2, f3, f4⟩ := Inv_mat hI
  obtain ⟨r, g1, g2⟩ := phi_eq hz x1 ha hb hc hd hdet e1 e2 e3 e4 f1 f2 f3 f4
  exact ok_T g1 g2 (Inv_thrown hI)
