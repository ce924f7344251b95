/-! the invariant of a run -/
def kC (C : CS) : Int32 × Int32 × Int32 × Int32 × (Nat → Int32) × Int32 × Int32 × Int32 := (cg_ma C, cg_mb C, cg_mc C, cg_md C, cg_tape C, cg_tapeLength C, cg_sumsTold C, cg_inLatest C)
def kM (M : MS) : Int64 × Int64 × Int64 × Int64 × (Nat → Int32) × Int32 × Int32 × Int32 × Int64 × Int64 := (mg_a0 M, mg_b0 M, mg_c0 M, mg_d0 M, mg_tape M, mg_taped M, mg_sums M, mg_often M, mg_toldUp M, mg_toldUnder M)
def InvK (c : Int32 × Int32 × Int32 × Int32 × (Nat → Int32) × Int32 × Int32 × Int32) (m : Int64 × Int64 × Int64 × Int64 × (Nat → Int32) × Int32 × Int32 × Int32 × Int64 × Int64) (lt : Int64 × Int64) : Prop :=
  (∃ a b d e : Int, a.natAbs ≤ 1000000000 ∧ b.natAbs ≤ 1000000000 ∧ d.natAbs ≤ 1000000000 ∧ e.natAbs ≤ 1000000000 ∧ a * e - b * d = 1 ∧ c.1 = J a ∧ c.2.1 = J b ∧ c.2.2.1 = J d ∧ c.2.2.2.1 = J e ∧ m.1 = L a ∧ m.2.1 = L b ∧ m.2.2.1 = L d ∧ m.2.2.2.1 = L e) ∧
  (∃ t : Nat, t ≤ 300 ∧ c.2.2.2.2.2.1 = J t ∧ m.2.2.2.2.2.1 = J t) ∧ c.2.2.2.2.1 = m.2.2.2.2.1 ∧ (∀ i, -128 ≤ (m.2.2.2.2.1 i).toInt ∧ (m.2.2.2.2.1 i).toInt ≤ 127) ∧ c.2.2.2.2.2.2.1 = m.2.2.2.2.2.2.1 ∧ c.2.2.2.2.2.2.2 = m.2.2.2.2.2.2.2.1 ∧ lt = m.2.2.2.2.2.2.2.2
def Inv (C : CS) (M : MS) (lt : Int64 × Int64) : Prop := InvK (kC C) (kM M) lt
def Okc (o : Option LSt) : Prop := ∃ C' M' lt', o = some (C', M', lt') ∧ Inv C' M' lt'
theorem ok_N {C : CS} {M M1 : MS} {lt : Int64 × Int64} {F : Option Int64} {G : Option (Int64 × MS)} {r : Int64} (hI : Inv C M lt) (h1 : F = some r) (h2 : G = some (r, M1)) (h3 : kM M1 = kM M) : Okc (F.bind fun r => bd2 G fun q M1 => if r = q then some (C, M1, lt) else none) := by
  refine ⟨C, M1, lt, ?_, ?_⟩
  · rw [h1, h2, Option.bind_some]
    show (if r = r then some (C, M1, lt) else none) = _
    rw [if_pos rfl]
  · unfold Inv; rw [h3]; exact hI
theorem ok_S {α : Type} [DecidableEq α] {C C1 : CS} {M M1 : MS} {lt : Int64 × Int64} {F : Option (α × CS)} {G : Option (α × MS)} {r : α} (hI : Inv C M lt) (h1 : F = some (r, C1)) (h2 : G = some (r, M1)) (h3 : kC C1 = kC C) (h4 : kM M1 = kM M) : Okc (bd2 F fun r C1 => bd2 G fun q M1 => if r = q then some (C1, M1, lt) else none) := by
  refine ⟨C1, M1, lt, ?_, ?_⟩
  · rw [h1, h2]
    show (if r = r then some (C1, M1, lt) else none) = _
    rw [if_pos rfl]
  · unfold Inv; rw [h3, h4]; exact hI
theorem B36 {v : Int} (h : B3 v) : B6 v := ⟨by have := h.1; omega, by have := h.2; omega⟩
theorem liesI (z : Nat) {v lo hi : Int} (h : B3 v) (hl : B6 lo) (hh : B6 hi) : F_X6_lies z (Int32.toInt64 (J v)) (L lo) (L hi) = some (if lo ≤ v ∧ v ≤ hi then 1 else 0) := by rw [J_L h]; exact lies_ok z (B36 h) hl hh
theorem isinI (z : Nat) {v lo hi : Int} (h : B3 v) (hl : B6 lo) (hh : B6 hi) : F_X7_isIn z (Int32.toInt64 (J v)) (L lo) (L hi) = some (if lo ≤ v ∧ v ≤ hi then 1 else 0) := by rw [J_L h]; exact isin_ok z (B36 h) hl hh
theorem lG : (1000000000 : Int64) = L 1000000000 := by decide +kernel
theorem lGm : (-1000000000 : Int64) = L (-1000000000) := by decide +kernel
theorem bG : B6 1000000000 := ⟨by decide, by decide⟩
theorem bGm : B6 (-1000000000) := ⟨by decide, by decide⟩
theorem n10 : ¬ (1 : Int32) = 0 := by decide
/-! the sum of saws, side by side -/
theorem sums_ok {z : Nat} (hz : 200 ≤ z) {h : Int} (hh : h.natAbs ≤ 4611686018427387904) {k : Nat} (hk : 0 < k) (hk2 : k ≤ 1000000000) : ∃ u v, F_X1_ofSawSum z (L h) (L k) = some (L u, L v) ∧ (∀ S, F_X7_laysSum z (L h) (L k) S = some (ms_under (ms_up S (L u)) (L v))) ∧ Rd (Tw h k) (12 * (k : Int)) u v ∧ u.natAbs ≤ (Tw h k).natAbs ∧ v ≤ 12 * (k : Int) := by
  have hh6 : B6 h := ⟨by omega, by omega⟩
  have hk6 : B6 (k : Int) := ⟨by omega, by omega⟩
  have hb := Tw_bd (h := h) hk (by omega)
  have hb2 : k * (k + 5) ≤ 1000000000 * (1000000000 + 5) := Nat.mul_le_mul hk2 (by omega)
  have hg : 0 < Int.gcd h k := Int.gcd_pos_of_ne_zero_right h (by omega)
  have d1 := Int.mul_ediv_cancel_of_dvd (Int.gcd_dvd_left h k)
  have d2 := Int.mul_ediv_cancel_of_dvd (Int.gcd_dvd_right h k)
  have hgk : (Int.gcd h k : Int) ≤ k := Int.le_of_dvd (by omega) (Int.gcd_dvd_right h k)
  have hv : 0 < (k : Int) / (Int.gcd h k : Int) := by
    have := (Rd_gcd (a := h) (b := (k : Int)) (by omega)).1.1
    exact this
  have hcop := (Rd_gcd (a := h) (b := (k : Int)) (by omega)).1.2.1
  have hle := (Rd_gcd (a := h) (b := (k : Int)) (by omega)).2.2.1
  have hla := (Rd_gcd (a := h) (b := (k : Int)) (by omega)).2.1
  have q1 : L h / L (Int.gcd h k : Int) = L (h / (Int.gcd h k : Int)) := div_dvd hh6 hg (by omega) (Int.gcd_dvd_left h k)
  have q2 : L (k : Int) / L (Int.gcd h k : Int) = L ((k : Int) / (Int.gcd h k : Int)) := div_dvd hk6 hg (by omega) (Int.gcd_dvd_right h k)
  have q0 : ¬ L (Int.gcd h k : Int) = 0 := L_ne0 (by omega) (by omega)
  have qc := common_ok hz hh6 hk6 (by omega) (by omega)
  generalize Int.gcd h k = g at *
  generalize h / (g : Int) = h' at *
  obtain ⟨k', hk'⟩ : ∃ k' : Nat, (k : Int) / (g : Int) = (k' : Int) := ⟨((k : Int) / (g : Int)).toNat, by omega⟩
  rw [hk'] at q2 d2 hv hcop hle
  have hkk : k = g * k' := by
    have : ((g * k' : Nat) : Int) = (k : Int) := by rw [Int.natCast_mul]; exact d2
    omega
  have hT : Tw h k = (g : Int) * Tw h' k' := by rw [← d1, hkk]; exact Tw_scale g hg h' k' (by omega)
  have hb3 := Tw_bd (h := h') (k := k') (by omega) (by omega)
  have hb4 : k' * (k' + 5) ≤ 1000000000 * (1000000000 + 5) := Nat.mul_le_mul (by omega) (by omega)
  obtain ⟨u, v, h1, h2, h3, h4, h5, h6, h7⟩ := frac_ok hz (a := Tw h k) (b := 12 * (k : Int)) (c := Tw h' k') (d := 12 * (k' : Int)) (n := 1000000000 * (1000000000 + 5)) (m := 1000000000 * (1000000000 + 5)) (by omega) (by decide) (by omega) (by omega) (by omega) (by decide) (by omega) (by omega) (by rw [hT, ← d2]; grind)
  refine ⟨u, v, ?_, ?_, h3, h4, h5⟩
  · unfold F_X1_ofSawSum
    rw [twelfths_ok hz hh6 hk (by omega), Option.bind_some, l12, L_mul, h1, Option.bind_some]
  · intro S
    unfold F_X7_laysSum
    rw [qc, Option.bind_some, if_neg q0, if_neg q0, q1, q2, twelve_ok hz ⟨by omega, by omega⟩ (by omega) (by omega) (by rw [Int.gcd]; exact hcop), Option.bind_some, if_neg q0, l12, L_mul, h2, Option.bind_some]
theorem part_0 (z : Nat) (u v : Int64) : F_X1_part z (u, v) 0 = some u := rfl
theorem part_1 (z : Nat) (u v : Int64) {x : Int32} (h : ¬ x = 0) : F_X1_part z (u, v) x = some v := by unfold F_X1_part; rw [if_neg h]
theorem lat_0 (z : Nat) (S : MS) : F_X7_latest z 0 S = some (mg_up S, S) := rfl
theorem lat_1 (z : Nat) (S : MS) {x : Int32} (h : ¬ x = 0) : F_X7_latest z x S = some (mg_under S, S) := by unfold F_X7_latest; rw [if_neg h]
/-- the end of the calls that answer a part of a fraction -/
theorem part_ok (z : Nat) (x : Int32) (u v : Int64) (S M : MS) (h : kM S = kM M) (h1 : mg_up S = u) (h2 : mg_under S = v) : ∃ r M1, F_X1_part z (u, v) x = some r ∧ F_X7_latest z x S = some (r, M1) ∧ kM M1 = kM M := by
  by_cases hx : x = 0
  · subst hx
    exact ⟨u, S, rfl, by rw [lat_0, h1], h⟩
  · exact ⟨v, S, part_1 z u v hx, by rw [lat_1 z S hx, h2], h⟩
theorem no_number (z : Nat) (M : MS) : kM (ms_thrown M 0) = kM M := rfl
theorem sum_eq {z : Nat} (hz : 200 ≤ z) (M : MS) (x1 x2 x3 : Int32) : ∃ r M1, F_X6_sum z x1 x2 x3 = some r ∧ F_X7_sum z x1 x2 x3 M = some (r, M1) ∧ kM M1 = kM M := by
  obtain ⟨h, hh, rfl⟩ := J_of x1
  obtain ⟨k, hk, rfl⟩ := J_of x2
  have e1 : F_X6_lies z (Int32.toInt64 (J k)) (1 : Int64) (1000000000 : Int64) = some (if 1 ≤ k ∧ k ≤ 1000000000 then 1 else 0) := by rw [lG, l1]; exact liesI z hk b61 bG
  have e2 : F_X7_isIn z (Int32.toInt64 (J k)) (1 : Int64) (1000000000 : Int64) = some (if 1 ≤ k ∧ k ≤ 1000000000 then 1 else 0) := by rw [lG, l1]; exact isinI z hk b61 bG
  unfold F_X6_sum F_X7_sum
  simp only [e1, e2, Option.bind_some]
  by_cases c : 1 ≤ k ∧ k ≤ 1000000000
  · rw [if_pos c, if_neg n10, if_neg n10, J_L hh, J_L hk]
    obtain ⟨n, rfl⟩ : ∃ n : Nat, k = n := ⟨k.toNat, by omega⟩
    obtain ⟨u, v, h1, h2, h3, h4, h5⟩ := sums_ok hz (h := h) (by have := hh.1; have := hh.2; omega) (k := n) (by omega) (by omega)
    rw [h1, h2, Option.bind_some, Option.bind_some]
    obtain ⟨r, M1, g1, g2, g3⟩ := part_ok z x3 (L u) (L v) (ms_under (ms_up (ms_thrown M 0) (L u)) (L v)) M rfl rfl rfl
    rw [g1, g2]
    exact ⟨r, M1, rfl, rfl, g3⟩
  · rw [if_neg c, if_pos rfl, if_pos rfl]
    exact ⟨_, _, rfl, rfl, rfl⟩
theorem lc1_ok {z : Nat} (hz : 200 ≤ z) (x1 x2 x3 x4 x5 : Int32) {C : CS} {M : MS} {lt : Int64 × Int64} (hI : Inv C M lt) : Okc (lc1 z x1 x2 x3 x4 x5 C M lt) := by
  obtain ⟨r, M1, h1, h2, h3⟩ := sum_eq hz M x1 x2 (bo x3)
  exact ok_N hI h1 h2 h3
