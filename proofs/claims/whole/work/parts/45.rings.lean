/-! rings, twins -/
def Rr (p : Nat) (C : CS) (M : MS) (cnt : Nat) : Prop := cg_cmany C = J cnt ∧ ∀ i, i < cnt → ∃ a : Nat, 0 < a ∧ a < p ∧ Int.gcd (a : Int) p = 1 ∧ cg_numbers C i = J a ∧ mg_row M i = L a ∧ cg_sizes C i = L ((Tw a p).natAbs : Int)
theorem half2 {p : Nat} (hp : (p : Int) < 2147483648) : J p / (2 : Int32) = J ((p / 2 : Nat) : Int) := J_natdiv (b := 2) hp (by decide)
/-- what both do at q: either both pass it by, or both lay it down -/
theorem ring_step {z : Nat} (hz : 2000 ≤ z) {p q cnt : Nat} (hp : 2 ≤ p) (hp2 : p ≤ 1000) (hq : 1 ≤ q) (hqp : 2 * q ≤ p) (hc : cnt < q) {C : CS} {M : MS} (hR : Rr p C M cnt) : ∃ (C' : CS) (M' : MS) (cnt' : Nat), (∀ n, G_X0_gather_7 z (n + 1) (J p) (J q) C = G_X0_gather_7 z n (J p) (J ((q + 1 : Nat) : Int)) C') ∧ (∀ n, G_X7_laysRings_4 z (n + 1) (J p) (J cnt) (J q) M = G_X7_laysRings_4 z n (J p) (J cnt') (J ((q + 1 : Nat) : Int)) M') ∧ Rr p C' M' cnt' ∧ cnt' < q + 1 ∧ kC C' = kC C ∧ kM M' = kM M := by
  obtain ⟨hm, hrow⟩ := hR
  have a1 : ¬ (J p / (2 : Int32)) < J q := by
    rw [half2 (by omega), J_lt ⟨by omega, by omega⟩ ⟨by omega, by omega⟩]
    omega
  have a2 : ¬ (500 : Int32) ≤ cg_cmany C := by rw [hm, show (500 : Int32) = J 500 from rfl, J_le ⟨by decide, by decide⟩ ⟨by omega, by omega⟩]; omega
  have a3 : ¬ J p ≤ J q := by rw [J_le ⟨by omega, by omega⟩ ⟨by omega, by omega⟩]; omega
  have bq : B3 (q : Int) := ⟨by omega, by omega⟩
  have bp : B3 (p : Int) := ⟨by omega, by omega⟩
  have ir := (isRing_ok (z := z) (by omega) bp bq).1
  have cm := common_ok (z := z) (by omega) (B36 bp) (B36 bq) (by omega) (by omega)
  have hgl := Int.le_of_dvd (by omega) (Int.gcd_dvd_right (q : Int) p)
  rw [Int.gcd_comm] at cm
  have key : L (Int.gcd (q : Int) p : Nat) = 1 ↔ Int.gcd (q : Int) p = 1 := by rw [l1, L_eq ⟨by omega, by omega⟩ b61]; omega
  have eq1 : J q + (1 : Int32) = J ((q + 1 : Nat) : Int) := by rw [j1, J_add]; rfl
  by_cases g : Int.gcd (q : Int) p = 1
  · obtain ⟨v, v1, v2, v3, v4, v5, v6⟩ := least_ok hz hp hp2 bq g
    rw [if_pos ⟨by omega, g⟩] at ir
    by_cases c : v = q
    · subst c
      have tw := twelfths_ok (z := z) (by omega) (h := (q : Int)) ⟨by omega, by omega⟩ (k := p) (by omega) (by omega)
      have tb := Tw_bd (h := (q : Int)) (k := p) (by omega) (by omega)
      have tb2 : p * (p + 5) ≤ 1000 * 1005 := Nat.mul_le_mul hp2 (by omega)
      refine ⟨cs_cmany (cs_sizes (cs_numbers C (upd (cg_numbers C) cnt (J q))) (vp_updL (cg_sizes C) cnt (L ((Tw q p).natAbs : Int)))) (J ((cnt + 1 : Nat) : Int)), ms_row M (vp_updL (mg_row M) cnt (L q)), cnt + 1, ?_, ?_, ⟨rfl, ?_⟩, by omega, rfl, rfl⟩
      · intro n
        have b1 : ib (cg_cmany C) 500 = true := by rw [hm]; exact ibJ (by omega) (by decide)
        rw [e_X0_gather_7, if_neg a1, if_neg a2, if_neg a2, ir, Option.bind_some, if_neg n10, v5, Option.bind_some, if_pos rfl, if_pos b1]
        simp only [Option.bind_some]
        rw [J_L bq, J_L bp, tw]
        simp only [Option.bind_some]
        have b2 : ib (cg_cmany (cs_numbers C (upd (cg_numbers C) (cg_cmany C).toNatClampNeg (J q)))) 500 = true := b1
        rw [if_pos b2, eq1, abs_ok ⟨by omega, by omega⟩]
        show G_X0_gather_7 z n (J p) (J ((q + 1 : Nat) : Int)) (cs_cmany (cs_sizes (cs_numbers C (upd (cg_numbers C) (cg_cmany C).toNatClampNeg (J q))) (vp_updL (cg_sizes C) (cg_cmany C).toNatClampNeg (L ((Tw q p).natAbs : Int)))) (cg_cmany C + 1)) = _
        rw [hm, clampJ (by omega), j1, J_add]
        rfl
      · intro n
        have b1 : ib (J cnt) 1000 = true := ibJ (by omega) (by decide)
        rw [e_X7_laysRings_4, if_neg a3, J_L bp, J_L bq, cm, Option.bind_some, if_pos (key.mpr g), v6, Option.bind_some, if_pos rfl, if_pos b1]
        simp only [Option.bind_some]
        rw [eq1, clampJ (by omega), j1, J_add]
        rfl
      · intro i hi
        by_cases h : i = cnt
        · subst h
          exact ⟨q, by omega, by omega, g, if_pos rfl, if_pos rfl, if_pos rfl⟩
        · obtain ⟨a, h1, h2, h3, h4, h5, h6⟩ := hrow i (by omega)
          exact ⟨a, h1, h2, h3, (if_neg h).trans h4, (if_neg h).trans h5, (if_neg h).trans h6⟩
    · have nv : ¬ J v = J q := by rw [J_eq ⟨by omega, by omega⟩ bq]; exact c
      refine ⟨C, M, cnt, ?_, ?_, ⟨hm, hrow⟩, by omega, rfl, rfl⟩
      · intro n
        rw [e_X0_gather_7, if_neg a1, if_neg a2, if_neg a2, ir, Option.bind_some, if_neg n10, v5, Option.bind_some, if_neg nv, Option.bind_some, eq1]
      · intro n
        rw [e_X7_laysRings_4, if_neg a3, J_L bp, J_L bq, cm, Option.bind_some, if_pos (key.mpr g), v6, Option.bind_some, if_neg nv, Option.bind_some, eq1]
  · rw [if_neg (fun h => g h.2)] at ir
    refine ⟨C, M, cnt, ?_, ?_, ⟨hm, hrow⟩, by omega, rfl, rfl⟩
    · intro n
      rw [e_X0_gather_7, if_neg a1, if_neg a2, if_neg a2, ir, Option.bind_some, if_pos rfl, Option.bind_some, eq1]
    · intro n
      rw [e_X7_laysRings_4, if_neg a3, J_L bp, J_L bq, cm, Option.bind_some, if_neg (fun h => g (key.mp h)), Option.bind_some, eq1]
theorem ring_loop {z : Nat} (hz : 2000 ≤ z) {p : Nat} (hp : 2 ≤ p) (hp2 : p ≤ 1000) (d : Nat) : ∀ (q cnt n : Nat) (C : CS) (M : MS), q + d = p / 2 + 1 → 1 ≤ q → cnt < q → d + 1 ≤ n → Rr p C M cnt → ∃ (C' : CS) (M' : MS) (cnt' : Nat), G_X0_gather_7 z n (J p) (J q) C = some C' ∧ (∀ e, G_X7_laysRings_4 z (e + d) (J p) (J cnt) (J q) M = G_X7_laysRings_4 z e (J p) (J cnt') (J ((p / 2 + 1 : Nat) : Int)) M') ∧ Rr p C' M' cnt' ∧ cnt' < p / 2 + 1 ∧ kC C' = kC C ∧ kM M' = kM M := by
  induction d with
  | zero =>
    intro q cnt n C M h1 h2 h3 hn hR
    obtain ⟨n, rfl⟩ : ∃ w, n = w + 1 := ⟨n - 1, by omega⟩
    have hq : q = p / 2 + 1 := by omega
    subst hq
    refine ⟨C, M, cnt, ?_, fun e => rfl, hR, by omega, rfl, rfl⟩
    rw [e_X0_gather_7, if_pos]
    rw [half2 (by omega), J_lt ⟨by omega, by omega⟩ ⟨by omega, by omega⟩]
    omega
  | succ d ih =>
    intro q cnt n C M h1 h2 h3 hn hR
    obtain ⟨n, rfl⟩ : ∃ w, n = w + 1 := ⟨n - 1, by omega⟩
    obtain ⟨C1, M1, c1, s1, s2, s3, s4, s5, s6⟩ := ring_step hz hp hp2 h2 (by omega) h3 hR
    obtain ⟨C2, M2, c2, t1, t2, t3, t4, t5, t6⟩ := ih (q + 1) c1 n C1 M1 (by omega) (by omega) s4 (by omega) s3
    refine ⟨C2, M2, c2, by rw [s1, t1], fun e => ?_, t3, t4, t5.trans s5, t6.trans s6⟩
    rw [show e + (d + 1) = (e + d) + 1 by omega, s2, t2]
theorem ring_tail {z : Nat} (hz : 2000 ≤ z) {p : Nat} (hp : 2 ≤ p) (hp2 : p ≤ 1000) (M : MS) (cnt : Nat) (d : Nat) : ∀ (q n : Nat), q + d = p → p < 2 * q → d + 1 ≤ n → G_X7_laysRings_4 z n (J p) (J cnt) (J q) M = some (J cnt, M) := by
  induction d with
  | zero =>
    intro q n h1 h2 hn
    obtain ⟨n, rfl⟩ : ∃ w, n = w + 1 := ⟨n - 1, by omega⟩
    rw [e_X7_laysRings_4, if_pos (by rw [J_le ⟨by omega, by omega⟩ ⟨by omega, by omega⟩]; omega)]
  | succ d ih =>
    intro q n h1 h2 hn
    obtain ⟨n, rfl⟩ : ∃ w, n = w + 1 := ⟨n - 1, by omega⟩
    have bq : B3 (q : Int) := ⟨by omega, by omega⟩
    have bp : B3 (p : Int) := ⟨by omega, by omega⟩
    have a3 : ¬ J p ≤ J q := by rw [J_le bp bq]; omega
    have cm := common_ok (z := z) (by omega) (B36 bp) (B36 bq) (by omega) (by omega)
    have hgl := Int.le_of_dvd (by omega) (Int.gcd_dvd_right (q : Int) p)
    rw [Int.gcd_comm] at cm
    have key : L (Int.gcd (q : Int) p : Nat) = 1 ↔ Int.gcd (q : Int) p = 1 := by rw [l1, L_eq ⟨by omega, by omega⟩ b61]; omega
    have eq1 : J q + (1 : Int32) = J ((q + 1 : Nat) : Int) := by rw [j1, J_add]; rfl
    have nx := ih (q + 1) n (by omega) (by omega) (by omega)
    by_cases g : Int.gcd (q : Int) p = 1
    · obtain ⟨v, v1, v2, v3, v4, v5, v6⟩ := least_ok hz hp hp2 bq g
      have hmod : (q : Int) % (p : Int) = q := Int.emod_eq_of_lt (by omega) (by omega)
      rw [hmod] at v4
      have nv : ¬ J v = J q := by rw [J_eq ⟨by omega, by omega⟩ bq]; omega
      rw [e_X7_laysRings_4, if_neg a3, J_L bp, J_L bq, cm, Option.bind_some, if_pos (key.mpr g), v6, Option.bind_some, if_neg nv, Option.bind_some, eq1, nx]
    · rw [e_X7_laysRings_4, if_neg a3, J_L bp, J_L bq, cm, Option.bind_some, if_neg (fun h => g (key.mp h)), Option.bind_some, eq1, nx]
theorem gather_ok {z : Nat} (hz : 2000 ≤ z) {p : Nat} (hp : 2 ≤ p) (hp2 : p ≤ 1000) (C : CS) (M : MS) : ∃ (C' : CS) (M' : MS) (cnt : Nat), F_X0_gather z (J p) C = some C' ∧ F_X7_laysRings z (J p) M = some (J cnt, M') ∧ Rr p C' M' cnt ∧ cnt ≤ 500 ∧ kC C' = kC C ∧ kM M' = kM M := by
  obtain ⟨C', M', cnt, h1, h2, h3, h4, h5, h6⟩ := ring_loop hz hp hp2 (p / 2) 1 0 z (cs_cmany C 0) M (by omega) (by omega) (by omega) (by omega) ⟨rfl, fun i hi => absurd hi (by omega)⟩
  refine ⟨C', M', cnt, ?_, ?_, h3, by omega, h5, h6⟩
  · unfold F_X0_gather
    rw [Option.bind_some]
    exact h1
  · unfold F_X7_laysRings
    have h7 := h2 (z - p / 2)
    rw [show z - p / 2 + p / 2 = z by omega] at h7
    have h8 := ring_tail hz hp hp2 M' cnt (p - (p / 2 + 1)) (p / 2 + 1) (z - p / 2) (by omega) (by omega) (by omega)
    rw [h8] at h7
    exact h7
theorem lc25_ok {z : Nat} (hz : 2000 ≤ z) (x1 x2 x3 x4 x5 : Int32) {C : CS} {M : MS} {lt : Int64 × Int64} (hI : Inv C M lt) : Okc (lc25 z x1 x2 x3 x4 x5 C M lt) := by
  obtain ⟨p, hp, rfl⟩ := J_of x1
  obtain ⟨i, hi, rfl⟩ := J_of x2
  have goal : ∃ r C1 M1, F_X6_rings z (J p) (J i) C = some (r, C1) ∧ F_X7_rings z (J p) (J i) M = some (r, M1) ∧ kC C1 = kC C ∧ kM M1 = kM M := by
    unfold F_X6_rings F_X7_rings
    rw [lTh, l2, liesI z hp ⟨by decide, by decide⟩ bTh, Option.bind_some, isinI z hp ⟨by decide, by decide⟩ bTh]
    simp only [Option.bind_some]
    by_cases c : 2 ≤ p ∧ p ≤ 1000
    · rw [if_pos c, if_neg n10, if_neg n10]
      obtain ⟨p, rfl⟩ : ∃ n : Nat, p = n := ⟨p.toNat, by omega⟩
      obtain ⟨C1, M1, cnt, h1, h2, ⟨h3, h4⟩, h5, h6, h7⟩ := gather_ok hz (p := p) (by omega) (by omega) C (ms_thrown M 0)
      rw [h1, h2, Option.bind_some]
      simp only [bd2_some]
      unfold F_X0_numberAt
      have q1 : J i = -1 ↔ i = -1 := by rw [jm1, J_eq hi bm1]
      by_cases c1 : i = -1
      · rw [if_pos (q1.mpr c1), if_pos (q1.mpr c1), h3]
        exact ⟨_, C1, M1, rfl, rfl, h6, h7⟩
      · have er : F_X7_isIn z (Int32.toInt64 (J i)) (0 : Int64) (Int32.toInt64 (J cnt - 1)) = some (if 0 ≤ i ∧ i ≤ (cnt : Int) - 1 then 1 else 0) := by
          rw [j1, J_sub, J_L (v := (cnt : Int) - 1) ⟨by omega, by omega⟩, l0]
          exact isinI z hi b60 ⟨by omega, by omega⟩
        rw [if_neg (fun h => c1 (q1.mp h)), if_neg (fun h => c1 (q1.mp h)), er, Option.bind_some]
        by_cases c2 : i < 0
        · rw [if_pos (by rw [j0, J_lt hi b30]; exact c2), if_neg (show ¬ (0 ≤ i ∧ i ≤ (cnt : Int) - 1) by omega), if_pos rfl]
          exact ⟨_, C1, M1, rfl, rfl, h6, h7⟩
        · rw [if_neg (by rw [j0, J_lt hi b30]; exact c2)]
          by_cases c3 : (cnt : Int) ≤ i
          · rw [if_pos (by rw [h3, J_le ⟨by omega, by omega⟩ hi]; exact c3), if_neg (show ¬ (0 ≤ i ∧ i ≤ (cnt : Int) - 1) by omega), if_pos rfl]
            exact ⟨_, C1, M1, rfl, rfl, h6, h7⟩
          · obtain ⟨i, rfl⟩ : ∃ n : Nat, i = n := ⟨i.toNat, by omega⟩
            rw [if_neg (by rw [h3, J_le ⟨by omega, by omega⟩ hi]; exact c3), if_neg (by rw [show (500 : Int32) = J 500 from rfl, J_le ⟨by decide, by decide⟩ hi]; omega), if_pos (ibJ (by omega) (by decide)), if_pos (show (0 ≤ (i : Int) ∧ (i : Int) ≤ (cnt : Int) - 1) by omega), if_neg n10, if_pos (ibJ (by omega) (by decide)), clampJ (by omega)]
            obtain ⟨a, k1, k2, k3, k4, k5, k6⟩ := h4 i (by omega)
            rw [k4, k5, L_J ⟨by omega, by omega⟩]
            exact ⟨_, C1, M1, rfl, rfl, h6, h7⟩
    · rw [if_neg c, if_pos rfl, if_pos rfl]
      exact ⟨_, _, _, rfl, rfl, rfl, rfl⟩
  obtain ⟨r, C1, M1, g1, g2, g3, g4⟩ := goal
  exact ok_S hI g1 g2 g3 g4
theorem twin_in {z : Nat} (hz : 2000 ≤ z) {p cnt : Nat} (hp : 2 ≤ p) (hp2 : p ≤ 1000) (hc : cnt ≤ 500) {C : CS} {M : MS} (hR : Rr p C M cnt) (i : Int32) (k1 : Int32 → Int32 → Int32 → Int32 → CS → Option (Int32 × CS)) (k2 : Int32 → Int32 → Int32 → Int32 → Int32 → MS → Option (Int32 × MS)) (a : Nat) (ha : a < cnt)
    (hk : ∀ f : Int32, ∃ r, k1 i f (J cnt) (J ((a + 1 : Nat) : Int)) C = some (r, C) ∧ k2 (J p) i (J cnt) f (J ((a + 1 : Nat) : Int)) M = some (r, M)) (v : Int64) (hv : cg_sizes C a = v) (d : Nat) : ∀ (b n m : Nat) (f : Int32), b + d = cnt → d + 1 ≤ n → d + 1 ≤ m → ∃ r, G_X0_twinsAt_38 z k1 n i f (J cnt) (J a) (J b) C = some (r, C) ∧ G_X7_twins_62 z k2 m (J p) i (J cnt) f (J a) v (J b) M = some (r, M) := by
  have ea : J a + (1 : Int32) = J ((a + 1 : Nat) : Int) := by rw [j1, J_add]; rfl
  induction d with
  | zero =>
    intro b n m f h1 hn hm
    obtain ⟨n, rfl⟩ : ∃ w, n = w + 1 := ⟨n - 1, by omega⟩
    obtain ⟨m, rfl⟩ : ∃ w, m = w + 1 := ⟨m - 1, by omega⟩
    have e : J cnt ≤ J b := by rw [J_le ⟨by omega, by omega⟩ ⟨by omega, by omega⟩]; omega
    rw [e_X0_twinsAt_38, if_pos e, e_X7_twins_62, if_pos e, Option.bind_some, Option.bind_some, ea]
    exact hk f
  | succ d ih =>
    intro b n m f h1 hn hm
    obtain ⟨n, rfl⟩ : ∃ w, n = w + 1 := ⟨n - 1, by omega⟩
    obtain ⟨m, rfl⟩ : ∃ w, m = w + 1 := ⟨m - 1, by omega⟩
    have e : ¬ J cnt ≤ J b := by rw [J_le ⟨by omega, by omega⟩ ⟨by omega, by omega⟩]; omega
    have eb : J b + (1 : Int32) = J ((b + 1 : Nat) : Int) := by rw [j1, J_add]; rfl
    obtain ⟨q, q1, q2, q3, q4, q5, q6⟩ := hR.2 b (by omega)
    obtain ⟨w, w1, w2, w3, w4, w5, w6⟩ := hR.2 a ha
    have tb := Tw_bd (h := (q : Int)) (k := p) (by omega) (by omega)
    have tb2 : p * (p + 5) ≤ 1000 * 1005 := Nat.mul_le_mul hp2 (by omega)
    have i1 : ib (J a) 500 = true := ibJ (by omega) (by decide)
    have i2 : ib (J b) 500 = true := ibJ (by omega) (by decide)
    have i3 : ib (J a) 1000 = true := ibJ (by omega) (by decide)
    have i4 : ib (J b) 1000 = true := ibJ (by omega) (by decide)
    rw [e_X0_twinsAt_38, if_neg e, if_pos i1, if_pos i2, e_X7_twins_62, if_neg e, if_pos i4, clampJ (by omega), clampJ (by omega), q5, J_L ⟨by omega, by omega⟩, twelve_ok (by omega) ⟨by omega, by omega⟩ (by omega) (by omega) q3]
    simp only [Option.bind_some]
    rw [size_ok z ⟨by omega, by omega⟩]
    simp only [Option.bind_some]
    rw [hv, q6]
    by_cases c1 : v = L ((Tw q p).natAbs : Int)
    · rw [if_pos c1, if_pos c1.symm]
      by_cases c2 : f = i
      · rw [if_pos c2, if_pos c2, if_pos i1, if_pos i2, if_pos i3, if_pos i4, w4, w5, q4, lTh, L_mul, L_add, L_J ⟨by omega, by omega⟩, show (1000 : Int32) = J 1000 from rfl, J_mul, J_add]
        exact ⟨_, rfl, rfl⟩
      · rw [if_neg c2, if_neg c2, eb]
        exact ih (b + 1) n m (f + 1) (by omega) (by omega) (by omega)
    · rw [if_neg c1, if_neg (fun h => c1 h.symm), eb]
      exact ih (b + 1) n m f (by omega) (by omega) (by omega)
theorem twin_out {z : Nat} (hz : 2000 ≤ z) {p cnt : Nat} (hp : 2 ≤ p) (hp2 : p ≤ 1000) (hc : cnt ≤ 500) {C : CS} {M : MS} (hR : Rr p C M cnt) (i : Int32) (d : Nat) : ∀ (a n m : Nat) (f : Int32), a + d = cnt → d + 1 ≤ n → d + 1 ≤ m → ∃ r, G_X0_twinsAt_26 z n i f (J cnt) (J a) C = some (r, C) ∧ G_X7_twins_33 z m (J p) i (J cnt) f (J a) M = some (r, M) := by
  induction d with
  | zero =>
    intro a n m f h1 hn hm
    obtain ⟨n, rfl⟩ : ∃ w, n = w + 1 := ⟨n - 1, by omega⟩
    obtain ⟨m, rfl⟩ : ∃ w, m = w + 1 := ⟨m - 1, by omega⟩
    have e : J cnt ≤ J a := by rw [J_le ⟨by omega, by omega⟩ ⟨by omega, by omega⟩]; omega
    rw [e_X0_twinsAt_26, if_pos e, e_X7_twins_33, if_pos e]
    by_cases c : i = -1
    · rw [if_pos c, if_pos c]; exact ⟨_, rfl, rfl⟩
    · rw [if_neg c, if_neg c]; exact ⟨_, rfl, rfl⟩
  | succ d ih =>
    intro a n m f h1 hn hm
    obtain ⟨n, rfl⟩ : ∃ w, n = w + 1 := ⟨n - 1, by omega⟩
    obtain ⟨m, rfl⟩ : ∃ w, m = w + 1 := ⟨m - 1, by omega⟩
    have e : ¬ J cnt ≤ J a := by rw [J_le ⟨by omega, by omega⟩ ⟨by omega, by omega⟩]; omega
    have ea : J a + (1 : Int32) = J ((a + 1 : Nat) : Int) := by rw [j1, J_add]; rfl
    obtain ⟨w, w1, w2, w3, w4, w5, w6⟩ := hR.2 a (by omega)
    have tb := Tw_bd (h := (w : Int)) (k := p) (by omega) (by omega)
    have tb2 : p * (p + 5) ≤ 1000 * 1005 := Nat.mul_le_mul hp2 (by omega)
    rw [e_X0_twinsAt_26, if_neg e, e_X7_twins_33, if_neg e, if_pos (ibJ (by omega) (by decide)), clampJ (by omega), w5, J_L ⟨by omega, by omega⟩, twelve_ok (by omega) ⟨by omega, by omega⟩ (by omega) (by omega) w3]
    simp only [Option.bind_some]
    rw [size_ok z ⟨by omega, by omega⟩]
    simp only [Option.bind_some]
    rw [ea]
    exact twin_in hz hp hp2 hc hR i _ _ a (by omega) (fun f => ih (a + 1) n m f (by omega) (by omega) (by omega)) _ w6 (cnt - (a + 1)) (a + 1) z z f (by omega) (by omega) (by omega)
theorem lc26_ok {z : Nat} (hz : 2000 ≤ z) (x1 x2 x3 x4 x5 : Int32) {C : CS} {M : MS} {lt : Int64 × Int64} (hI : Inv C M lt) : Okc (lc26 z x1 x2 x3 x4 x5 C M lt) := by
  obtain ⟨p, hp, rfl⟩ := J_of x1
  have goal : ∃ r C1 M1, F_X6_twins z (J p) x2 C = some (r, C1) ∧ F_X7_twins z (J p) x2 M = some (r, M1) ∧ kC C1 = kC C ∧ kM M1 = kM M := by
    unfold F_X6_twins F_X7_twins
    rw [lTh, l2, liesI z hp ⟨by decide, by decide⟩ bTh, Option.bind_some, isinI z hp ⟨by decide, by decide⟩ bTh]
    simp only [Option.bind_some]
    by_cases c : 2 ≤ p ∧ p ≤ 1000
    · rw [if_pos c, if_neg n10, if_neg n10]
      obtain ⟨p, rfl⟩ : ∃ n : Nat, p = n := ⟨p.toNat, by omega⟩
      obtain ⟨C1, M1, cnt, h1, h2, h3, h5, h6, h7⟩ := gather_ok hz (p := p) (by omega) (by omega) C (ms_thrown M 0)
      obtain ⟨r, t1, t2⟩ := twin_out hz (p := p) (by omega) (by omega) h5 h3 x2 cnt 0 z z 0 (by omega) (by omega) (by omega)
      rw [h1, h2, Option.bind_some]
      simp only [bd2_some]
      unfold F_X0_twinsAt
      rw [Option.bind_some, h3.1, show (500 : Int32) = J 500 from rfl, minI_J ⟨by decide, by decide⟩ ⟨by decide, by decide⟩, minI_J ⟨by omega, by omega⟩ ⟨by decide, by decide⟩, show min (cnt : Int) (min 500 500) = cnt by omega, show G_X0_twinsAt_26 z z x2 0 (J cnt) 0 C1 = some (r, C1) from t1, bd2_some]
      exact ⟨r, C1, M1, rfl, t2, h6, h7⟩
    · rw [if_neg c, if_pos rfl, if_pos rfl]
      exact ⟨_, _, _, rfl, rfl, rfl, rfl⟩
  obtain ⟨r, C1, M1, g1, g2, g3, g4⟩ := goal
  exact ok_S hI g1 g2 g3 g4
