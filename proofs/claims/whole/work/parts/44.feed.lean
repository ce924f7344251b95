/-! feed, end -/
theorem clampJ {t : Nat} (h : (t : Int) < 2147483648) : (J t).toNatClampNeg = t := by
  show (J t).toInt.toNat = t
  rw [J_toInt ⟨by omega, h⟩]; rfl
theorem ibJ {t n : Nat} (h : t < n) (hn : (n : Int) < 2147483648) : ib (J t) n = true := by
  unfold ib
  rw [J_toInt ⟨by omega, by omega⟩]
  simp
  omega
theorem bm8 {a b : Int} (h : a % 256 = b % 256) : a.bmod (2 ^ 8) = b.bmod (2 ^ 8) := by
  show a.bmod 256 = b.bmod 256
  unfold Int.bmod
  show (if a % 256 < _ then a % 256 else a % 256 - _) = (if b % 256 < _ then b % 256 else b % 256 - _)
  rw [h]
theorem byte_sh (x : Int32) (k : Nat) (hk : k = 24 ∨ k = 16 ∨ k = 8 ∨ k = 0) (n : UInt32) (m : Int32) (hn : n.toNat = k) (hm : (m.toBitVec.smod 32).toNat = k) : Int32.toInt8 ((Int32.toUInt32 x >>> n).toInt32) = Int32.toInt8 (x >>> m) := by
  apply Int8.toInt_inj.mp
  rw [Int32.toInt_toInt8, Int32.toInt_toInt8, Jvm.Kit.i32_shr x m hm]
  have h1 : ((Int32.toUInt32 x >>> n).toInt32).toInt = (((Int32.toUInt32 x >>> n).toNat : Nat) : Int).bmod (2 ^ 32) := BitVec.toInt_eq_toNat_bmod _
  have h2 : x.toInt = ((x.toUInt32.toNat : Nat) : Int).bmod (2 ^ 32) := BitVec.toInt_eq_toNat_bmod _
  have h3 : (Int32.toUInt32 x >>> n).toNat = x.toUInt32.toNat / 2 ^ k := by
    rw [UInt32.toNat_shiftRight, hn, Nat.shiftRight_eq_div_pow]
    rcases hk with rfl | rfl | rfl | rfl <;> rfl
  have h4 := x.toUInt32.toNat_lt
  rw [h1, h3, h2]
  generalize x.toUInt32.toNat = u at *
  have e1 : ∀ w : Nat, w < 4294967296 → (w : Int).bmod (2 ^ 32) = if w < 2147483648 then (w : Int) else (w : Int) - 4294967296 := by
    intro w hw
    show (w : Int).bmod 4294967296 = _
    unfold Int.bmod
    show (if (w : Int) % 4294967296 < (4294967296 + 1) / 2 then (w : Int) % 4294967296 else (w : Int) % 4294967296 - 4294967296) = _
    have : (w : Int) % 4294967296 = w := by omega
    rw [this]
    by_cases c : w < 2147483648
    · rw [if_pos c, if_pos (by omega)]
    · rw [if_neg c, if_neg (by omega)]
  apply bm8
  rcases hk with rfl | rfl | rfl | rfl
  · rw [e1 _ (by omega), e1 _ (by omega)]
    show (if u / 16777216 < _ then ((u / 16777216 : Nat) : Int) else ((u / 16777216 : Nat) : Int) - _) % 256 = (if u < _ then (u : Int) else _) / 16777216 % 256
    split <;> split <;> omega
  · rw [e1 _ (by omega), e1 _ (by omega)]
    show (if u / 65536 < _ then ((u / 65536 : Nat) : Int) else ((u / 65536 : Nat) : Int) - _) % 256 = (if u < _ then (u : Int) else _) / 65536 % 256
    split <;> split <;> omega
  · rw [e1 _ (by omega), e1 _ (by omega)]
    show (if u / 256 < _ then ((u / 256 : Nat) : Int) else ((u / 256 : Nat) : Int) - _) % 256 = (if u < _ then (u : Int) else _) / 256 % 256
    split <;> split <;> omega
  · rw [e1 _ (by omega), e1 _ (by omega)]
    show (if u / 1 < _ then ((u / 1 : Nat) : Int) else ((u / 1 : Nat) : Int) - _) % 256 = (if u < _ then (u : Int) else _) / 1 % 256
    split <;> split <;> omega
def byv (x s : Int32) : Int32 := vp_nar .byte ((Int32.toInt8 (x >>> (s &&& 31))).toInt32)
theorem byv_rng (x s : Int32) : -128 ≤ (byv x s).toInt ∧ (byv x s).toInt ≤ 127 := by
  unfold byv
  rw [vp_nar_byte, Int8.toInt_toInt32]
  have h1 := Int8.le_toInt ((Int32.toInt8 (x >>> (s &&& 31))).toInt32.toInt8)
  have h2 := Int8.toInt_lt ((Int32.toInt8 (x >>> (s &&& 31))).toInt32.toInt8)
  omega
def fC (C : CS) (x s : Int32) : CS := cs_tapeLength (cs_tape C (upd (cg_tape C) (Int32.toNatClampNeg (cg_tapeLength C)) (byv x s))) (cg_tapeLength C + 1)
def fM (M : MS) (x s : Int32) : MS := ms_taped (ms_tape M (upd (mg_tape M) (Int32.toNatClampNeg (mg_taped M)) (byv x s))) (mg_taped M + 1)
theorem f_inv {C : CS} {M : MS} {lt : Int64 × Int64} (hI : Inv C M lt) {t : Nat} (h1 : cg_tapeLength C = J t) (h2 : mg_taped M = J t) (ht : t < 300) (x s : Int32) : Inv (fC C x s) (fM M x s) lt ∧ cg_tapeLength (fC C x s) = J ((t + 1 : Nat) : Int) ∧ mg_taped (fM M x s) = J ((t + 1 : Nat) : Int) := by
  have e1 : cg_tapeLength (fC C x s) = J ((t + 1 : Nat) : Int) := by
    show cg_tapeLength C + 1 = _
    rw [h1, j1, J_add]; rfl
  have e2 : mg_taped (fM M x s) = J ((t + 1 : Nat) : Int) := by
    show mg_taped M + 1 = _
    rw [h2, j1, J_add]; rfl
  obtain ⟨k1, k2, k3, k4, k5, k6, k7⟩ := hI
  refine ⟨⟨k1, ⟨t + 1, by omega, e1, e2⟩, ?_, ?_, k5, k6, k7⟩, e1, e2⟩
  · show upd (cg_tape C) _ _ = upd (mg_tape M) _ _
    rw [show cg_tape C = mg_tape M from k3, h1, h2]
  · intro i
    show -128 ≤ (upd (mg_tape M) _ _ i).toInt ∧ (upd (mg_tape M) _ _ i).toInt ≤ 127
    unfold upd
    split
    · exact byv_rng x s
    · exact k4 i
theorem feed_step {C : CS} {t : Nat} (z n : Nat) (x s : Int32) (h1 : cg_tapeLength C = J t) (ht : t < 300) (hs : s = 24 ∨ s = 16 ∨ s = 8 ∨ s = 0) : G_X6_feedOne_3 z (n + 1) x s C = G_X6_feedOne_3 z n x (s + (-8)) (fC C x s) := by
  have hs0 : ¬ s < 0 := by rcases hs with rfl | rfl | rfl | rfl <;> decide
  have a1 : ¬ cg_tapeLength C < 0 := by rw [h1, j0, J_lt ⟨by omega, by omega⟩ b30]; omega
  have a2 : ¬ (300 : Int32) ≤ cg_tapeLength C := by rw [h1, show (300 : Int32) = J 300 from rfl, J_le ⟨by decide, by decide⟩ ⟨by omega, by omega⟩]; omega
  have a3 : ib (cg_tapeLength C) 300 = true := by rw [h1]; exact ibJ ht (by decide)
  have a4 : Int32.toInt8 ((Int32.toUInt32 x >>> (Int32.toUInt32 s &&& Int32.toUInt32 31)).toInt32) = Int32.toInt8 (x >>> (s &&& 31)) := by
    rcases hs with rfl | rfl | rfl | rfl
    · exact byte_sh x 24 (by decide) _ _ (by decide +kernel) (by decide +kernel)
    · exact byte_sh x 16 (by decide) _ _ (by decide +kernel) (by decide +kernel)
    · exact byte_sh x 8 (by decide) _ _ (by decide +kernel) (by decide +kernel)
    · exact byte_sh x 0 (by decide) _ _ (by decide +kernel) (by decide +kernel)
  rw [e_X6_feedOne_3, if_neg hs0, if_neg a1, if_neg a2, if_pos a3, a4]
  rfl
theorem put_step {M : MS} {t : Nat} (z n : Nat) (x s : Int32) (h1 : mg_taped M = J t) (ht : t < 300) (hs : s = 24 ∨ s = 16 ∨ s = 8 ∨ s = 0) : G_X7_put_3 z (n + 1) x s M = G_X7_put_3 z n x (s + (-8)) (fM M x s) := by
  have hs0 : ¬ s < 0 := by rcases hs with rfl | rfl | rfl | rfl <;> decide
  have a3 : ib (mg_taped M) 300 = true := by rw [h1]; exact ibJ ht (by decide)
  rw [e_X7_put_3, if_neg hs0, if_pos a3]
  rfl
theorem put_ok {z : Nat} (hz : 10 ≤ z) {C : CS} {M : MS} {lt : Int64 × Int64} (hI : Inv C M lt) {t : Nat} (h1 : cg_tapeLength C = J t) (h2 : mg_taped M = J t) (ht : t + 4 ≤ 300) (x : Int32) : ∃ C' M', F_X6_feedOne z x C = some C' ∧ F_X7_put z x M = some M' ∧ Inv C' M' lt ∧ cg_tapeLength C' = J ((t + 4 : Nat) : Int) ∧ mg_taped M' = J ((t + 4 : Nat) : Int) := by
  obtain ⟨z, rfl⟩ : ∃ w, z = w + 1 + 1 + 1 + 1 + 1 := ⟨z - 5, by omega⟩
  obtain ⟨i1, p1, q1⟩ := f_inv hI h1 h2 (by omega) x 24
  obtain ⟨i2, p2, q2⟩ := f_inv i1 p1 q1 (by omega) x 16
  obtain ⟨i3, p3, q3⟩ := f_inv i2 p2 q2 (by omega) x 8
  obtain ⟨i4, p4, q4⟩ := f_inv i3 p3 q3 (by omega) x 0
  refine ⟨_, _, ?_, ?_, i4, p4, q4⟩
  · unfold F_X6_feedOne
    rw [feed_step _ _ x 24 h1 (by omega) (by decide), show (24 : Int32) + (-8) = 16 from rfl, feed_step _ _ x 16 p1 (by omega) (by decide), show (16 : Int32) + (-8) = 8 from rfl, feed_step _ _ x 8 p2 (by omega) (by decide), show (8 : Int32) + (-8) = 0 from rfl, feed_step _ _ x 0 p3 (by omega) (by decide), show (0 : Int32) + (-8) = -8 from rfl, e_X6_feedOne_3, if_pos (by decide)]
  · unfold F_X7_put
    rw [put_step _ _ x 24 h2 (by omega) (by decide), show (24 : Int32) + (-8) = 16 from rfl, put_step _ _ x 16 q1 (by omega) (by decide), show (16 : Int32) + (-8) = 8 from rfl, put_step _ _ x 8 q2 (by omega) (by decide), show (8 : Int32) + (-8) = 0 from rfl, put_step _ _ x 0 q3 (by omega) (by decide), show (0 : Int32) + (-8) = -8 from rfl, e_X7_put_3, if_pos (by decide)]
theorem lc27_ok {z : Nat} (hz : 10 ≤ z) (x1 x2 x3 x4 x5 : Int32) {C : CS} {M : MS} {lt : Int64 × Int64} (hI : Inv C M lt) : Okc (lc27 z x1 x2 x3 x4 x5 C M lt) := by
  obtain ⟨t, ht, t1, t2⟩ := hI.2.1
  have t1 : cg_tapeLength C = J t := t1
  have t2 : mg_taped M = J t := t2
  have goal : ∃ r C1 M1, F_X6_feed z x1 x2 x3 x4 x5 C = some (r, C1) ∧ F_X7_feed z x1 x2 x3 x4 x5 M = some (r, M1) ∧ Inv C1 M1 lt := by
    unfold F_X6_feed F_X7_feed
    rw [Option.bind_some, t1, show mg_taped (ms_thrown M 0) = J t from t2, show (20 : Int32) = J 20 from rfl, J_add, show (300 : Int32) = J 300 from rfl]
    by_cases c : t + 20 ≤ 300
    · have e : J ((t : Int) + 20) ≤ J 300 := by rw [J_le ⟨by omega, by omega⟩ ⟨by decide, by decide⟩]; omega
      rw [if_pos e, if_pos e]
      obtain ⟨C1, M1, a1, a2, a3, a4, a5⟩ := put_ok hz (Inv_thrown hI) t1 (M := ms_thrown M 0) t2 (by omega) x1
      obtain ⟨C2, M2, b1, b2, b3, b4, b5⟩ := put_ok hz a3 a4 a5 (by omega) x2
      obtain ⟨C3, M3, c1, c2, c3, c4, c5⟩ := put_ok hz b3 b4 b5 (by omega) x3
      obtain ⟨C4, M4, d1, d2, d3, d4, d5⟩ := put_ok hz c3 c4 c5 (by omega) x4
      obtain ⟨C5, M5, e1, e2, e3, e4, e5⟩ := put_ok hz d3 d4 d5 (by omega) x5
      rw [a1, a2, Option.bind_some, Option.bind_some, b1, b2, Option.bind_some, Option.bind_some, c1, c2, Option.bind_some, Option.bind_some, d1, d2, Option.bind_some, Option.bind_some, e1, e2, Option.bind_some, Option.bind_some]
      exact ⟨_, _, _, rfl, by rw [e4, e5], e3⟩
    · have e : ¬ J ((t : Int) + 20) ≤ J 300 := by rw [J_le ⟨by omega, by omega⟩ ⟨by decide, by decide⟩]; omega
      rw [if_neg e, if_neg e]
      exact ⟨_, _, _, rfl, rfl, Inv_thrown hI⟩
  obtain ⟨r, C1, M1, g1, g2, g3⟩ := goal
  exact ok_T g1 g2 g3
theorem lc28_ok (z : Nat) (x1 x2 x3 x4 x5 : Int32) {C : CS} {M : MS} {lt : Int64 × Int64} (hI : Inv C M lt) : Okc (lc28 z x1 x2 x3 x4 x5 C M lt) := by
  obtain ⟨n, hn, rfl⟩ := J_of x1
  obtain ⟨t, ht, t1, t2⟩ := hI.2.1
  have t1 : cg_tapeLength C = J t := t1
  have t2 : mg_taped M = J t := t2
  have goal : ∃ r C1 M1, F_X6_end z (J n) C = some (r, C1) ∧ F_X7_end z (J n) M = some (r, M1) ∧ Inv C1 M1 lt := by
    unfold F_X6_end F_X7_end
    simp only [Option.bind_some]
    rw [t1, show mg_taped (ms_thrown M 0) = J t from t2, J_L (v := (t : Int)) ⟨by omega, by omega⟩, l0, liesI z hn b60 ⟨by omega, by omega⟩, isinI z hn b60 ⟨by omega, by omega⟩]
    simp only [Option.bind_some]
    by_cases c : 0 ≤ n ∧ n ≤ (t : Int)
    · rw [if_pos c, if_neg n10, if_neg n10]
      refine ⟨_, _, _, rfl, rfl, ?_⟩
      obtain ⟨k1, k2, k3, k4, k5, k6, k7⟩ := hI
      refine ⟨k1, ⟨n.toNat, by omega, ?_, ?_⟩, k3, k4, k5, k6, k7⟩
      · show J n = _
        rw [show ((n.toNat : Nat) : Int) = n by omega]
      · show J n = _
        rw [show ((n.toNat : Nat) : Int) = n by omega]
    · rw [if_neg c, if_pos rfl, if_pos rfl]
      exact ⟨_, _, _, rfl, rfl, Inv_thrown hI⟩
  obtain ⟨r, C1, M1, g1, g2, g3⟩ := goal
  exact ok_T g1 g2 g3
