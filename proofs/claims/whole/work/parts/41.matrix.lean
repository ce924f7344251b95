/-! the matrix -/
theorem ok_T {α : Type} [DecidableEq α] {C1 : CS} {M1 : MS} {lt : Int64 × Int64} {F : Option (α × CS)} {G : Option (α × MS)} {r : α} (h1 : F = some (r, C1)) (h2 : G = some (r, M1)) (hI : Inv C1 M1 lt) : Okc (bd2 F fun r C1 => bd2 G fun q M1 => if r = q then some (C1, M1, lt) else none) := by
  refine ⟨C1, M1, lt, ?_, hI⟩
  rw [h1, h2]
  show (if r = r then some (C1, M1, lt) else none) = _
  rw [if_pos rfl]
def in9 (p : Int) : Prop := -1000000000 ≤ p ∧ p ≤ 1000000000
theorem lies9 (z : Nat) {p : Int} (h : B6 p) : F_X6_lies z (L p) (-1000000000 : Int64) (1000000000 : Int64) = some (if -1000000000 ≤ p ∧ p ≤ 1000000000 then 1 else 0) := by rw [lGm, lG]; exact lies_ok z h bGm bG
theorem entry9 (z : Nat) {p : Int} (h : B6 p) : F_X7_isEntry z (L p) = some (if -1000000000 ≤ p ∧ p ≤ 1000000000 then 1 else 0) := by
  unfold F_X7_isEntry
  rw [lGm, lG, isin_ok z h bGm bG, Option.bind_some]
  by_cases c : -1000000000 ≤ p ∧ p ≤ 1000000000
  · rw [if_pos c]; rfl
  · rw [if_neg c]; rfl
theorem mul9 {p q : Int} (hp : -1000000000 ≤ p ∧ p ≤ 1000000000) (hq : -1000000000 ≤ q ∧ q ≤ 1000000000) : (p * q).natAbs ≤ 1000000000 * 1000000000 := nm (by omega) (by omega)
theorem isMatrix_ok (z : Nat) {p q r s : Int} (hp : B6 p) (hq : B6 q) (hr : B6 r) (hs : B6 s) : F_X2_isMatrix z (L p) (L q) (L r) (L s) = some (if ((-1000000000 ≤ p ∧ p ≤ 1000000000) ∧ (-1000000000 ≤ q ∧ q ≤ 1000000000) ∧ (-1000000000 ≤ r ∧ r ≤ 1000000000) ∧ (-1000000000 ≤ s ∧ s ≤ 1000000000)) ∧ p * s - q * r = 1 then 1 else 0) := by
  unfold F_X2_isMatrix
  rw [lies9 z hp, lies9 z hq, lies9 z hr, lies9 z hs]
  simp only [Option.bind_some]
  by_cases c1 : -1000000000 ≤ p ∧ p ≤ 1000000000
  · rw [if_pos c1, if_neg n10]
    by_cases c2 : -1000000000 ≤ q ∧ q ≤ 1000000000
    · rw [if_pos c2, if_neg n10]
      by_cases c3 : -1000000000 ≤ r ∧ r ≤ 1000000000
      · rw [if_pos c3, if_neg n10]
        by_cases c4 : -1000000000 ≤ s ∧ s ≤ 1000000000
        · rw [if_pos c4, if_neg n10, L_mul, L_mul, L_sub, l1]
          have w1 := mul9 c1 c4
          have w2 := mul9 c2 c3
          have key : L (p * s - q * r) = L 1 ↔ p * s - q * r = 1 := L_eq ⟨by omega, by omega⟩ b61
          by_cases c5 : p * s - q * r = 1
          · rw [if_pos (key.mpr c5), if_pos ⟨⟨c1, c2, c3, c4⟩, c5⟩]
          · rw [if_neg (fun h => c5 (key.mp h)), if_neg (fun h => c5 h.2)]
        · rw [if_neg c4, if_pos rfl, if_neg (fun h => c4 h.1.2.2.2)]
      · rw [if_neg c3, if_pos rfl, if_neg (fun h => c3 h.1.2.2.1)]
    · rw [if_neg c2, if_pos rfl, if_neg (fun h => c2 h.1.2.1)]
  · rw [if_neg c1, if_pos rfl, if_neg (fun h => c1 h.1.1)]
theorem isMatrixM_ok (z : Nat) {p q r s : Int} (hp : B3 p) (hq : B3 q) (hr : B3 r) (hs : B3 s) : F_X7_isMatrix z (J p) (J q) (J r) (J s) = some (if ((-1000000000 ≤ p ∧ p ≤ 1000000000) ∧ (-1000000000 ≤ q ∧ q ≤ 1000000000) ∧ (-1000000000 ≤ r ∧ r ≤ 1000000000) ∧ (-1000000000 ≤ s ∧ s ≤ 1000000000)) ∧ p * s - q * r = 1 then 1 else 0) := by
  unfold F_X7_isMatrix
  rw [J_L hp, J_L hq, J_L hr, J_L hs, entry9 z (B36 hp), entry9 z (B36 hq), entry9 z (B36 hr), entry9 z (B36 hs)]
  simp only [Option.bind_some]
  by_cases c1 : -1000000000 ≤ p ∧ p ≤ 1000000000
  · rw [if_pos c1, if_neg n10]
    by_cases c2 : -1000000000 ≤ q ∧ q ≤ 1000000000
    · rw [if_pos c2, if_neg n10]
      by_cases c3 : -1000000000 ≤ r ∧ r ≤ 1000000000
      · rw [if_pos c3, if_neg n10]
        by_cases c4 : -1000000000 ≤ s ∧ s ≤ 1000000000
        · rw [if_pos c4, if_neg n10, L_mul, L_mul, L_sub, l1]
          have w1 := mul9 c1 c4
          have w2 := mul9 c2 c3
          have key : L (p * s - q * r) = L 1 ↔ p * s - q * r = 1 := L_eq ⟨by omega, by omega⟩ b61
          by_cases c5 : p * s - q * r = 1
          · rw [if_pos (key.mpr c5), if_pos ⟨⟨c1, c2, c3, c4⟩, c5⟩]
          · rw [if_neg (fun h => c5 (key.mp h)), if_neg (fun h => c5 h.2)]
        · rw [if_neg c4, if_pos rfl, if_neg (fun h => c4 h.1.2.2.2)]
      · rw [if_neg c3, if_pos rfl, if_neg (fun h => c3 h.1.2.2.1)]
    · rw [if_neg c2, if_pos rfl, if_neg (fun h => c2 h.1.2.1)]
  · rw [if_neg c1, if_pos rfl, if_neg (fun h => c1 h.1.1)]
def setC (C : CS) (p q r s : Int) : CS := cs_md (cs_mc (cs_mb (cs_ma C (J p)) (J q)) (J r)) (J s)
def setM (M : MS) (p q r s : Int) : MS := ms_d0 (ms_c0 (ms_b0 (ms_a0 M (L p)) (L q)) (L r)) (L s)
theorem Inv_set {C : CS} {M : MS} {lt : Int64 × Int64} (hI : Inv C M lt) {p q r s : Int} (hb : ((-1000000000 ≤ p ∧ p ≤ 1000000000) ∧ (-1000000000 ≤ q ∧ q ≤ 1000000000) ∧ (-1000000000 ≤ r ∧ r ≤ 1000000000) ∧ (-1000000000 ≤ s ∧ s ≤ 1000000000)) ∧ p * s - q * r = 1) : Inv (setC C p q r s) (setM (ms_thrown M 0) p q r s) lt :=
  ⟨⟨p, q, r, s, by omega, by omega, by omega, by omega, hb.2, rfl, rfl, rfl, rfl, rfl, rfl, rfl, rfl⟩, hI.2⟩
theorem Inv_thrown {C : CS} {M : MS} {lt : Int64 × Int64} (hI : Inv C M lt) : Inv C (ms_thrown M 0) lt := hI
theorem become_ok (z : Nat) (C : CS) {p q r s : Int} (hp : B6 p) (hq : B6 q) (hr : B6 r) (hs : B6 s) : F_X2_become z (L p) (L q) (L r) (L s) C = some (if ((-1000000000 ≤ p ∧ p ≤ 1000000000) ∧ (-1000000000 ≤ q ∧ q ≤ 1000000000) ∧ (-1000000000 ≤ r ∧ r ≤ 1000000000) ∧ (-1000000000 ≤ s ∧ s ≤ 1000000000)) ∧ p * s - q * r = 1 then (1, setC C p q r s) else (0, C)) := by
  unfold F_X2_become
  rw [isMatrix_ok z hp hq hr hs]
  simp only [Option.bind_some]
  by_cases c : ((-1000000000 ≤ p ∧ p ≤ 1000000000) ∧ (-1000000000 ≤ q ∧ q ≤ 1000000000) ∧ (-1000000000 ≤ r ∧ r ≤ 1000000000) ∧ (-1000000000 ≤ s ∧ s ≤ 1000000000)) ∧ p * s - q * r = 1
  · rw [if_pos c, if_pos c, if_neg n10, L_J ⟨by omega, by omega⟩, L_J ⟨by omega, by omega⟩, L_J ⟨by omega, by omega⟩, L_J ⟨by omega, by omega⟩]
    rfl
  · rw [if_neg c, if_neg c, if_pos rfl]
theorem becomes_ok (z : Nat) (M : MS) {p q r s : Int} (hp : B6 p) (hq : B6 q) (hr : B6 r) (hs : B6 s) : F_X7_becomes z (L p) (L q) (L r) (L s) M = some (if (-1000000000 ≤ p ∧ p ≤ 1000000000) ∧ (-1000000000 ≤ q ∧ q ≤ 1000000000) ∧ (-1000000000 ≤ r ∧ r ≤ 1000000000) ∧ (-1000000000 ≤ s ∧ s ≤ 1000000000) then (1, setM M p q r s) else (0, M)) := by
  unfold F_X7_becomes
  rw [entry9 z hp, entry9 z hq, entry9 z hr, entry9 z hs]
  simp only [Option.bind_some]
  by_cases c1 : -1000000000 ≤ p ∧ p ≤ 1000000000
  · rw [if_pos c1, if_neg n10]
    by_cases c2 : -1000000000 ≤ q ∧ q ≤ 1000000000
    · rw [if_pos c2, if_neg n10]
      by_cases c3 : -1000000000 ≤ r ∧ r ≤ 1000000000
      · rw [if_pos c3, if_neg n10]
        by_cases c4 : -1000000000 ≤ s ∧ s ≤ 1000000000
        · rw [if_pos c4, if_neg n10, if_pos ⟨c1, c2, c3, c4⟩]
          rfl
        · rw [if_neg c4, if_pos rfl, if_neg (fun h => c4 h.2.2.2)]
      · rw [if_neg c3, if_pos rfl, if_neg (fun h => c3 h.2.2.1)]
    · rw [if_neg c2, if_pos rfl, if_neg (fun h => c2 h.2.1)]
  · rw [if_neg c1, if_pos rfl, if_neg (fun h => c1 h.1)]
/-- both take the same matrix of determinant 1, or both leave it -/
theorem take_ok (z : Nat) {C : CS} {M : MS} {lt : Int64 × Int64} (hI : Inv C M lt) {p q r s : Int} (hp : B6 p) (hq : B6 q) (hr : B6 r) (hs : B6 s) (hdet : p * s - q * r = 1) : ∃ (b : Int32) (C1 : CS) (M1 : MS), (b = 0 ∨ b = 1) ∧ F_X2_become z (L p) (L q) (L r) (L s) C = some (b, C1) ∧ F_X7_becomes z (L p) (L q) (L r) (L s) (ms_thrown M 0) = some (b, M1) ∧ Inv C1 M1 lt := by
  rw [become_ok z C hp hq hr hs, becomes_ok z _ hp hq hr hs]
  by_cases c : (-1000000000 ≤ p ∧ p ≤ 1000000000) ∧ (-1000000000 ≤ q ∧ q ≤ 1000000000) ∧ (-1000000000 ≤ r ∧ r ≤ 1000000000) ∧ (-1000000000 ≤ s ∧ s ≤ 1000000000)
  · rw [if_pos ⟨c, hdet⟩, if_pos c]
    exact ⟨1, _, _, Or.inr rfl, rfl, rfl, Inv_set hI ⟨c, hdet⟩⟩
  · rw [if_neg (fun h => c h.1), if_neg c]
    exact ⟨0, _, _, Or.inl rfl, rfl, rfl, Inv_thrown hI⟩
theorem nbok {b : Int32} (h : b = 0 ∨ b = 1) : nb b = true := by rcases h with rfl | rfl <;> rfl
theorem two_ok {b : Int32} (h : b = 0 ∨ b = 1) {α : Type} (S : α) : (if b = 0 then some ((0 : Int32), S) else some ((1 : Int32), S)) = some (b, S) := by rcases h with rfl | rfl <;> rfl
theorem bd2_some {α β γ : Type} (a : α) (b : β) (f : α → β → Option γ) : bd2 (some (a, b)) f = f a b := rfl
theorem lc14_ok (z : Nat) (x1 x2 x3 x4 x5 : Int32) {C : CS} {M : MS} {lt : Int64 × Int64} (hI : Inv C M lt) : Okc (lc14 z x1 x2 x3 x4 x5 C M lt) := by
  obtain ⟨p, hp, rfl⟩ := J_of x1
  obtain ⟨q, hq, rfl⟩ := J_of x2
  obtain ⟨r, hr, rfl⟩ := J_of x3
  obtain ⟨s, hs, rfl⟩ := J_of x4
  unfold lc14 F_X6_set F_X7_set
  rw [isMatrixM_ok z hp hq hr hs, J_L hp, J_L hq, J_L hr, J_L hs]
  simp only [Option.bind_some]
  by_cases c : ((-1000000000 ≤ p ∧ p ≤ 1000000000) ∧ (-1000000000 ≤ q ∧ q ≤ 1000000000) ∧ (-1000000000 ≤ r ∧ r ≤ 1000000000) ∧ (-1000000000 ≤ s ∧ s ≤ 1000000000)) ∧ p * s - q * r = 1
  · obtain ⟨b, C1, M1, h1, h2, h3, h4⟩ := take_ok z hI (B36 hp) (B36 hq) (B36 hr) (B36 hs) c.2
    rw [if_pos c, if_neg n10, h2, h3]
    simp only [bd2_some]
    rw [if_pos (nbok h1), two_ok h1]
    exact ok_T rfl rfl h4
  · rw [if_neg c, if_pos rfl, become_ok z C (B36 hp) (B36 hq) (B36 hr) (B36 hs), if_neg c]
    exact ⟨C, ms_thrown M 0, lt, rfl, Inv_thrown hI⟩
theorem Inv_mat {C : CS} {M : MS} {lt : Int64 × Int64} (hI : Inv C M lt) : ∃ a b c d : Int, a.natAbs ≤ 1000000000 ∧ b.natAbs ≤ 1000000000 ∧ c.natAbs ≤ 1000000000 ∧ d.natAbs ≤ 1000000000 ∧ a * d - b * c = 1 ∧ cg_ma C = J a ∧ cg_mb C = J b ∧ cg_mc C = J c ∧ cg_md C = J d ∧ mg_a0 M = L a ∧ mg_b0 M = L b ∧ mg_c0 M = L c ∧ mg_d0 M = L d := hI.1
theorem mult_ok (z : Nat) {C : CS} {a b c d : Int} (ha : a.natAbs ≤ 1000000000) (hb : b.natAbs ≤ 1000000000) (hc : c.natAbs ≤ 1000000000) (hd : d.natAbs ≤ 1000000000) (e1 : cg_ma C = J a) (e2 : cg_mb C = J b) (e3 : cg_mc C = J c) (e4 : cg_md C = J d) (p q r s : Int) : F_X2_multiply z (L p) (L q) (L r) (L s) C = bd2 (F_X2_become z (L (a * p + b * r)) (L (a * q + b * s)) (L (c * p + d * r)) (L (c * q + d * s)) C) fun r1 S2 => if nb r1 = true then some (r1, S2) else none := by
  unfold F_X2_multiply
  rw [e1, e2, e3, e4, J_L ⟨by omega, by omega⟩, J_L ⟨by omega, by omega⟩, J_L ⟨by omega, by omega⟩, J_L ⟨by omega, by omega⟩]
  simp only [L_mul, L_add]
theorem lc15_ok (z : Nat) (x1 x2 x3 x4 x5 : Int32) {C : CS} {M : MS} {lt : Int64 × Int64} (hI : Inv C M lt) : Okc (lc15 z x1 x2 x3 x4 x5 C M lt) := by
  obtain ⟨a, b, c, d, ha, hb, hc, hd, hdet, e1, e2, e3, e4, f1, f2, f3, f4⟩ := Inv_mat hI
  obtain ⟨w, C1, M1, h1, h2, h3, h4⟩ := take_ok z hI (p := b) (q := -a) (r := d) (s := -c) ⟨by omega, by omega⟩ ⟨by omega, by omega⟩ ⟨by omega, by omega⟩ ⟨by omega, by omega⟩ (by grind)
  have m1 := mult_ok z ha hb hc hd e1 e2 e3 e4 0 (-1) 1 0
  rw [show a * 0 + b * 1 = b by omega, show a * (-1) + b * 0 = -a by omega, show c * 0 + d * 1 = d by omega, show c * (-1) + d * 0 = -c by omega, h2, bd2_some, if_pos (nbok h1)] at m1
  have g1 : F_X6_turn z C = some (w, C1) := by
    unfold F_X6_turn
    rw [show F_X2_multiply z 0 (-1) 1 0 C = some (w, C1) from m1, bd2_some, if_pos (nbok h1)]
  have g2 : F_X7_turn z M = some (w, M1) := by
    unfold F_X7_turn
    rw [Option.bind_some]
    show bd2 (F_X7_becomes z (mg_b0 M) (-(mg_a0 M)) (mg_d0 M) (-(mg_c0 M)) (ms_thrown M 0)) _ = _
    rw [f1, f2, f3, f4, L_neg, L_neg, h3, bd2_some, if_pos (nbok h1)]
  exact ok_T g1 g2 h4
theorem lc16_ok (z : Nat) (x1 x2 x3 x4 x5 : Int32) {C : CS} {M : MS} {lt : Int64 × Int64} (hI : Inv C M lt) : Okc (lc16 z x1 x2 x3 x4 x5 C M lt) := by
  obtain ⟨n, hn, rfl⟩ := J_of x1
  obtain ⟨a, b, c, d, ha, hb, hc, hd, hdet, e1, e2, e3, e4, f1, f2, f3, f4⟩ := Inv_mat hI
  have w1 : (a * n).natAbs ≤ 1000000000 * 2147483648 := nm ha (by have := hn.1; have := hn.2; omega)
  have w2 : (c * n).natAbs ≤ 1000000000 * 2147483648 := nm hc (by have := hn.1; have := hn.2; omega)
  obtain ⟨w, C1, M1, h1, h2, h3, h4⟩ := take_ok z hI (p := a) (q := a * n + b) (r := c) (s := c * n + d) ⟨by omega, by omega⟩ ⟨by omega, by omega⟩ ⟨by omega, by omega⟩ ⟨by omega, by omega⟩ (by grind)
  have m1 := mult_ok z ha hb hc hd e1 e2 e3 e4 1 n 0 1
  rw [show a * 1 + b * 0 = a by omega, show a * n + b * 1 = a * n + b by omega, show c * 1 + d * 0 = c by omega, show c * n + d * 1 = c * n + d by omega, h2, bd2_some, if_pos (nbok h1)] at m1
  have g1 : F_X6_shift z (J n) C = some (w, C1) := by
    unfold F_X6_shift
    rw [J_L hn, show F_X2_multiply z 1 (L n) 0 1 C = some (w, C1) from m1, bd2_some, if_pos (nbok h1)]
  have g2 : F_X7_shift z (J n) M = some (w, M1) := by
    unfold F_X7_shift
    rw [Option.bind_some]
    show bd2 (F_X7_becomes z (mg_a0 M) (mg_a0 M * _ + mg_b0 M) (mg_c0 M) (mg_c0 M * _ + mg_d0 M) (ms_thrown M 0)) _ = _
    rw [f1, f2, f3, f4, J_L hn, L_mul, L_add, L_mul, L_add, h3, bd2_some, if_pos (nbok h1)]
  exact ok_T g1 g2 h4
theorem lc17_ok (z : Nat) (x1 x2 x3 x4 x5 : Int32) {C : CS} {M : MS} {lt : Int64 × Int64} (hI : Inv C M lt) : Okc (lc17 z x1 x2 x3 x4 x5 C M lt) := by
  obtain ⟨p, hp, rfl⟩ := J_of x1
  obtain ⟨q, hq, rfl⟩ := J_of x2
  obtain ⟨r, hr, rfl⟩ := J_of x3
  obtain ⟨s, hs, rfl⟩ := J_of x4
  obtain ⟨a, b, c, d, ha, hb, hc, hd, hdet, e1, e2, e3, e4, f1, f2, f3, f4⟩ := Inv_mat hI
  unfold lc17 F_X6_times F_X7_times
  rw [isMatrixM_ok z hp hq hr hs, J_L hp, J_L hq, J_L hr, J_L hs, isMatrix_ok z (B36 hp) (B36 hq) (B36 hr) (B36 hs)]
  simp only [Option.bind_some]
  by_cases cc : ((-1000000000 ≤ p ∧ p ≤ 1000000000) ∧ (-1000000000 ≤ q ∧ q ≤ 1000000000) ∧ (-1000000000 ≤ r ∧ r ≤ 1000000000) ∧ (-1000000000 ≤ s ∧ s ≤ 1000000000)) ∧ p * s - q * r = 1
  · obtain ⟨⟨c1, c2, c3, c4⟩, c5⟩ := id cc
    have w1 := mul9 (p := a) (q := p) (by omega) c1
    have w2 := mul9 (p := b) (q := r) (by omega) c3
    have w3 := mul9 (p := a) (q := q) (by omega) c2
    have w4 := mul9 (p := b) (q := s) (by omega) c4
    have w5 := mul9 (p := c) (q := p) (by omega) c1
    have w6 := mul9 (p := d) (q := r) (by omega) c3
    have w7 := mul9 (p := c) (q := q) (by omega) c2
    have w8 := mul9 (p := d) (q := s) (by omega) c4
    obtain ⟨w, C1, M1, h1, h2, h3, h4⟩ := take_ok z hI (p := a * p + b * r) (q := a * q + b * s) (r := c * p + d * r) (s := c * q + d * s) ⟨by omega, by omega⟩ ⟨by omega, by omega⟩ ⟨by omega, by omega⟩ ⟨by omega, by omega⟩ (by
      have : (a * p + b * r) * (c * q + d * s) - (a * q + b * s) * (c * p + d * r) = (a * d - b * c) * (p * s - q * r) := by grind
      rw [this, hdet, c5]; rfl)
    rw [if_pos cc, if_neg n10, if_neg n10, mult_ok z ha hb hc hd e1 e2 e3 e4 p q r s, h2]
    simp only [bd2_some]
    rw [if_pos (nbok h1)]
    simp only [bd2_some]
    rw [two_ok h1]
    have g2 : F_X7_becomes z (mg_a0 (ms_thrown M 0) * L p + mg_b0 (ms_thrown M 0) * L r) (mg_a0 (ms_thrown M 0) * L q + mg_b0 (ms_thrown M 0) * L s) (mg_c0 (ms_thrown M 0) * L p + mg_d0 (ms_thrown M 0) * L r) (mg_c0 (ms_thrown M 0) * L q + mg_d0 (ms_thrown M 0) * L s) (ms_thrown M 0) = some (w, M1) := by
      show F_X7_becomes z (mg_a0 M * L p + mg_b0 M * L r) (mg_a0 M * L q + mg_b0 M * L s) (mg_c0 M * L p + mg_d0 M * L r) (mg_c0 M * L q + mg_d0 M * L s) (ms_thrown M 0) = _
      rw [f1, f2, f3, f4]
      simp only [L_mul, L_add]
      exact h3
    rw [g2]
    simp only [bd2_some]
    rw [two_ok h1]
    exact ok_T rfl rfl h4
  · rw [if_neg cc, if_pos rfl, if_pos rfl]
    exact ok_T rfl rfl (Inv_thrown hI)
theorem lc18_ok (z : Nat) (x1 x2 x3 x4 x5 : Int32) {C : CS} {M : MS} {lt : Int64 × Int64} (hI : Inv C M lt) : Okc (lc18 z x1 x2 x3 x4 x5 C M lt) := by
  obtain ⟨a, b, c, d, ha, hb, hc, hd, hdet, e1, e2, e3, e4, f1, f2, f3, f4⟩ := Inv_mat hI
  obtain ⟨w, C1, M1, h1, h2, h3, h4⟩ := take_ok z hI (p := d) (q := -b) (r := -c) (s := a) ⟨by omega, by omega⟩ ⟨by omega, by omega⟩ ⟨by omega, by omega⟩ ⟨by omega, by omega⟩ (by grind)
  have g1 : F_X6_invert z C = some (w, C1) := by
    unfold F_X6_invert
    rw [e1, e2, e3, e4, J_neg, J_neg, J_L ⟨by omega, by omega⟩, J_L ⟨by omega, by omega⟩, J_L ⟨by omega, by omega⟩, J_L ⟨by omega, by omega⟩, h2, bd2_some, if_pos (nbok h1)]
  have g2 : F_X7_invert z M = some (w, M1) := by
    unfold F_X7_invert
    rw [Option.bind_some]
    show bd2 (F_X7_becomes z (mg_d0 M) (-(mg_b0 M)) (-(mg_c0 M)) (mg_a0 M) (ms_thrown M 0)) _ = _
    rw [f1, f2, f3, f4, L_neg, L_neg, h3, bd2_some, if_pos (nbok h1)]
  exact ok_T g1 g2 h4
/-! of -/
theorem lc13_ok (z : Nat) (x1 x2 x3 x4 x5 : Int32) {C : CS} {M : MS} {lt : Int64 × Int64} (hI : Inv C M lt) : Okc (lc13 z x1 x2 x3 x4 x5 C M lt) := by
  obtain ⟨v, hv, rfl⟩ := J_of x1
  obtain ⟨a, b, c, d, ha, hb, hc, hd, hdet, e1, e2, e3, e4, f1, f2, f3, f4⟩ := Inv_mat hI
  have i3 : F_X7_isIn z (Int32.toInt64 (J v)) (0 : Int64) (3 : Int64) = some (if 0 ≤ v ∧ v ≤ 3 then 1 else 0) := by rw [l0, l3]; exact isinI z hv b60 ⟨by decide, by decide⟩
  unfold lc13 F_X7_of
  rw [i3, Option.bind_some]
  have q0 : J v = 0 ↔ v = 0 := by rw [j0, J_eq hv b30]
  have q1 : J v = 1 ↔ v = 1 := by rw [j1, J_eq hv ⟨by decide, by decide⟩]
  have q2 : J v = 2 ↔ v = 2 := by rw [j2, J_eq hv ⟨by decide, by decide⟩]
  have q3 : J v = 3 ↔ v = 3 := by rw [show (3 : Int32) = J 3 from rfl, J_eq hv ⟨by decide, by decide⟩]
  have fin : ∀ {u : Int} {x : Int32} {y : Int64}, u.natAbs ≤ 1000000000 → x = J u → y = L u → ofV (J v) C = some x → (0 ≤ v ∧ v ≤ 3) → G_X7_of_18 z (J v) 0 M = some (y.toInt32, ms_thrown M 0) → Okc (bd2 (if (if 0 ≤ v ∧ v ≤ 3 then (1 : Int32) else 0) = 0 then G_X7_of_18 z (J v) 1 M else G_X7_of_18 z (J v) 0 M) fun q M1 => bd2 (F_X7_thrown z M1) fun q1 M2 => match ofV (J v) C with
    | some r => if q1 = 0 ∧ Int32.toInt64 r = Int32.toInt64 q then some (C, M2, lt) else none
    | none => if q1 = 1 then some (C, M2, lt) else none) := by
    intro u x y hu hx hy ho hr hG
    rw [if_pos hr, if_neg n10, hG, bd2_some]
    show Okc (match ofV (J v) C with
      | some r => if mg_thrown (ms_thrown M 0) = 0 ∧ Int32.toInt64 r = Int32.toInt64 y.toInt32 then some (C, ms_thrown M 0, lt) else none
      | none => _)
    rw [ho]
    refine ⟨C, ms_thrown M 0, lt, ?_, Inv_thrown hI⟩
    show (if _ then _ else _) = _
    rw [if_pos ⟨rfl, by rw [hx, hy, L_J ⟨by omega, by omega⟩]⟩]
  by_cases c0 : v = 0
  · exact fin ha e1 f1 (by unfold ofV; rw [if_pos (q0.mpr c0), e1]) (by omega) (by unfold G_X7_of_18; rw [Option.bind_some, if_pos (q0.mpr c0)]; rfl)
  by_cases c1 : v = 1
  · exact fin hb e2 f2 (by unfold ofV; rw [if_neg (fun h => c0 (q0.mp h)), if_pos (q1.mpr c1), e2]) (by omega) (by unfold G_X7_of_18; rw [Option.bind_some, if_neg (fun h => c0 (q0.mp h)), if_pos (q1.mpr c1)]; rfl)
  by_cases c2 : v = 2
  · exact fin hc e3 f3 (by unfold ofV; rw [if_neg (fun h => c0 (q0.mp h)), if_neg (fun h => c1 (q1.mp h)), if_pos (q2.mpr c2), e3]) (by omega) (by unfold G_X7_of_18; rw [Option.bind_some, if_neg (fun h => c0 (q0.mp h)), if_neg (fun h => c1 (q1.mp h)), if_pos (q2.mpr c2)]; rfl)
  by_cases c3 : v = 3
  · exact fin hd e4 f4 (by unfold ofV; rw [if_neg (fun h => c0 (q0.mp h)), if_neg (fun h => c1 (q1.mp h)), if_neg (fun h => c2 (q2.mp h)), if_pos (q3.mpr c3), e4]) (by omega) (by unfold G_X7_of_18; rw [Option.bind_some, if_neg (fun h => c0 (q0.mp h)), if_neg (fun h => c1 (q1.mp h)), if_neg (fun h => c2 (q2.mp h)), if_pos (q3.mpr c3)]; rfl)
  have ho : ofV (J v) C = none := by
    unfold ofV
    rw [if_neg (fun h => c0 (q0.mp h)), if_neg (fun h => c1 (q1.mp h)), if_neg (fun h => c2 (q2.mp h)), if_neg (fun h => c3 (q3.mp h))]
  rw [if_neg (show ¬ (0 ≤ v ∧ v ≤ 3) by omega), if_pos rfl]
  unfold G_X7_of_18
  rw [Option.bind_some, if_neg (fun h => c0 (q0.mp h)), if_neg (fun h => c1 (q1.mp h)), if_neg (fun h => c2 (q2.mp h)), if_neg (fun h => c3 (q3.mp h)), bd2_some]
  show Okc (match ofV (J v) C with
    | some r => _
    | none => if mg_thrown (ms_thrown M 1) = 1 then some (C, ms_thrown M 1, lt) else none)
  rw [ho]
  refine ⟨C, ms_thrown M 1, lt, ?_, hI⟩
  exact if_pos rfl
