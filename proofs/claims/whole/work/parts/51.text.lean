/-! tell: the text, its bytes, its runs, its TOKENS -/
abbrev Tx : Type := (Nat → Int32) × Nat
def TxOk (X : Tx) : Prop := X.2 ≤ 300 ∧ ∀ i, -128 ≤ (X.1 i).toInt ∧ (X.1 i).toInt ≤ 127
/-- a byte as a number, -1 past the end -/
def bv (X : Tx) (p : Nat) : Int := if p < X.2 then (X.1 p).toInt % 256 else -1
def so (v : Int) : Nat := if v = 32 ∨ v = 10 then 1 else if 97 ≤ v ∧ v ≤ 122 then 2 else if 48 ≤ v ∧ v ≤ 57 then 3 else 0
theorem so_end : so (-1) = 0 := by decide
theorem so_le (v : Int) : so v ≤ 3 := by
  unfold so
  repeat' split
  all_goals omega
theorem so_1 (v : Int) : so v = 1 ↔ (v = 32 ∨ v = 10) := by
  unfold so
  repeat' split
  all_goals omega
theorem so_2 (v : Int) : so v = 2 ↔ (97 ≤ v ∧ v ≤ 122) := by
  unfold so
  repeat' split
  all_goals omega
theorem so_3 (v : Int) : so v = 3 ↔ (48 ≤ v ∧ v ≤ 57) := by
  unfold so
  repeat' split
  all_goals omega
theorem j300 : (300 : Int32) = J 300 := rfl
theorem and255 {x : Int32} (h1 : -128 ≤ x.toInt) (h2 : x.toInt ≤ 127) : x &&& 255 = J (x.toInt % 256) := by
  have hk : ∀ k : Fin 256, J ((k.val : Int) - 128) &&& 255 = J (((k.val : Int) - 128) % 256) := by decide +kernel
  have e : J ((((x.toInt + 128).toNat : Nat) : Int) - 128) &&& 255 = J (((((x.toInt + 128).toNat : Nat) : Int) - 128) % 256) := hk ⟨(x.toInt + 128).toNat, by omega⟩
  rw [show (((x.toInt + 128).toNat : Nat) : Int) - 128 = x.toInt by omega, show J x.toInt = x from Int32.ofInt_toInt x] at e
  exact e
theorem bv_end {X : Tx} {p : Nat} (h : X.2 ≤ p) : bv X p = -1 := by
  unfold bv; rw [if_neg (by omega)]
theorem bv_in {X : Tx} {p : Nat} (h : p < X.2) : bv X p = (X.1 p).toInt % 256 := by
  unfold bv; rw [if_pos h]
theorem bv_b (X : Tx) (p : Nat) : -1 ≤ bv X p ∧ bv X p < 256 := by
  unfold bv; split <;> omega
theorem bv_nn {X : Tx} {p : Nat} (h : p < X.2) : 0 ≤ bv X p := by
  rw [bv_in h]; omega
theorem so_in {X : Tx} {p : Nat} (h : so (bv X p) ≠ 0) : p < X.2 := by
  apply Classical.byContradiction
  intro h2
  exact h (by rw [bv_end (by omega), so_end])
def rn (X : Tx) (s : Nat) : Nat → Nat → Nat
  | 0, p => p
  | f + 1, p => if so (bv X p) = s then rn X s f (p + 1) else p
/-- where a run of bytes of one sort ends -/
def past (X : Tx) (s p : Nat) : Nat := rn X s (300 - p) p
theorem past_eq {X : Tx} (hX : X.2 ≤ 300) {s : Nat} (hs : s ≠ 0) (p : Nat) : past X s p = if so (bv X p) = s then past X s (p + 1) else p := by
  unfold past
  by_cases h : p < 300
  · rw [show 300 - p = (300 - (p + 1)) + 1 by omega]
    rfl
  · rw [show 300 - p = 0 by omega, bv_end (by omega), so_end, if_neg (fun e => hs e.symm)]
    rfl
theorem past_stop {X : Tx} (hX : X.2 ≤ 300) {s : Nat} (hs : s ≠ 0) {p : Nat} (h : so (bv X p) ≠ s) : past X s p = p := by
  rw [past_eq hX hs p, if_neg h]
theorem past_go {X : Tx} (hX : X.2 ≤ 300) {s : Nat} (hs : s ≠ 0) {p : Nat} (h : so (bv X p) = s) : past X s p = past X s (p + 1) := by
  rw [past_eq hX hs p, if_pos h]
theorem past_ind {X : Tx} (hX : X.2 ≤ 300) {s : Nat} (hs : s ≠ 0) : ∀ (f p : Nat), 300 - p ≤ f → p ≤ past X s p ∧ (p ≤ X.2 → past X s p ≤ X.2) ∧ so (bv X (past X s p)) ≠ s ∧ ∀ j, p ≤ j → j < past X s p → so (bv X j) = s := by
  intro f
  induction f with
  | zero =>
    intro p hp
    have hb : bv X p = -1 := bv_end (by omega)
    have c : so (bv X p) ≠ s := by rw [hb, so_end]; exact fun e => hs e.symm
    rw [past_stop hX hs c]
    exact ⟨Nat.le_refl _, fun h => h, c, fun j h1 h2 => absurd h1 (by omega)⟩
  | succ f ih =>
    intro p hp
    by_cases c : so (bv X p) = s
    · have hlt : p < X.2 := so_in (by omega)
      obtain ⟨h1, h2, h3, h4⟩ := ih (p + 1) (by omega)
      rw [past_go hX hs c]
      refine ⟨by omega, fun _ => h2 (by omega), h3, fun j j1 j2 => ?_⟩
      by_cases cj : j = p
      · rw [cj]; exact c
      · exact h4 j (by omega) j2
    · rw [past_stop hX hs c]
      exact ⟨Nat.le_refl _, fun h => h, c, fun j h1 h2 => absurd h1 (by omega)⟩
theorem past_spec {X : Tx} (hX : X.2 ≤ 300) {s : Nat} (hs : s ≠ 0) (p : Nat) : p ≤ past X s p ∧ (p ≤ X.2 → past X s p ≤ X.2) ∧ so (bv X (past X s p)) ≠ s ∧ ∀ j, p ≤ j → j < past X s p → so (bv X j) = s := past_ind hX hs (300 - p) p (Nat.le_refl _)
/-- a TOKEN's end, the next one's first byte, the places of all -/
def te (X : Tx) (p : Nat) : Nat := if so (bv X p) = 0 then p + 1 else past X (so (bv X p)) p
def nx (X : Tx) (p : Nat) : Nat := if X.2 ≤ p then p else past X 1 (te X p)
def pos (X : Tx) : Nat → Nat
  | 0 => past X 1 0
  | i + 1 => nx X (pos X i)
theorem te_b {X : Tx} (hX : X.2 ≤ 300) {p : Nat} (h : p < X.2) : p < te X p ∧ te X p ≤ X.2 := by
  unfold te
  by_cases c : so (bv X p) = 0
  · rw [if_pos c]; omega
  · rw [if_neg c, past_go hX c rfl]
    obtain ⟨h1, h2, -, -⟩ := past_spec hX c (p + 1)
    exact ⟨by omega, h2 (by omega)⟩
theorem nx_b {X : Tx} (hX : X.2 ≤ 300) {p : Nat} (h : p < X.2) : p < nx X p ∧ nx X p ≤ X.2 ∧ so (bv X (nx X p)) ≠ 1 := by
  unfold nx
  rw [if_neg (by omega)]
  obtain ⟨a1, a2⟩ := te_b hX h
  obtain ⟨h1, h2, h3, -⟩ := past_spec hX (s := 1) (by decide) (te X p)
  exact ⟨by omega, h2 a2, h3⟩
theorem pos_s (X : Tx) (i : Nat) : pos X (i + 1) = nx X (pos X i) := rfl
theorem pos_ok {X : Tx} (hX : X.2 ≤ 300) (i : Nat) : pos X i ≤ X.2 ∧ so (bv X (pos X i)) ≠ 1 := by
  induction i with
  | zero =>
    obtain ⟨h1, h2, h3, -⟩ := past_spec hX (s := 1) (by decide) 0
    exact ⟨h2 (by omega), h3⟩
  | succ i ih =>
    rw [pos_s]
    by_cases c : X.2 ≤ pos X i
    · unfold nx
      rw [if_pos c]
      exact ih
    · obtain ⟨h1, h2, h3⟩ := nx_b hX (p := pos X i) (by omega)
      exact ⟨h2, h3⟩
theorem pos_lt {X : Tx} (hX : X.2 ≤ 300) {i : Nat} (h : pos X i < X.2) : pos X i < pos X (i + 1) := (nx_b hX h).1
theorem pos_e {X : Tx} {i : Nat} (h : pos X i = X.2) : pos X (i + 1) = X.2 := by
  rw [pos_s]; unfold nx; rw [if_pos (by omega)]; exact h
theorem pos_ge {X : Tx} (hX : X.2 ≤ 300) (i : Nat) : i ≤ pos X i ∨ pos X i = X.2 := by
  induction i with
  | zero => exact Or.inl (Nat.zero_le _)
  | succ i ih =>
    obtain ⟨h1, -⟩ := pos_ok hX i
    by_cases c : pos X i = X.2
    · exact Or.inr (pos_e c)
    · have := pos_lt hX (i := i) (by omega)
      left
      omega
theorem pos_stay {X : Tx} {i : Nat} (h : pos X i = X.2) (k : Nat) : pos X (i + k) = X.2 := by
  induction k with
  | zero => exact h
  | succ k ih => exact pos_e ih
/-- kinds -/
def wk (X : Tx) (p e : Nat) : Int := if e = p + 1 ∧ bv X p = 115 then -4 else if e = p + 3 ∧ bv X p = 115 ∧ bv X (p + 1) = 97 ∧ bv X (p + 2) = 119 then -3 else if e = p + 3 ∧ bv X p = 112 ∧ bv X (p + 1) = 104 ∧ bv X (p + 2) = 105 then -5 else -6
def kd (X : Tx) (p : Nat) : Int := if X.2 ≤ p then -1 else if so (bv X p) = 2 then wk X p (past X 2 p) else if so (bv X p) = 3 then (if past X 3 p ≤ p + 9 then -2 else -6) else bv X p
def dv (X : Tx) : Nat → Nat → Int → Int
  | 0, _, a => a
  | f + 1, p, a => if so (bv X p) = 3 then dv X f (p + 1) (10 * a + bv X p - 48) else a
def nv (X : Tx) (p : Nat) : Int := if kd X p = -2 then dv X 9 p 0 else 0
theorem dv_s (X : Tx) (f p : Nat) (a : Int) : dv X (f + 1) p a = if so (bv X p) = 3 then dv X f (p + 1) (10 * a + bv X p - 48) else a := rfl
theorem dv_b (X : Tx) : ∀ (f p : Nat) (a : Int), 0 ≤ a → 0 ≤ dv X f p a ∧ dv X f p a < (a + 1) * 10 ^ f := by
  intro f
  induction f with
  | zero =>
    intro p a ha
    refine ⟨ha, ?_⟩
    show a < (a + 1) * 10 ^ 0
    rw [Int.pow_zero]; omega
  | succ f ih =>
    intro p a ha
    have hP : (0 : Int) < 10 ^ f := Int.pow_pos (by decide)
    rw [dv_s, Int.pow_succ]
    by_cases c : so (bv X p) = 3
    · rw [if_pos c]
      have h3 := (so_3 _).mp c
      obtain ⟨h1, h2⟩ := ih (p + 1) (10 * a + bv X p - 48) (by omega)
      have h4 : (10 * a + bv X p - 48 + 1) * 10 ^ f ≤ (10 * (a + 1)) * 10 ^ f := Int.mul_le_mul_of_nonneg_right (by omega) (by omega)
      have h5 : (10 * (a + 1)) * 10 ^ f = (a + 1) * (10 ^ f * 10) := by grind
      exact ⟨h1, by omega⟩
    · rw [if_neg c]
      refine ⟨ha, ?_⟩
      have h4 : (a + 1) * 1 ≤ (a + 1) * (10 ^ f * 10) := Int.mul_le_mul_of_nonneg_left (by omega) (by omega)
      omega
theorem dv9 (X : Tx) (p : Nat) : 0 ≤ dv X 9 p 0 ∧ dv X 9 p 0 ≤ 999999999 := by
  obtain ⟨h1, h2⟩ := dv_b X 9 p 0 (by decide)
  exact ⟨h1, by have : ((0 : Int) + 1) * 10 ^ 9 = 1000000000 := by decide
                omega⟩
theorem wk_b (X : Tx) (p e : Nat) : -6 ≤ wk X p e ∧ wk X p e ≤ -3 := by
  unfold wk
  repeat' split
  all_goals omega
theorem kd_b (X : Tx) (p : Nat) : -6 ≤ kd X p ∧ kd X p < 256 := by
  have h1 := wk_b X p (past X 2 p)
  have h2 := bv_b X p
  unfold kd
  repeat' split
  all_goals omega
theorem kd_end {X : Tx} {p : Nat} (h : X.2 ≤ p) : kd X p = -1 := by
  unfold kd; rw [if_pos h]
theorem kd_in {X : Tx} {p : Nat} (h : kd X p ≠ -1) : p < X.2 := by
  apply Classical.byContradiction
  intro h2
  exact h (kd_end (by omega))
/-- a single byte as TOKEN -/
theorem kd_c {X : Tx} {p : Nat} {c : Int} (h0 : 0 ≤ c) (hc : so c = 0) : kd X p = c ↔ bv X p = c := by
  have h1 := wk_b X p (past X 2 p)
  unfold kd
  by_cases a : X.2 ≤ p
  · rw [if_pos a, bv_end a]
  · rw [if_neg a]
    by_cases b : so (bv X p) = 2
    · rw [if_pos b]
      constructor
      · intro h; omega
      · intro h; rw [h] at b; omega
    · rw [if_neg b]
      by_cases d : so (bv X p) = 3
      · rw [if_pos d]
        constructor
        · intro h; split at h <;> omega
        · intro h; rw [h] at d; omega
      · rw [if_neg d]
theorem kd_n {X : Tx} {p : Nat} : kd X p = -2 ↔ (so (bv X p) = 3 ∧ past X 3 p ≤ p + 9) := by
  have h1 := wk_b X p (past X 2 p)
  unfold kd
  by_cases a : X.2 ≤ p
  · rw [if_pos a, bv_end a, so_end]; omega
  · rw [if_neg a]
    have h2 := bv_nn (X := X) (p := p) (by omega)
    by_cases b : so (bv X p) = 2
    · rw [if_pos b, b]; omega
    · rw [if_neg b]
      by_cases d : so (bv X p) = 3
      · rw [if_pos d, d]
        split <;> omega
      · rw [if_neg d]; omega
theorem lt300 {X : Tx} (hX : X.2 ≤ 300) {i : Nat} (h : kd X (pos X i) ≠ -1) : i < 300 ∧ pos X i < X.2 := by
  have h1 := kd_in h
  rcases pos_ge hX i with h2 | h2 <;> omega
/-- behind a TOKEN at p: from its end on the blanks are passed -/
theorem pos_next {X : Tx} {i : Nat} (h : pos X i < X.2) : past X 1 (te X (pos X i)) = pos X (i + 1) := by
  rw [pos_s]; unfold nx; rw [if_neg (by omega)]
theorem te_c {X : Tx} {p : Nat} {c : Int} (h : bv X p = c) (hc : so c = 0) : te X p = p + 1 := by
  unfold te; rw [h, if_pos hc]
theorem te_n {X : Tx} {p : Nat} (h : so (bv X p) = 3) : te X p = past X 3 p := by
  unfold te; rw [h, if_neg (by decide)]
theorem te_w {X : Tx} {p : Nat} (h : so (bv X p) = 2) : te X p = past X 2 p := by
  unfold te; rw [h, if_neg (by decide)]
