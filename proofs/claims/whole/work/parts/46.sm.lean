/-! finite sums of whole numbers -/
def sm : Nat → (Nat → Int) → Int
  | 0, _ => 0
  | n + 1, f => sm n f + f n
theorem sm_s (n : Nat) (f : Nat → Int) : sm (n + 1) f = sm n f + f n := rfl
theorem sm_ext {n : Nat} {f g : Nat → Int} (h : ∀ i, i < n → f i = g i) : sm n f = sm n g := by
  induction n with
  | zero => rfl
  | succ n ih => rw [sm_s, sm_s, ih (fun i hi => h i (by omega)), h n (by omega)]
theorem sm_add (n : Nat) (f g : Nat → Int) : sm n (fun i => f i + g i) = sm n f + sm n g := by
  induction n with
  | zero => rfl
  | succ n ih => rw [sm_s, sm_s, sm_s, ih]; omega
theorem sm_zero (n : Nat) : sm n (fun _ => 0) = 0 := by
  induction n with
  | zero => rfl
  | succ n ih => rw [sm_s, ih]; rfl
theorem sm_const (n : Nat) (c : Int) : sm n (fun _ => c) = n * c := by
  induction n with
  | zero => simp [sm]
  | succ n ih => rw [sm_s, ih, Int.natCast_add, Int.add_mul]; simp
theorem sm_mul (n : Nat) (c : Int) (f : Nat → Int) : sm n (fun i => c * f i) = c * sm n f := by
  induction n with
  | zero => simp [sm]
  | succ n ih => rw [sm_s, sm_s, ih, Int.mul_add]
theorem sm_swap (n k : Nat) (f : Nat → Nat → Int) : sm n (fun i => sm k (fun j => f i j)) = sm k (fun j => sm n (fun i => f i j)) := by
  induction n with
  | zero => exact (sm_zero k).symm
  | succ n ih => rw [sm_s, ih, ← sm_add]; rfl
theorem sm_first (n : Nat) (f : Nat → Int) : sm (n + 1) f = f 0 + sm n (fun i => f (i + 1)) := by
  induction n with
  | zero => simp [sm]
  | succ n ih => rw [sm_s, ih, sm_s]; omega
theorem sm_back (n : Nat) (f : Nat → Int) : sm n f = sm n (fun i => f (n - 1 - i)) := by
  induction n with
  | zero => rfl
  | succ n ih =>
    rw [sm_first n (fun i => f (n + 1 - 1 - i)), sm_s, ih, Int.add_comm]
    congr 1
    exact sm_ext (fun i hi => by congr 1; omega)
theorem sm_tri (n : Nat) : 2 * sm n (fun i => (i : Int)) = (n : Int) * ((n : Int) - 1) := by
  induction n with
  | zero => rfl
  | succ n ih =>
    rw [sm_s, Int.mul_add, ih, Int.natCast_add]
    grind
theorem sm_nonneg {n : Nat} {f : Nat → Int} (h : ∀ i, i < n → 0 ≤ f i) : 0 ≤ sm n f := by
  induction n with
  | zero => exact Int.le_refl 0
  | succ n ih =>
    have := ih (fun i hi => h i (by omega))
    have := h n (by omega)
    rw [sm_s]; omega
theorem sm_cut {k n : Nat} (hk : k ≤ n) {f : Nat → Int} (h : ∀ i, k ≤ i → i < n → f i = 0) : sm n f = sm k f := by
  induction n with
  | zero =>
    have : k = 0 := by omega
    rw [this]
  | succ n ih =>
    by_cases h1 : k = n + 1
    · rw [h1]
    · rw [sm_s, ih (by omega) (fun i h2 h3 => h i h2 (by omega)), h n (by omega) (by omega), Int.add_zero]
/-- how many j below k have m (j + 1) at most x -/
theorem sm_cnt {m : Int} (hm : 0 < m) (x : Int) (hx : 0 ≤ x) (k : Nat) : sm k (fun j => if m * ((j : Int) + 1) ≤ x then 1 else 0) = min (k : Int) (x / m) := by
  have hq := Int.ediv_nonneg hx (Int.le_of_lt hm)
  induction k with
  | zero => simp [sm]; omega
  | succ k ih =>
    have key : m * ((k : Int) + 1) ≤ x ↔ (k : Int) + 1 ≤ x / m := by rw [Int.le_ediv_iff_mul_le hm, Int.mul_comm]
    rw [sm_s, ih]
    by_cases c : (k : Int) + 1 ≤ x / m
    · rw [if_pos (key.mpr c)]; omega
    · rw [if_neg (fun h => c (key.mp h))]; omega
/-- how many z below k have m z at most x -/
theorem sm_cnt0 {m : Int} (hm : 0 < m) (x : Int) (k : Nat) : sm k (fun j => if m * (j : Int) ≤ x then 1 else 0) = max 0 (min (k : Int) (x / m + 1)) := by
  induction k with
  | zero => simp [sm]; omega
  | succ k ih =>
    have key : m * (k : Int) ≤ x ↔ (k : Int) ≤ x / m := by rw [Int.le_ediv_iff_mul_le hm, Int.mul_comm]
    rw [sm_s, ih]
    by_cases c : (k : Int) ≤ x / m
    · rw [if_pos (key.mpr c)]; omega
    · rw [if_neg (fun h => c (key.mp h))]; omega
/-! the sum of (a i + b) by m, downwards -/
def Sf (a b m : Int) (n : Nat) : Int := sm n (fun i => (a * (i : Int) + b) / m)
def tri (n : Nat) : Int := sm n (fun i => (i : Int))
theorem Sf_red {m : Int} (hm : 0 < m) (a b : Int) (n : Nat) : Sf a b m n = (a / m) * tri n + (n : Int) * (b / m) + Sf (a % m) (b % m) m n := by
  unfold Sf tri
  rw [← sm_mul, ← sm_const, ← sm_add, ← sm_add]
  refine sm_ext (fun i _ => ?_)
  have e1 := Int.emod_add_mul_ediv a m
  have e2 := Int.emod_add_mul_ediv b m
  have e3 : a * (i : Int) + b = (a % m * (i : Int) + b % m) + m * (a / m * (i : Int) + b / m) := by
    generalize a / m = q1 at *
    generalize b / m = q2 at *
    generalize a % m = r1 at *
    generalize b % m = r2 at *
    grind
  rw [e3, Int.add_mul_ediv_left _ _ (show m ≠ 0 by omega)]
  omega
theorem Sf_small {a b m : Int} (hm : 0 < m) (ha : 0 ≤ a) (hb : 0 ≤ b) {n : Nat} (ht : a * (n : Int) + b < m) : Sf a b m n = 0 := by
  unfold Sf
  rw [← sm_zero n]
  refine sm_ext (fun i hi => ?_)
  have h1 : a * (i : Int) ≤ a * (n : Int) := Int.mul_le_mul_of_nonneg_left (by omega) ha
  have h2 : 0 ≤ a * (i : Int) := Int.mul_nonneg ha (by omega)
  exact Int.ediv_eq_zero_of_lt (by omega) (by omega)
/-- a and m change places -/
theorem Sf_swap {a b m : Int} (hm : 0 < m) (ha : 0 < a) (hb : 0 ≤ b) (hbm : b < m) (n : Nat) : Sf a b m n = Sf m ((a * (n : Int) + b) % m) a ((a * (n : Int) + b) / m).toNat := by
  have ht : 0 ≤ a * (n : Int) + b := Int.add_nonneg (Int.mul_nonneg (by omega) (by omega)) hb
  have hq := Int.ediv_nonneg ht (Int.le_of_lt hm)
  have hr1 := Int.emod_nonneg (a * (n : Int) + b) (b := m) (by omega)
  have hr2 := Int.emod_lt_of_pos (a * (n : Int) + b) hm
  have hd := Int.emod_add_mul_ediv (a * (n : Int) + b) m
  obtain ⟨N, hN⟩ : ∃ N : Nat, (a * (n : Int) + b) / m = N := ⟨((a * (n : Int) + b) / m).toNat, by omega⟩
  rw [hN] at hd ⊢
  rw [show ((N : Int)).toNat = N from rfl]
  generalize hB : (a * (n : Int) + b) % m = B at *
  -- left: rows
  have left : Sf a b m n = sm n (fun i => sm N (fun j => if m * ((j : Int) + 1) ≤ a * (i : Int) + b then 1 else 0)) := by
    unfold Sf
    refine sm_ext (fun i hi => ?_)
    have h1 : a * (i : Int) ≤ a * (n : Int) := Int.mul_le_mul_of_nonneg_left (by omega) (by omega)
    have h2 : 0 ≤ a * (i : Int) := Int.mul_nonneg (by omega) (by omega)
    rw [sm_cnt hm _ (by omega)]
    have h3 : (a * (i : Int) + b) / m ≤ (a * (n : Int) + b) / m := Int.ediv_le_ediv hm (by omega)
    omega
  have right : Sf m B a N = sm N (fun j => sm n (fun i => if a * ((i : Int) + 1) ≤ m * (j : Int) + B then 1 else 0)) := by
    unfold Sf
    refine sm_ext (fun j hj => ?_)
    have h2 : 0 ≤ m * (j : Int) := Int.mul_nonneg (by omega) (by omega)
    rw [sm_cnt ha _ (by omega)]
    have h4 : m * (j : Int) ≤ m * ((N : Int) - 1) := Int.mul_le_mul_of_nonneg_left (by omega) (by omega)
    have h5 : m * ((N : Int) - 1) = m * (N : Int) - m := by rw [Int.mul_sub, Int.mul_one]
    have h3 : (m * (j : Int) + B) / a ≤ (a * (n : Int)) / a := Int.ediv_le_ediv ha (by omega)
    rw [Int.mul_ediv_cancel_left _ (by omega)] at h3
    omega
  rw [left, right, sm_swap n N, sm_back N]
  refine sm_ext (fun j hj => ?_)
  rw [sm_back n]
  refine sm_ext (fun i hi => ?_)
  have c1 : ((N - 1 - j : Nat) : Int) = (N : Int) - 1 - j := by omega
  have c2 : ((n - 1 - i : Nat) : Int) = (n : Int) - 1 - i := by omega
  rw [c1, c2]
  have key : m * ((N : Int) - 1 - (j : Int) + 1) ≤ a * ((n : Int) - 1 - (i : Int)) + b ↔ a * ((i : Int) + 1) ≤ m * (j : Int) + B := by
    have e1 : m * ((N : Int) - 1 - (j : Int) + 1) = m * (N : Int) - m * (j : Int) := by grind
    have e2 : a * ((n : Int) - 1 - (i : Int)) = a * (n : Int) - a * ((i : Int) + 1) := by grind
    rw [e1, e2]
    omega
  by_cases c : a * ((i : Int) + 1) ≤ m * (j : Int) + B
  · rw [if_pos (key.mpr c), if_pos c]
  · rw [if_neg (fun h => c (key.mp h)), if_neg c]
theorem tri_div (n : Nat) : (n : Int) * ((n : Int) - 1) / 2 = tri n := by
  have h := sm_tri n
  have e : (n : Int) * ((n : Int) - 1) = 2 * tri n := h.symm
  rw [e]
  omega
