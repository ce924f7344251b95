/-! points: the class's loop and the reference's loop both give the sum -/
theorem top_bd {r m N B : Int} (hr : 0 ≤ r) (hrm : r < m) (hB : 0 ≤ B) (hBm : B < m) (hN : 0 ≤ N) : 0 ≤ r * N + B ∧ (r * N + B) / m ≤ N ∧ 0 ≤ (r * N + B) / m ∧ r * N ≤ m * N := by
  have h1 : 0 ≤ r * N := Int.mul_nonneg hr hN
  have h2 : r * N ≤ (m - 1) * N := Int.mul_le_mul_of_nonneg_right (by omega) hN
  have h3 : (m - 1) * N = m * N - N := by rw [Int.sub_mul, Int.one_mul]
  refine ⟨by omega, ?_, Int.ediv_nonneg (by omega) (by omega), by omega⟩
  have h4 : (r * N + B) / m < N + 1 := Int.ediv_lt_of_lt_mul (by omega) (by
    have : (N + 1) * m = m * N + m := by grind
    omega)
  omega
theorem fs_loop (z : Nat) (d : Nat) : ∀ (n : Nat) (t a b : Int) (m N : Nat) (i : Int), St d (a % (m : Int)).toNat m → 0 < m → m ≤ 1000000 → N ≤ 1000000001 → a.natAbs ≤ 1000000 → b.natAbs ≤ 1000000 → d + 1 ≤ n → 0 ≤ i → i + d < 200 → G_X5_floorSum_20 z n (L t) (L a) (L b) (L m) (L N) (J i) = some (L (t + Sf a b m N)) := by
  have main : ∀ (n : Nat) (t a b : Int) (m N : Nat) (i : Int) (Z : Option Int64), 0 < m → m ≤ 1000000 → N ≤ 1000000001 → a.natAbs ≤ 1000000 → b.natAbs ≤ 1000000 → 0 ≤ i → i < 200 → ((m : Int) ≤ a % (m : Int) * (N : Int) + b % (m : Int) → G_X5_floorSum_20 z n (L (t + (tri N * (a / (m : Int)) + (N : Int) * (b / (m : Int))))) (L m) (L ((a % (m : Int) * (N : Int) + b % (m : Int)) % (m : Int))) (L (a % (m : Int))) (L ((a % (m : Int) * (N : Int) + b % (m : Int)) / (m : Int))) (J (i + 1)) = Z) → (a % (m : Int) * (N : Int) + b % (m : Int) < (m : Int) → some (L (t + (tri N * (a / (m : Int)) + (N : Int) * (b / (m : Int))))) = Z) → G_X5_floorSum_20 z (n + 1) (L t) (L a) (L b) (L m) (L N) (J i) = Z := by
    intro n t a b m N i Z hm hm2 hN ha hb hi hi2 k1 k2
    have e1 : ¬ (200 : Int32) ≤ J i := by rw [j200, J_le b3200 ⟨by omega, by omega⟩]; omega
    have e2 : ¬ L m ≤ (0 : Int64) := by rw [l0, L_le ⟨by omega, by omega⟩ b60]; omega
    have r1 := Int.emod_nonneg a (b := (m : Int)) (by omega)
    have r2 := Int.emod_lt_of_pos a (b := (m : Int)) (by omega)
    have s1 := Int.emod_nonneg b (b := (m : Int)) (by omega)
    have s2 := Int.emod_lt_of_pos b (b := (m : Int)) (by omega)
    obtain ⟨t1, t2, t3, t4⟩ := top_bd r1 r2 s1 s2 (show 0 ≤ (N : Int) by omega)
    have t5 : (m : Int) * (N : Int) ≤ 1000000 * (N : Int) := Int.mul_le_mul_of_nonneg_right (by omega) (by omega)
    have n1 : ((N : Int) * ((N : Int) - 1)).natAbs ≤ 1000000001 * 1000000001 := nm (by omega) (by omega)
    have n2 : 0 ≤ (N : Int) * ((N : Int) - 1) := by
      rcases Nat.eq_zero_or_pos N with h | h
      · subst h; decide
      · exact Int.mul_nonneg (by omega) (by omega)
    have n3 : L N * (L N - 1) / 2 = L (tri N) := by
      rw [l1, L_sub, L_mul, l2, L_div ⟨by omega, by omega⟩ ⟨by decide, by decide⟩, Int.tdiv_eq_ediv_of_nonneg n2, tri_div]
    rw [e_X5_floorSum_20, if_neg e1, if_neg e2, fdiv_ok z ⟨by omega, by omega⟩ ⟨by omega, by omega⟩ (by omega), fdiv_ok z ⟨by omega, by omega⟩ ⟨by omega, by omega⟩ (by omega), fmod_ok z ⟨by omega, by omega⟩ ⟨by omega, by omega⟩ (by omega), fmod_ok z ⟨by omega, by omega⟩ ⟨by omega, by omega⟩ (by omega)]
    simp only [Option.bind_some]
    rw [n3]
    simp only [L_mul, L_add]
    by_cases c : (m : Int) ≤ a % (m : Int) * (N : Int) + b % (m : Int)
    · rw [if_pos (by rw [L_le ⟨by omega, by omega⟩ ⟨by omega, by omega⟩]; exact c), if_neg (L_ne0 (by omega) (by omega)), if_neg (L_ne0 (by omega) (by omega)), L_rem ⟨by omega, by omega⟩ ⟨by omega, by omega⟩, L_div ⟨by omega, by omega⟩ ⟨by omega, by omega⟩, Int.tdiv_eq_ediv_of_nonneg t1, Int.tmod_eq_emod_of_nonneg t1, j1, J_add]
      exact k1 c
    · rw [if_neg (by rw [L_le ⟨by omega, by omega⟩ ⟨by omega, by omega⟩]; exact c)]
      exact k2 (by omega)
  induction d with
  | zero =>
    intro n t a b m N i hs hm hm2 hN ha hb hn hi hi2
    obtain ⟨n, rfl⟩ : ∃ w, n = w + 1 := ⟨n - 1, by omega⟩
    have r1 := Int.emod_nonneg a (b := (m : Int)) (by omega)
    have s1 := Int.emod_nonneg b (b := (m : Int)) (by omega)
    have s2 := Int.emod_lt_of_pos b (b := (m : Int)) (by omega)
    have r0 : a % (m : Int) = 0 := by
      have : (a % (m : Int)).toNat = 0 := hs
      omega
    refine main n t a b m N i _ hm hm2 hN ha hb hi (by omega) (fun h => ?_) (fun h => ?_)
    · rw [r0, Int.zero_mul] at h
      omega
    · rw [Sf_red (show (0 : Int) < m by omega) a b N, Sf_small (by omega) r1 s1 h, Int.add_zero, Int.mul_comm (tri N)]
  | succ d ih =>
    intro n t a b m N i hs hm hm2 hN ha hb hn hi hi2
    obtain ⟨n, rfl⟩ : ∃ w, n = w + 1 := ⟨n - 1, by omega⟩
    have r1 := Int.emod_nonneg a (b := (m : Int)) (by omega)
    have r2 := Int.emod_lt_of_pos a (b := (m : Int)) (by omega)
    have s1 := Int.emod_nonneg b (b := (m : Int)) (by omega)
    have s2 := Int.emod_lt_of_pos b (b := (m : Int)) (by omega)
    refine main n t a b m N i _ hm hm2 hN ha hb hi (by omega) (fun h => ?_) (fun h => ?_)
    · obtain ⟨r, hr⟩ : ∃ w : Nat, a % (m : Int) = w := ⟨(a % (m : Int)).toNat, by omega⟩
      have r0 : 0 < r := by
        rcases Nat.eq_zero_or_pos r with h9 | h9
        · rw [hr, h9] at h
          simp at h
          omega
        · exact h9
      obtain ⟨t1, t2, t3, t4⟩ := top_bd r1 r2 s1 s2 (show 0 ≤ (N : Int) by omega)
      have u1 := Int.emod_nonneg (a % (m : Int) * (N : Int) + b % (m : Int)) (b := (m : Int)) (by omega)
      have u2 := Int.emod_lt_of_pos (a % (m : Int) * (N : Int) + b % (m : Int)) (b := (m : Int)) (by omega)
      have hs2 : St d (m % r) r := by
        have h9 := hs
        rw [hr] at h9
        exact h9.resolve_left (by show ¬ r = 0; omega)
      rw [Sf_red (show (0 : Int) < m by omega) a b N, Sf_swap (by omega) (by omega) s1 s2, Int.mul_comm (a / (m : Int))]
      obtain ⟨N', hN'⟩ : ∃ w : Nat, (a % (m : Int) * (N : Int) + b % (m : Int)) / (m : Int) = w := ⟨((a % (m : Int) * (N : Int) + b % (m : Int)) / (m : Int)).toNat, by omega⟩
      rw [hN'] at t2 t3 ⊢
      rw [show ((N' : Int)).toNat = N' from rfl]
      generalize (a % (m : Int) * (N : Int) + b % (m : Int)) % (m : Int) = B at *
      rw [hr]
      refine (ih n _ (m : Int) B r N' (i + 1) ?_ r0 (by omega) (by omega) (by omega) (by omega) (by omega) (by omega) (by omega)).trans (by rw [Int.add_assoc])
      have : ((m : Int) % (r : Int)).toNat = m % r := rfl
      rw [this]
      exact hs2
    · rw [Sf_red (show (0 : Int) < m by omega) a b N, Sf_small (by omega) r1 s1 h, Int.add_zero, Int.mul_comm (tri N)]
theorem floorSum_ok {z : Nat} (hz : 200 ≤ z) {a b : Int} {m N : Nat} (hm : 0 < m) (hm2 : m ≤ 1000000) (hN : N ≤ 1000000001) (ha : a.natAbs ≤ 1000000) (hb : b.natAbs ≤ 1000000) : F_X5_floorSum z (L a) (L b) (L m) (L N) = some (L (Sf a b m N)) := by
  have r1 := Int.emod_nonneg a (b := (m : Int)) (by omega)
  have r2 := Int.emod_lt_of_pos a (b := (m : Int)) (by omega)
  unfold F_X5_floorSum
  have h := fs_loop z 60 z 0 a b m N 0 (St_of 30 _ _ (by show _ < 1073741824; omega)) hm hm2 hN ha hb (by omega) (by omega) (by omega)
  rw [Int.zero_add] at h
  exact h
theorem fl_loop (z : Nat) (d : Nat) : ∀ (n : Nat) (t a b : Int) (m N : Nat), St d (a % (m : Int)).toNat m → 0 < m → m ≤ 1000000 → N ≤ 1000000001 → 0 ≤ a → a ≤ 1000000 → 0 ≤ b → b ≤ 1000000 → d + 1 ≤ n → G_X7_floors_17 z n (L t) (L a) (L b) (L m) (L N) = some (L (t + Sf a b m N)) := by
  have main : ∀ (n : Nat) (t a b : Int) (m N : Nat) (Z : Option Int64), 0 < m → m ≤ 1000000 → N ≤ 1000000001 → 0 < N → 0 ≤ a → a ≤ 1000000 → 0 ≤ b → b ≤ 1000000 → ((m : Int) ≤ a % (m : Int) * (N : Int) + b % (m : Int) → G_X7_floors_17 z n (L (t + (a / (m : Int) * tri N + (b / (m : Int)) * (N : Int)))) (L m) (L ((a % (m : Int) * (N : Int) + b % (m : Int)) % (m : Int))) (L (a % (m : Int))) (L ((a % (m : Int) * (N : Int) + b % (m : Int)) / (m : Int))) = Z) → (a % (m : Int) * (N : Int) + b % (m : Int) < (m : Int) → some (L (t + (a / (m : Int) * tri N + (b / (m : Int)) * (N : Int)))) = Z) → G_X7_floors_17 z (n + 1) (L t) (L a) (L b) (L m) (L N) = Z := by
    intro n t a b m N Z hm hm2 hN hN0 ha ha2 hb hb2 k1 k2
    have r1 := Int.emod_nonneg a (b := (m : Int)) (by omega)
    have r2 := Int.emod_lt_of_pos a (b := (m : Int)) (by omega)
    have s1 := Int.emod_nonneg b (b := (m : Int)) (by omega)
    have s2 := Int.emod_lt_of_pos b (b := (m : Int)) (by omega)
    obtain ⟨t1, t2, t3, t4⟩ := top_bd r1 r2 s1 s2 (show 0 ≤ (N : Int) by omega)
    have t5 : (m : Int) * (N : Int) ≤ 1000000 * (N : Int) := Int.mul_le_mul_of_nonneg_right (by omega) (by omega)
    have nm0 : ¬ L m = 0 := L_ne0 (by omega) (by omega)
    have htri : 2 * tri N = (N : Int) * ((N : Int) - 1) := sm_tri N
    have body : ∀ t0 : Int64, t0 = L (tri N) → G_X7_floors_67 z (G_X7_floors_17 z n) (L a) (L b) (L m) (L N) t0 (L a / L m) (L t) = Z := by
      intro t0 h0
      unfold G_X7_floors_67
      simp only [Option.bind_some]
      rw [h0, if_neg nm0, if_neg nm0, if_neg nm0, L_div ⟨by omega, by omega⟩ ⟨by omega, by omega⟩, L_div ⟨by omega, by omega⟩ ⟨by omega, by omega⟩, Int.tdiv_eq_ediv_of_nonneg ha, Int.tdiv_eq_ediv_of_nonneg hb]
      have q1 : L a - L (a / (m : Int)) * L m = L (a % (m : Int)) := by
        rw [L_mul, L_sub]
        congr 1
        have := Int.emod_add_mul_ediv a (m : Int)
        rw [Int.mul_comm]; omega
      have q2 : L b - L (b / (m : Int)) * L m = L (b % (m : Int)) := by
        rw [L_mul, L_sub]
        congr 1
        have := Int.emod_add_mul_ediv b (m : Int)
        rw [Int.mul_comm]; omega
      rw [q1, q2]
      simp only [L_mul, L_add]
      by_cases c : (m : Int) ≤ a % (m : Int) * (N : Int) + b % (m : Int)
      · rw [if_pos (by rw [L_le ⟨by omega, by omega⟩ ⟨by omega, by omega⟩]; exact c), if_neg nm0, if_neg nm0, L_rem ⟨by omega, by omega⟩ ⟨by omega, by omega⟩, L_div ⟨by omega, by omega⟩ ⟨by omega, by omega⟩, Int.tdiv_eq_ediv_of_nonneg t1, Int.tmod_eq_emod_of_nonneg t1]
        exact k1 c
      · rw [if_neg (by rw [L_le ⟨by omega, by omega⟩ ⟨by omega, by omega⟩]; exact c)]
        exact k2 (by omega)
    rw [e_X7_floors_17, if_neg (by rw [l0, L_le ⟨by omega, by omega⟩ b60]; omega), if_neg nm0, l2]
    have par : L N - L N / L 2 * L 2 = L ((N % 2 : Nat) : Int) := L_natrem (b := 2) (by omega) (by decide)
    rw [par]
    by_cases c : N % 2 = 0
    · rw [c, if_pos (show L ((0 : Nat) : Int) = 0 from rfl)]
      refine body _ ?_
      rw [show L N / L 2 = L ((N / 2 : Nat) : Int) from L_natdiv (b := 2) (by omega) (by decide), l1, L_sub, L_mul]
      congr 1
      obtain ⟨k, rfl⟩ : ∃ k, N = 2 * k := ⟨N / 2, by omega⟩
      have e1 : 2 * k / 2 = k := by omega
      rw [e1]
      rw [Int.natCast_mul] at htri ⊢
      have e2 : 2 * tri (2 * k) = 2 * ((k : Int) * (((2 : Nat) : Int) * (k : Int) - 1)) := by rw [htri]; grind
      omega
    · have c1 : N % 2 = 1 := by omega
      rw [c1, if_neg (show ¬ L ((1 : Nat) : Int) = 0 by decide +kernel)]
      refine body _ ?_
      have e0 : L N - 1 = L ((N - 1 : Nat) : Int) := by rw [l1, L_sub]; congr 1; omega
      rw [e0, show L ((N - 1 : Nat) : Int) / L 2 = L (((N - 1) / 2 : Nat) : Int) from L_natdiv (b := 2) (by omega) (by decide), L_mul]
      congr 1
      obtain ⟨k, rfl⟩ : ∃ k, N = 2 * k + 1 := ⟨N / 2, by omega⟩
      have e1 : (2 * k + 1 - 1) / 2 = k := by omega
      rw [e1]
      have e2 : 2 * tri (2 * k + 1) = 2 * ((k : Int) * ((2 * k + 1 : Nat) : Int)) := by
        rw [htri, Int.natCast_add, Int.natCast_mul]; grind
      omega
  have none0 : ∀ (n : Nat) (t a b : Int) (m : Nat), 1 ≤ n → G_X7_floors_17 z n (L t) (L a) (L b) (L m) (L ((0 : Nat) : Int)) = some (L (t + Sf a b m 0)) := by
    intro n t a b m hn
    obtain ⟨n, rfl⟩ : ∃ w, n = w + 1 := ⟨n - 1, by omega⟩
    rw [e_X7_floors_17, if_pos (by decide +kernel), show Sf a b m 0 = 0 from rfl, Int.add_zero]
  induction d with
  | zero =>
    intro n t a b m N hs hm hm2 hN ha ha2 hb hb2 hn
    by_cases hN0 : N = 0
    · subst hN0; exact none0 n t a b m (by omega)
    obtain ⟨n, rfl⟩ : ∃ w, n = w + 1 := ⟨n - 1, by omega⟩
    have r1 := Int.emod_nonneg a (b := (m : Int)) (by omega)
    have s1 := Int.emod_nonneg b (b := (m : Int)) (by omega)
    have s2 := Int.emod_lt_of_pos b (b := (m : Int)) (by omega)
    have r0 : a % (m : Int) = 0 := by
      have : (a % (m : Int)).toNat = 0 := hs
      omega
    refine main n t a b m N _ hm hm2 hN (by omega) ha ha2 hb hb2 (fun h => ?_) (fun h => ?_)
    · rw [r0, Int.zero_mul] at h
      omega
    · rw [Sf_red (show (0 : Int) < m by omega) a b N, Sf_small (by omega) r1 s1 h, Int.add_zero, Int.mul_comm (N : Int)]
  | succ d ih =>
    intro n t a b m N hs hm hm2 hN ha ha2 hb hb2 hn
    by_cases hN0 : N = 0
    · subst hN0; exact none0 n t a b m (by omega)
    obtain ⟨n, rfl⟩ : ∃ w, n = w + 1 := ⟨n - 1, by omega⟩
    have r1 := Int.emod_nonneg a (b := (m : Int)) (by omega)
    have r2 := Int.emod_lt_of_pos a (b := (m : Int)) (by omega)
    have s1 := Int.emod_nonneg b (b := (m : Int)) (by omega)
    have s2 := Int.emod_lt_of_pos b (b := (m : Int)) (by omega)
    refine main n t a b m N _ hm hm2 hN (by omega) ha ha2 hb hb2 (fun h => ?_) (fun h => ?_)
    · obtain ⟨r, hr⟩ : ∃ w : Nat, a % (m : Int) = w := ⟨(a % (m : Int)).toNat, by omega⟩
      have r0 : 0 < r := by
        rcases Nat.eq_zero_or_pos r with h9 | h9
        · rw [hr, h9] at h
          simp at h
          omega
        · exact h9
      obtain ⟨t1, t2, t3, t4⟩ := top_bd r1 r2 s1 s2 (show 0 ≤ (N : Int) by omega)
      have u1 := Int.emod_nonneg (a % (m : Int) * (N : Int) + b % (m : Int)) (b := (m : Int)) (by omega)
      have u2 := Int.emod_lt_of_pos (a % (m : Int) * (N : Int) + b % (m : Int)) (b := (m : Int)) (by omega)
      have hs2 : St d (m % r) r := by
        have h9 := hs
        rw [hr] at h9
        exact h9.resolve_left (by show ¬ r = 0; omega)
      rw [Sf_red (show (0 : Int) < m by omega) a b N, Sf_swap (by omega) (by omega) s1 s2, Int.mul_comm (N : Int) (b / (m : Int))]
      obtain ⟨N', hN'⟩ : ∃ w : Nat, (a % (m : Int) * (N : Int) + b % (m : Int)) / (m : Int) = w := ⟨((a % (m : Int) * (N : Int) + b % (m : Int)) / (m : Int)).toNat, by omega⟩
      rw [hN'] at t2 t3 ⊢
      rw [show ((N' : Int)).toNat = N' from rfl]
      generalize (a % (m : Int) * (N : Int) + b % (m : Int)) % (m : Int) = B at *
      rw [hr]
      refine (ih n _ (m : Int) B r N' ?_ r0 (by omega) (by omega) (by omega) (by omega) (by omega) (by omega) (by omega)).trans (by rw [Int.add_assoc])
      have : ((m : Int) % (r : Int)).toNat = m % r := rfl
      rw [this]
      exact hs2
    · rw [Sf_red (show (0 : Int) < m by omega) a b N, Sf_small (by omega) r1 s1 h, Int.add_zero, Int.mul_comm (N : Int)]
theorem floors_ok {z : Nat} (hz : 200 ≤ z) {a b : Int} {m N : Nat} (hm : 0 < m) (hm2 : m ≤ 1000000) (hN : N ≤ 1000000001) (ha : 0 ≤ a) (ha2 : a ≤ 1000000) (hb : 0 ≤ b) (hb2 : b ≤ 1000000) : F_X7_floors z (L a) (L b) (L m) (L N) = some (L (Sf a b m N)) := by
  have r1 := Int.emod_nonneg a (b := (m : Int)) (by omega)
  have r2 := Int.emod_lt_of_pos a (b := (m : Int)) (by omega)
  unfold F_X7_floors
  have h := fl_loop z 60 z 0 a b m N (St_of 30 _ _ (by show _ < 1073741824; omega)) hm hm2 hN ha ha2 hb hb2 (by omega)
  rw [Int.zero_add] at h
  exact h
