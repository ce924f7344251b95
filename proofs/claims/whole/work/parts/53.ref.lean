/-! tell: the reference reads the text -/
theorem at_same {M : MS} {v : Int32} (h : mg_at M = v) : ms_at M v = M := by
  subst h; rfl
theorem by_J (X : Tx) (p : Nat) : X.1 p = J (X.1 p).toInt := (Int32.ofInt_toInt _).symm
theorem bey_same (M : MS) : ms_beyond M (mg_beyond M) = M := rfl
theorem here_end (z : Nat) {X : Tx} (hT : TxOk X) {M : MS} (hM : Mt X M) {q : Nat} (hq : q < 2000) (ha : mg_at M = J q) (hs : so (bv X q) ≠ 1) : G_X7_here_52 z M = some (J (bv X (past X 1 q)), ms_at M (J (past X 1 q))) := by
  have hX := hT.1
  rw [past_stop hX (by decide) hs, at_same ha]
  unfold G_X7_here_52
  rw [hM.2, ha]
  by_cases c : q < X.2
  · rw [if_neg (show ¬ J (X.2 : Int) ≤ J q by rw [J_le ⟨by omega, by omega⟩ ⟨by omega, by omega⟩]; omega), if_pos (ibJ (by omega) (by decide)), clampJ (by omega), hM.1, and255 (hT.2 q).1 (hT.2 q).2, bv_in c]
  · rw [if_pos (show J (X.2 : Int) ≤ J q by rw [J_le ⟨by omega, by omega⟩ ⟨by omega, by omega⟩]; omega), bv_end (by omega)]
    rfl
theorem here_loop (z : Nat) {X : Tx} (hT : TxOk X) : ∀ (n q : Nat) (M : MS), 301 - q ≤ n → q < 2000 → 0 < n → Mt X M → mg_at M = J q → G_X7_here_0 z n M = some (J (bv X (past X 1 q)), ms_at M (J (past X 1 q))) := by
  have hX := hT.1
  intro n
  induction n with
  | zero => intro q M h1 h2 h3; omega
  | succ n ih =>
    intro q M h1 h2 h3 hM ha
    rw [e_X7_here_0]
    by_cases c : q < X.2
    · have hr := hT.2 q
      have hb := bv_in c
      rw [hM.2, ha, if_neg (show ¬ J (X.2 : Int) ≤ J q by rw [J_le ⟨by omega, by omega⟩ ⟨by omega, by omega⟩]; omega), if_pos (ibJ (by omega) (by decide)), clampJ (by omega), hM.1, by_J X q]
      have q32 : J (X.1 q).toInt = 32 ↔ (X.1 q).toInt = 32 := by rw [show (32 : Int32) = J 32 from rfl, J_eq ⟨by omega, by omega⟩ ⟨by decide, by decide⟩]
      have q10 : J (X.1 q).toInt = 10 ↔ (X.1 q).toInt = 10 := by rw [show (10 : Int32) = J 10 from rfl, J_eq ⟨by omega, by omega⟩ ⟨by decide, by decide⟩]
      have go : so (bv X q) = 1 → G_X7_here_0 z n (ms_at M (J q + 1)) = some (J (bv X (past X 1 q)), ms_at M (J (past X 1 q))) := by
        intro d
        rw [j1, J_add, past_go hX (by decide) d]
        exact (ih (q + 1) (ms_at M (J ((q + 1 : Nat) : Int))) (by omega) (by omega) (by omega) (Mt_at hM _) (p_at_at M _)).trans (by rw [p_at2])
      by_cases c1 : (X.1 q).toInt = 32
      · rw [if_pos (q32.mpr c1)]
        exact go ((so_1 _).mpr (by omega))
      · rw [if_neg (fun h => c1 (q32.mp h)), if_pos (ibJ (by omega) (by decide))]
        by_cases c2 : (X.1 q).toInt = 10
        · rw [if_pos (q10.mpr c2)]
          exact go ((so_1 _).mpr (by omega))
        · rw [if_neg (fun h => c2 (q10.mp h))]
          exact here_end z hT hM h2 ha (fun h => by have := (so_1 _).mp h; omega)
    · rw [if_pos (show mg_length M ≤ mg_at M by rw [hM.2, ha, J_le ⟨by omega, by omega⟩ ⟨by omega, by omega⟩]; omega)]
      exact here_end z hT hM h2 ha (by rw [bv_end (by omega), so_end]; decide)
theorem here_ok {z : Nat} (hz : 400 ≤ z) {X : Tx} (hT : TxOk X) {M : MS} (hM : Mt X M) {q : Nat} (hq : q < 2000) (ha : mg_at M = J q) : F_X7_here z M = some (J (bv X (past X 1 q)), ms_at M (J (past X 1 q))) :=
  (show F_X7_here z M = G_X7_here_0 z (z + 1) M from rfl).trans (here_loop z hT (z + 1) q M (by omega) hq (by omega) hM ha)
theorem fails_0 (z : Nat) {M : MS} (h : mg_fault M = 0) (a w : Int) : F_X7_fails z (J a) (J w) M = some (ms_fault M (J (a + 8 * w))) := by
  unfold F_X7_fails
  rw [if_pos h, show (8 : Int32) = J 8 from rfl, J_mul, J_add, Option.bind_some, Option.bind_some]
theorem fails_1 (z : Nat) {M : MS} (h : mg_fault M ≠ 0) (a w : Int32) : F_X7_fails z a w M = some M := by
  unfold F_X7_fails
  rw [if_neg h]
theorem dv_stop {X : Tx} {p : Nat} (h : so (bv X p) ≠ 3) (k : Nat) (a : Int) : dv X k p a = a := by
  cases k with
  | zero => rfl
  | succ k => rw [dv_s, if_neg h]
theorem number_loop (z : Nat) {X : Tx} (hT : TxOk X) {f : Nat} : ∀ (n p : Nat) (a : Int) (M : MS), 301 - p ≤ n → p ≤ 300 → f ≤ p → Mt X M → mg_at M = J p → mg_from M = J f → G_X7_number_24 z n (L a) M = G_X7_number_109 z (L (dv X (9 - (p - f)) p a)) (ms_at M (J (past X 3 p))) := by
  have hX := hT.1
  intro n
  induction n with
  | zero => intro p a M h1 h2; omega
  | succ n ih =>
    intro p a M h1 h2 h3 hM ha hf
    rw [e_X7_number_24]
    by_cases c : p < X.2
    · have hr := hT.2 p
      have hb := bv_in c
      rw [hM.2, ha, hf, if_neg (show ¬ J (X.2 : Int) ≤ J p by rw [J_le ⟨by omega, by omega⟩ ⟨by omega, by omega⟩]; omega), if_pos (ibJ (by omega) (by decide)), clampJ (by omega), hM.1, by_J X p, show (48 : Int64) = L 48 from rfl, show (57 : Int64) = L 57 from rfl, isinI z ⟨by omega, by omega⟩ ⟨by decide, by decide⟩ ⟨by decide, by decide⟩, Option.bind_some]
      by_cases d : so (bv X p) = 3
      · have d3 := (so_3 _).mp d
        rw [if_pos (show 48 ≤ (X.1 p).toInt ∧ (X.1 p).toInt ≤ 57 by omega), if_neg n10, J_sub, past_go hX (by decide) d]
        by_cases e : p - f < 9
        · rw [if_neg (show ¬ (9 : Int32) ≤ J ((p : Int) - f) by rw [show (9 : Int32) = J 9 from rfl, J_le ⟨by decide, by decide⟩ ⟨by omega, by omega⟩]; omega), if_pos (ibJ (by omega) (by decide)), J_L ⟨by omega, by omega⟩, show (10 : Int64) = L 10 from rfl, L_mul, L_add, L_sub, Option.bind_some, j1, J_add, Option.bind_some, Option.bind_some, show 9 - (p - f) = (9 - (p + 1 - f)) + 1 by omega, dv_s, if_pos d, show (X.1 p).toInt = bv X p by omega]
          exact (ih (p + 1) _ (ms_at M (J ((p + 1 : Nat) : Int))) (by omega) (by omega) (by omega) (Mt_at hM _) (p_at_at M _) ((p_from_at M _).trans hf)).trans (by rw [p_at2])
        · rw [if_pos (show (9 : Int32) ≤ J ((p : Int) - f) by rw [show (9 : Int32) = J 9 from rfl, J_le ⟨by decide, by decide⟩ ⟨by omega, by omega⟩]; omega), Option.bind_some, j1, J_add, Option.bind_some, show 9 - (p - f) = 0 by omega]
          have := ih (p + 1) a (ms_at M (J ((p + 1 : Nat) : Int))) (by omega) (by omega) (by omega) (Mt_at hM _) (p_at_at M _) ((p_from_at M _).trans hf)
          rw [show 9 - (p + 1 - f) = 0 by omega, p_at2] at this
          exact this
      · have d3 : ¬ (48 ≤ bv X p ∧ bv X p ≤ 57) := fun h => d ((so_3 _).mpr h)
        rw [if_neg (show ¬ (48 ≤ (X.1 p).toInt ∧ (X.1 p).toInt ≤ 57) by omega), if_pos rfl, dv_stop d, past_stop hX (by decide) d, at_same ha]
    · have d : so (bv X p) ≠ 3 := by rw [bv_end (by omega), so_end]; decide
      rw [if_pos (show mg_length M ≤ mg_at M by rw [hM.2, ha, J_le ⟨by omega, by omega⟩ ⟨by omega, by omega⟩]; omega), dv_stop d, past_stop hX (by decide) d, at_same ha]
theorem number_ok {z : Nat} (hz : 400 ≤ z) {X : Tx} (hT : TxOk X) {M : MS} (hM : Mt X M) {q : Nat} (hq : q ≤ X.2) (ha : mg_at M = J q) (hf : mg_fault M = 0) {p : Nat} (hp : past X 1 q = p) : (kd X p = -2 → F_X7_number z M = some (L (dv X 9 p 0), ms_at (ms_from M (J p)) (J (past X 3 p)))) ∧ (kd X p ≠ -2 → F_X7_number z M = some (L (dv X 9 p 0), ms_fault (ms_at (ms_from M (J p)) (J (past X 3 p))) (J (1 + 8 * (p : Int))))) := by
  have hX := hT.1
  obtain ⟨s1, s2, s3, -⟩ := past_spec hX (s := 1) (by decide) q
  rw [hp] at s1 s2 s3
  have s2 := s2 hq
  obtain ⟨t1, t2, t3, -⟩ := past_spec hX (s := 3) (by decide) p
  have t2 := t2 s2
  have hl := number_loop z hT (f := p) z p 0 (ms_from (ms_at M (J p)) (J p)) (by omega) (by omega) (by omega) (Mt_from (Mt_at hM _) _) (by rw [p_at_from, p_at_at]) (p_from_from _ _)
  rw [Nat.sub_self, p_at_from_at] at hl
  have base : F_X7_number z M = G_X7_number_109 z (L (dv X 9 p 0)) (ms_at (ms_from M (J p)) (J (past X 3 p))) := by
    unfold F_X7_number
    rw [here_ok hz hT hM (by omega) ha, bd2_some, hp, Option.bind_some, Option.bind_some, p_fault_from, p_fault_at, if_pos hf, p_at_at]
    exact hl
  rw [base]
  unfold G_X7_number_109
  rw [p_at_at, p_from_at, p_from_from, J_sub, l1, show (9 : Int64) = L 9 from rfl, isinI z ⟨by omega, by omega⟩ b61 ⟨by decide, by decide⟩, Option.bind_some]
  have k1 : kd X p = -2 ↔ (1 ≤ ((past X 3 p : Nat) : Int) - p ∧ ((past X 3 p : Nat) : Int) - p ≤ 9) := by
    rw [kd_n]
    constructor
    · intro ⟨h1, h2⟩
      have := past_go hX (s := 3) (by decide) h1
      obtain ⟨u1, -, -, -⟩ := past_spec hX (s := 3) (by decide) (p + 1)
      omega
    · intro ⟨h1, h2⟩
      refine ⟨?_, by omega⟩
      apply Classical.byContradiction
      intro h3
      have := past_stop hX (s := 3) (by decide) h3
      omega
  constructor
  · intro h
    rw [if_pos (k1.mp h), if_neg n10]
  · intro h
    rw [if_neg (fun g => h (k1.mpr g)), if_pos rfl]
    have := fails_0 z (M := ms_at (ms_from M (J p)) (J (past X 3 p))) (by rw [p_fault_at, p_fault_from, hf]) 1 p
    rw [j1, this, Option.bind_some]
/-! words -/
def wl (X : Tx) (p : Nat) : Nat → Int
  | 0 => 0
  | l + 1 => 32 * wl X p l + bv X (p + l) - 96
def wc (X : Tx) (p l : Nat) : Int := if l ≤ 4 then wl X p l else 0
theorem wrd_loop (z : Nat) (fs : MS → Option MS) {X : Tx} (hT : TxOk X) {p : Nat} : ∀ (n l : Nat) (M : MS), 301 - (p + l) ≤ n → p + l ≤ 300 → Mt X M → mg_at M = J ((p + l : Nat) : Int) → G_X7_laysWord_7 z fs n (J p) (J (wc X p l)) M = G_X7_laysWord_85 z fs (J p) (J (wc X p (past X 2 (p + l) - p))) (ms_at M (J (past X 2 (p + l)))) := by
  have hX := hT.1
  intro n
  induction n with
  | zero => intro l M h1 h2; omega
  | succ n ih =>
    intro l M h1 h2 hM ha
    rw [e_X7_laysWord_7]
    by_cases c : p + l < X.2
    · have hr := hT.2 (p + l)
      have hb := bv_in c
      rw [hM.2, ha, if_neg (show ¬ J (X.2 : Int) ≤ J ((p + l : Nat) : Int) by rw [J_le ⟨by omega, by omega⟩ ⟨by omega, by omega⟩]; omega), if_pos (ibJ (by omega) (by decide)), clampJ (by omega), hM.1, by_J X (p + l), show (97 : Int64) = L 97 from rfl, show (122 : Int64) = L 122 from rfl, isinI z ⟨by omega, by omega⟩ ⟨by decide, by decide⟩ ⟨by decide, by decide⟩, Option.bind_some]
      by_cases d : so (bv X (p + l)) = 2
      · have d3 := (so_2 _).mp d
        rw [if_pos (show 97 ≤ (X.1 (p + l)).toInt ∧ (X.1 (p + l)).toInt ≤ 122 by omega), if_neg n10, J_sub, past_go hX (by decide) d]
        by_cases e : l < 4
        · rw [if_neg (show ¬ (4 : Int32) ≤ J (((p + l : Nat) : Int) - p) by rw [show (4 : Int32) = J 4 from rfl, J_le ⟨by decide, by decide⟩ ⟨by omega, by omega⟩]; omega), if_pos (ibJ (by omega) (by decide)), show (32 : Int32) = J 32 from rfl, J_mul, J_add, show (96 : Int32) = J 96 from rfl, J_sub, Option.bind_some, j1, J_add, Option.bind_some, Option.bind_some, show (X.1 (p + l)).toInt = bv X (p + l) by omega]
          have w : 32 * wc X p l + bv X (p + l) - 96 = wc X p (l + 1) := by
            unfold wc
            rw [if_pos (by omega), if_pos (by omega)]
            rfl
          rw [w]
          exact (ih (l + 1) (ms_at M (J ((p + (l + 1) : Nat) : Int))) (by omega) (by omega) (Mt_at hM _) (p_at_at M _)).trans (by rw [p_at2, Nat.add_assoc])
        · rw [if_pos (show (4 : Int32) ≤ J (((p + l : Nat) : Int) - p) by rw [show (4 : Int32) = J 4 from rfl, J_le ⟨by decide, by decide⟩ ⟨by omega, by omega⟩]; omega), Option.bind_some, j1, J_add, Option.bind_some]
          have := ih (l + 1) (ms_at M (J ((p + (l + 1) : Nat) : Int))) (by omega) (by omega) (Mt_at hM _) (p_at_at M _)
          have w : wc X p (l + 1) = 0 := by unfold wc; rw [if_neg (by omega)]
          rw [w, p_at2, ← Nat.add_assoc] at this
          exact this
      · have d3 : ¬ (97 ≤ bv X (p + l) ∧ bv X (p + l) ≤ 122) := fun h => d ((so_2 _).mpr h)
        rw [if_neg (show ¬ (97 ≤ (X.1 (p + l)).toInt ∧ (X.1 (p + l)).toInt ≤ 122) by omega), if_pos rfl, past_stop hX (by decide) d, at_same ha, Nat.add_sub_cancel_left]
    · have d : so (bv X (p + l)) ≠ 2 := by rw [bv_end (by omega), so_end]; decide
      rw [if_pos (show mg_length M ≤ mg_at M by rw [hM.2, ha, J_le ⟨by omega, by omega⟩ ⟨by omega, by omega⟩]; omega), past_stop hX (by decide) d, at_same ha, Nat.add_sub_cancel_left]
theorem wc_kind {X : Tx} (hX : X.2 ≤ 300) {p : Nat} (h : so (bv X p) = 2) : (0 ≤ wc X p (past X 2 p - p) ∧ wc X p (past X 2 p - p) < 1000000) ∧ (wc X p (past X 2 p - p) = 19511 ↔ wk X p (past X 2 p) = -3) ∧ (wc X p (past X 2 p - p) = 19 ↔ wk X p (past X 2 p) = -4) ∧ (wc X p (past X 2 p - p) = 16649 ↔ wk X p (past X 2 p) = -5) := by
  obtain ⟨u1, -, -, -⟩ := past_spec hX (s := 2) (by decide) (p + 1)
  rw [← past_go hX (by decide) h] at u1
  obtain ⟨-, -, -, u2⟩ := past_spec hX (s := 2) (by decide) p
  have hlet : ∀ j, p ≤ j → j < past X 2 p → 97 ≤ bv X j ∧ bv X j ≤ 122 := fun j h1 h2 => (so_2 _).mp (u2 j h1 h2)
  obtain ⟨l, hl⟩ : ∃ l, past X 2 p = p + l := ⟨past X 2 p - p, by omega⟩
  rw [hl] at u1 hlet ⊢
  rw [Nat.add_sub_cancel_left]
  have g0 := hlet p (by omega) (by omega)
  unfold wk
  rcases (show l = 1 ∨ l = 2 ∨ l = 3 ∨ l = 4 ∨ 5 ≤ l by omega) with e | e | e | e | e
  · subst e
    have w : wc X p 1 = 32 * 0 + bv X p - 96 := rfl
    rw [w]
    refine ⟨by omega, ?_, ?_, ?_⟩ <;> (repeat' split) <;> omega
  · subst e
    have g1 := hlet (p + 1) (by omega) (by omega)
    have w : wc X p 2 = 32 * (32 * 0 + bv X p - 96) + bv X (p + 1) - 96 := rfl
    rw [w]
    refine ⟨by omega, ?_, ?_, ?_⟩ <;> (repeat' split) <;> omega
  · subst e
    have g1 := hlet (p + 1) (by omega) (by omega)
    have g2 := hlet (p + 2) (by omega) (by omega)
    have w : wc X p 3 = 32 * (32 * (32 * 0 + bv X p - 96) + bv X (p + 1) - 96) + bv X (p + 2) - 96 := rfl
    rw [w]
    refine ⟨by omega, ?_, ?_, ?_⟩ <;> (repeat' split) <;> omega
  · subst e
    have g1 := hlet (p + 1) (by omega) (by omega)
    have g2 := hlet (p + 2) (by omega) (by omega)
    have g3 := hlet (p + 3) (by omega) (by omega)
    have w : wc X p 4 = 32 * (32 * (32 * (32 * 0 + bv X p - 96) + bv X (p + 1) - 96) + bv X (p + 2) - 96) + bv X (p + 3) - 96 := rfl
    rw [w]
    refine ⟨by omega, ?_, ?_, ?_⟩ <;> (repeat' split) <;> omega
  · have w : wc X p l = 0 := by unfold wc; rw [if_neg (by omega)]
    rw [w]
    refine ⟨by omega, ?_, ?_, ?_⟩ <;> (repeat' split) <;> omega
/-! signs, brackets -/
theorem sign_live {z : Nat} (hz : 400 ≤ z) {X : Tx} (hT : TxOk X) {M : MS} (hM : Mt X M) {q : Nat} (hq : q < 2000) (ha : mg_at M = J q) (hf : mg_fault M = 0) {p : Nat} (hp : past X 1 q = p) {c : Int} (h0 : 0 ≤ c) (h256 : c < 256) : (bv X p = c → F_X7_sign z (J c) M = some (ms_at M (J ((p + 1 : Nat) : Int)))) ∧ (bv X p ≠ c → F_X7_sign z (J c) M = some (ms_at (ms_fault M (J (1 + 8 * (p : Int)))) (J ((p + 1 : Nat) : Int)))) := by
  have hb := bv_b X p
  unfold F_X7_sign
  rw [if_pos hf, here_ok hz hT hM hq ha, bd2_some, hp]
  constructor
  · intro h
    rw [if_pos (by rw [h]), Option.bind_some, Option.bind_some, p_at_at, p_at2, j1, J_add]
    rfl
  · intro h
    rw [if_neg (by rw [J_eq ⟨by omega, by omega⟩ ⟨by omega, by omega⟩]; exact h)]
    have := fails_0 z (M := ms_at M (J p)) ((p_fault_at M _).trans hf) 1 p
    rw [j1, p_at_at, this, Option.bind_some, Option.bind_some, Option.bind_some, p_at_fault, p_at_at, p_at_fault_at, J_add]
    rfl
theorem opens_live {z : Nat} (hz : 400 ≤ z) {X : Tx} (hT : TxOk X) {M : MS} (hM : Mt X M) {q : Nat} (hq : q < 2000) (ha : mg_at M = J q) (hf : mg_fault M = 0) {p : Nat} (hp : past X 1 q = p) (hp2 : p ≤ 300) {o : Nat} (ho : mg_open M = J o) (ho2 : o ≤ 9) : (bv X p = 40 → o ≠ 9 → F_X7_opens z M = some (ms_at (ms_open M (J ((o + 1 : Nat) : Int))) (J ((p + 1 : Nat) : Int)))) ∧ (bv X p = 40 → o = 9 → F_X7_opens z M = some (ms_at (ms_open (ms_fault M (J (2 + 8 * (p : Int)))) (J ((o + 1 : Nat) : Int))) (J ((p + 1 : Nat) : Int)))) ∧ (bv X p ≠ 40 → F_X7_opens z M = some (ms_at (ms_open (ms_fault M (J (1 + 8 * (p : Int)))) (J ((o + 1 : Nat) : Int))) (J ((p + 1 : Nat) : Int)))) := by
  have hb := bv_b X p
  have g43 : ∀ N : MS, mg_open N = J o → mg_at N = J p → G_X7_opens_43 z N = some (ms_at (ms_open N (J ((o + 1 : Nat) : Int))) (J ((p + 1 : Nat) : Int))) := by
    intro N h1 h2
    unfold G_X7_opens_43
    rw [Option.bind_some, Option.bind_some, Option.bind_some, Option.bind_some, p_at_open, h1, h2, j1, J_add, J_add]
    rfl
  have q40 : J (bv X p) = 40 ↔ bv X p = 40 := by rw [show (40 : Int32) = J 40 from rfl, J_eq ⟨by omega, by omega⟩ ⟨by decide, by decide⟩]
  have q9 : J (o : Int) = 9 ↔ o = 9 := by rw [show (9 : Int32) = J 9 from rfl, J_eq ⟨by omega, by omega⟩ ⟨by decide, by decide⟩]; omega
  have f0 : mg_fault (ms_at M (J p)) = 0 := (p_fault_at M _).trans hf
  have o0 : mg_open (ms_at M (J p)) = J o := (p_open_at M _).trans ho
  unfold F_X7_opens
  rw [if_pos hf, here_ok hz hT hM hq ha, bd2_some, hp]
  refine ⟨fun h1 h2 => ?_, fun h1 h2 => ?_, fun h1 => ?_⟩
  · rw [if_pos (q40.mpr h1)]
    unfold G_X7_opens_25
    rw [o0, if_neg (fun g => h2 (q9.mp g)), g43 (ms_at M (J p)) o0 (p_at_at M _), p_at_open_at]
  · rw [if_pos (q40.mpr h1)]
    unfold G_X7_opens_25
    rw [o0, if_pos (q9.mpr h2), p_at_at, j2, fails_0 z f0, Option.bind_some, g43 (ms_fault (ms_at M (J p)) (J (2 + 8 * (p : Int)))) ((p_open_fault _ _).trans o0) (by rw [p_at_fault, p_at_at]), p_at_open_fault_at]
  · have nf : mg_fault (ms_fault (ms_at M (J p)) (J (1 + 8 * (p : Int)))) ≠ 0 := by
      rw [p_fault_fault]
      show ¬ J (1 + 8 * (p : Int)) = 0
      rw [j0, J_eq ⟨by omega, by omega⟩ b30]; omega
    have o1 : mg_open (ms_fault (ms_at M (J p)) (J (1 + 8 * (p : Int)))) = J o := (p_open_fault _ _).trans o0
    have g2 := g43 (ms_fault (ms_at M (J p)) (J (1 + 8 * (p : Int)))) o1 (by rw [p_at_fault, p_at_at])
    rw [p_at_open_fault_at] at g2
    rw [if_neg (fun g => h1 (q40.mp g)), p_at_at, j1, fails_0 z f0, Option.bind_some]
    unfold G_X7_opens_25
    rw [o1]
    by_cases h2 : o = 9
    · rw [if_pos (q9.mpr h2), fails_1 z nf, Option.bind_some]
      exact g2
    · rw [if_neg (fun g => h2 (q9.mp g))]
      exact g2
/-! the pile -/
theorem piles_small {z : Nat} {M : MS} {u v : Int} {p : Nat} (hp : mg_piled M = J p) (hp2 : p < 300) (hu : mg_up M = L u) (hv : mg_under M = L v) (hu2 : u.natAbs ≤ 1000000000) (hv1 : 0 < v) (hv2 : v ≤ 1000000000) (w : Int32) : F_X7_piles z w M = some (ms_piled (ms_bottoms (ms_tops M (vp_updL (mg_tops M) p (L u))) (vp_updL (mg_bottoms M) p (L v))) (J ((p + 1 : Nat) : Int))) := by
  have hi : ib (J p) 300 = true := ibJ hp2 (by decide)
  unfold F_X7_piles
  rw [hu, size_ok z ⟨by omega, by omega⟩, Option.bind_some, lG, if_neg (show ¬ L 1000000000 < L (u.natAbs : Int) by rw [L_lt bG ⟨by omega, by omega⟩]; omega), hv, if_pos (show L v ≤ L 1000000000 by rw [L_le ⟨by omega, by omega⟩ bG]; omega)]
  unfold G_X7_piles_30
  rw [if_pos rfl]
  unfold G_X7_piles_48
  rw [if_pos rfl]
  unfold G_X7_piles_68
  rw [hp, if_pos hi, Option.bind_some, if_pos rfl, p_piled_tops, hp, if_pos hi, Option.bind_some, Option.bind_some, Option.bind_some, clampJ (by omega), p_under_tops, p_bottoms_tops, p_piled_bottoms, p_piled_tops, hv, hu, hp, j1, J_add]
  rfl
theorem piles_great {z : Nat} {M : MS} {u v : Int} {p : Nat} (hp : mg_piled M = J p) (hp2 : p < 300) (hu : mg_up M = L u) (hv : mg_under M = L v) (hu2 : u.natAbs ≤ 4611686018427387904) (hv1 : 0 < v) (hv2 : v ≤ 4611686018427387904) (hg : ¬ (u.natAbs ≤ 1000000000 ∧ v ≤ 1000000000)) (w : Int32) : F_X7_piles z w M = some (ms_piled (ms_bottoms (ms_tops (ms_beyond M (if mg_beyond M = -1 then w else mg_beyond M)) (vp_updL (mg_tops M) p 0)) (vp_updL (mg_bottoms M) p 1)) (J ((p + 1 : Nat) : Int))) := by
  have hi : ib (J p) 300 = true := ibJ hp2 (by decide)
  have t48 : ∀ N : MS, mg_piled N = J p → G_X7_piles_48 z (1 : Int32) N = some (ms_piled (ms_bottoms (ms_tops N (vp_updL (mg_tops N) p 0)) (vp_updL (mg_bottoms N) p 1)) (J ((p + 1 : Nat) : Int))) := by
    intro N hN
    unfold G_X7_piles_48
    rw [if_neg n10]
    unfold G_X7_piles_68
    rw [hN, if_pos hi, Option.bind_some, if_neg n10, p_piled_tops, hN, if_pos hi, Option.bind_some, Option.bind_some, Option.bind_some, clampJ (by omega), p_bottoms_tops, p_piled_bottoms, p_piled_tops, hN, j1, J_add]
    rfl
  have t30 : G_X7_piles_30 z w (1 : Int32) M = some (ms_piled (ms_bottoms (ms_tops (ms_beyond M (if mg_beyond M = -1 then w else mg_beyond M)) (vp_updL (mg_tops M) p 0)) (vp_updL (mg_bottoms M) p 1)) (J ((p + 1 : Nat) : Int))) := by
    unfold G_X7_piles_30
    rw [if_neg n10]
    by_cases c : mg_beyond M = -1
    · rw [if_pos c, if_pos c, Option.bind_some]
      rw [t48 (ms_beyond M w) ((p_piled_beyond M w).trans hp), p_tops_beyond, p_bottoms_beyond]
    · rw [if_neg c, if_neg c, t48 M hp, bey_same]
  unfold F_X7_piles
  rw [hu, size_ok z ⟨by omega, by omega⟩, Option.bind_some, lG, hv]
  by_cases c : u.natAbs ≤ 1000000000
  · rw [if_neg (show ¬ L 1000000000 < L (u.natAbs : Int) by rw [L_lt bG ⟨by omega, by omega⟩]; omega), if_neg (show ¬ L v ≤ L 1000000000 by rw [L_le ⟨by omega, by omega⟩ bG]; omega)]
    exact t30
  · rw [if_pos (show L 1000000000 < L (u.natAbs : Int) by rw [L_lt bG ⟨by omega, by omega⟩]; omega)]
    exact t30
