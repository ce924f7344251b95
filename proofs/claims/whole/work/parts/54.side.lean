/-! tell: both side by side: states before a FAULT and behind it -/
abbrev KC : Type := Int32 × Int32 × Int32 × Int32 × (Nat → Int32) × Int32 × Int32 × Int32
abbrev KM : Type := Int64 × Int64 × Int64 × Int64 × (Nat → Int32) × Int32 × Int32 × Int32 × Int64 × Int64
def Cl (X : Tx) (c : KC) (C : CS) (i : Nat) (x s : Int32) : Prop := TC X C ∧ kC C = c ∧ cg_refused C = 0 ∧ cg_at C = J i ∧ cg_token C = J (kd X (pos X i)) ∧ cg_exceeded C = x ∧ cg_sawSums C = s
def Cd (X : Tx) (c : KC) (C : CS) (r : Int32) : Prop := TC X C ∧ kC C = c ∧ cg_refused C = r ∧ cg_token C = -6
def Ml (X : Tx) (m : KM) (M : MS) (q o p : Nat) (b s : Int32) (T D : Nat → Int64) : Prop := kM M = m ∧ Mt X M ∧ mg_fault M = 0 ∧ mg_at M = J q ∧ mg_open M = J o ∧ mg_piled M = J p ∧ mg_beyond M = b ∧ mg_oftenNow M = s ∧ mg_tops M = T ∧ mg_bottoms M = D
def Md (X : Tx) (m : KM) (M : MS) (r : Int32) (b : Nat) : Prop := kM M = m ∧ Mt X M ∧ mg_fault M = r ∧ ∃ q : Nat, q ≤ b ∧ mg_at M = J q
def Ex (x b : Int32) : Prop := (x = 0 ∧ b = -1) ∨ ∃ w : Nat, w ≤ 300 ∧ x = J (3 + 8 * (w : Int)) ∧ b = J w
theorem Cl_adv {X : Tx} {c : KC} {C : CS} {i : Nat} {x s : Int32} (h : Cl X c C i x s) {v w : Int32} {i' : Nat} (hv : v = J i') (hw : w = J (kd X (pos X i'))) : Cl X c (cs_token (cs_at C v) w) i' x s := ⟨h.1, h.2.1, h.2.2.1, hv, hw, h.2.2.2.2.2.1, h.2.2.2.2.2.2⟩
theorem Cl_ref {X : Tx} {c : KC} {C : CS} {i : Nat} {x s : Int32} (h : Cl X c C i x s) (v : Int32) {w : Int32} (hw : w = -6) : Cd X c (cs_token (cs_refused C v) w) v := ⟨h.1, h.2.1, rfl, hw⟩
theorem Cl_ex {X : Tx} {c : KC} {C : CS} {i : Nat} {x s : Int32} (h : Cl X c C i x s) (v : Int32) : Cl X c (cs_exceeded C v) i v s := ⟨h.1, h.2.1, h.2.2.1, h.2.2.2.1, h.2.2.2.2.1, rfl, h.2.2.2.2.2.2⟩
theorem Cd_ex {X : Tx} {c : KC} {C : CS} {r : Int32} (h : Cd X c C r) (v : Int32) : Cd X c (cs_exceeded C v) r := h
theorem Cl_saw {X : Tx} {c : KC} {C : CS} {i : Nat} {x s : Int32} (h : Cl X c C i x s) (v : Int32) : Cl X c (cs_sawSums C v) i x v := ⟨h.1, h.2.1, h.2.2.1, h.2.2.2.1, h.2.2.2.2.1, h.2.2.2.2.2.1, rfl⟩
theorem Ml_at {X : Tx} {m : KM} {M : MS} {q o p : Nat} {b s : Int32} {T D : Nat → Int64} (h : Ml X m M q o p b s T D) {v : Int32} {q' : Nat} (hv : v = J q') : Ml X m (ms_at M v) q' o p b s T D := ⟨h.1, h.2.1, h.2.2.1, hv, h.2.2.2.2.1, h.2.2.2.2.2.1, h.2.2.2.2.2.2.1, h.2.2.2.2.2.2.2.1, h.2.2.2.2.2.2.2.2.1, h.2.2.2.2.2.2.2.2.2⟩
theorem Ml_from {X : Tx} {m : KM} {M : MS} {q o p : Nat} {b s : Int32} {T D : Nat → Int64} (h : Ml X m M q o p b s T D) (v : Int32) : Ml X m (ms_from M v) q o p b s T D := ⟨h.1, h.2.1, h.2.2.1, h.2.2.2.1, h.2.2.2.2.1, h.2.2.2.2.2.1, h.2.2.2.2.2.2.1, h.2.2.2.2.2.2.2.1, h.2.2.2.2.2.2.2.2.1, h.2.2.2.2.2.2.2.2.2⟩
theorem Ml_open {X : Tx} {m : KM} {M : MS} {q o p : Nat} {b s : Int32} {T D : Nat → Int64} (h : Ml X m M q o p b s T D) {v : Int32} {o' : Nat} (hv : v = J o') : Ml X m (ms_open M v) q o' p b s T D := ⟨h.1, h.2.1, h.2.2.1, h.2.2.2.1, hv, h.2.2.2.2.2.1, h.2.2.2.2.2.2.1, h.2.2.2.2.2.2.2.1, h.2.2.2.2.2.2.2.2.1, h.2.2.2.2.2.2.2.2.2⟩
theorem Ml_piled {X : Tx} {m : KM} {M : MS} {q o p : Nat} {b s : Int32} {T D : Nat → Int64} (h : Ml X m M q o p b s T D) {v : Int32} {p' : Nat} (hv : v = J p') : Ml X m (ms_piled M v) q o p' b s T D := ⟨h.1, h.2.1, h.2.2.1, h.2.2.2.1, h.2.2.2.2.1, hv, h.2.2.2.2.2.2.1, h.2.2.2.2.2.2.2.1, h.2.2.2.2.2.2.2.2.1, h.2.2.2.2.2.2.2.2.2⟩
theorem Ml_beyond {X : Tx} {m : KM} {M : MS} {q o p : Nat} {b s : Int32} {T D : Nat → Int64} (h : Ml X m M q o p b s T D) {v b' : Int32} (hv : v = b') : Ml X m (ms_beyond M v) q o p b' s T D := ⟨h.1, h.2.1, h.2.2.1, h.2.2.2.1, h.2.2.2.2.1, h.2.2.2.2.2.1, hv, h.2.2.2.2.2.2.2.1, h.2.2.2.2.2.2.2.2.1, h.2.2.2.2.2.2.2.2.2⟩
theorem Ml_oftenNow {X : Tx} {m : KM} {M : MS} {q o p : Nat} {b s : Int32} {T D : Nat → Int64} (h : Ml X m M q o p b s T D) {v s' : Int32} (hv : v = s') : Ml X m (ms_oftenNow M v) q o p b s' T D := ⟨h.1, h.2.1, h.2.2.1, h.2.2.2.1, h.2.2.2.2.1, h.2.2.2.2.2.1, h.2.2.2.2.2.2.1, hv, h.2.2.2.2.2.2.2.2.1, h.2.2.2.2.2.2.2.2.2⟩
theorem Ml_tops {X : Tx} {m : KM} {M : MS} {q o p : Nat} {b s : Int32} {T D : Nat → Int64} (h : Ml X m M q o p b s T D) {v T' : Nat → Int64} (hv : v = T') : Ml X m (ms_tops M v) q o p b s T' D := ⟨h.1, h.2.1, h.2.2.1, h.2.2.2.1, h.2.2.2.2.1, h.2.2.2.2.2.1, h.2.2.2.2.2.2.1, h.2.2.2.2.2.2.2.1, hv, h.2.2.2.2.2.2.2.2.2⟩
theorem Ml_bottoms {X : Tx} {m : KM} {M : MS} {q o p : Nat} {b s : Int32} {T D : Nat → Int64} (h : Ml X m M q o p b s T D) {v D' : Nat → Int64} (hv : v = D') : Ml X m (ms_bottoms M v) q o p b s T D' := ⟨h.1, h.2.1, h.2.2.1, h.2.2.2.1, h.2.2.2.2.1, h.2.2.2.2.2.1, h.2.2.2.2.2.2.1, h.2.2.2.2.2.2.2.1, h.2.2.2.2.2.2.2.2.1, hv⟩
theorem Ml_up {X : Tx} {m : KM} {M : MS} {q o p : Nat} {b s : Int32} {T D : Nat → Int64} (h : Ml X m M q o p b s T D) (v : Int64) : Ml X m (ms_up M v) q o p b s T D := ⟨h.1, h.2.1, h.2.2.1, h.2.2.2.1, h.2.2.2.2.1, h.2.2.2.2.2.1, h.2.2.2.2.2.2.1, h.2.2.2.2.2.2.2.1, h.2.2.2.2.2.2.2.2.1, h.2.2.2.2.2.2.2.2.2⟩
theorem Ml_under {X : Tx} {m : KM} {M : MS} {q o p : Nat} {b s : Int32} {T D : Nat → Int64} (h : Ml X m M q o p b s T D) (v : Int64) : Ml X m (ms_under M v) q o p b s T D := ⟨h.1, h.2.1, h.2.2.1, h.2.2.2.1, h.2.2.2.2.1, h.2.2.2.2.2.1, h.2.2.2.2.2.2.1, h.2.2.2.2.2.2.2.1, h.2.2.2.2.2.2.2.2.1, h.2.2.2.2.2.2.2.2.2⟩
theorem Ml_fault {X : Tx} {m : KM} {M : MS} {q o p : Nat} {b s : Int32} {T D : Nat → Int64} (h : Ml X m M q o p b s T D) (v : Int32) {B : Nat} (hB : q ≤ B) : Md X m (ms_fault M v) v B := ⟨h.1, h.2.1, rfl, q, hB, h.2.2.2.1⟩
theorem Md_at {X : Tx} {m : KM} {M : MS} {r : Int32} {b : Nat} (h : Md X m M r b) {v : Int32} {q b' : Nat} (hv : v = J q) (hq : q ≤ b') : Md X m (ms_at M v) r b' := ⟨h.1, h.2.1, h.2.2.1, q, hq, hv⟩
theorem Md_from {X : Tx} {m : KM} {M : MS} {r : Int32} {b : Nat} (h : Md X m M r b) (v : Int32) : Md X m (ms_from M v) r b := h
theorem Md_open {X : Tx} {m : KM} {M : MS} {r : Int32} {b : Nat} (h : Md X m M r b) (v : Int32) : Md X m (ms_open M v) r b := h
theorem Md_piled {X : Tx} {m : KM} {M : MS} {r : Int32} {b : Nat} (h : Md X m M r b) (v : Int32) : Md X m (ms_piled M v) r b := h
theorem Md_beyond {X : Tx} {m : KM} {M : MS} {r : Int32} {b : Nat} (h : Md X m M r b) (v : Int32) : Md X m (ms_beyond M v) r b := h
theorem Md_tops {X : Tx} {m : KM} {M : MS} {r : Int32} {b : Nat} (h : Md X m M r b) (v : Nat → Int64) : Md X m (ms_tops M v) r b := h
theorem Md_bottoms {X : Tx} {m : KM} {M : MS} {r : Int32} {b : Nat} (h : Md X m M r b) (v : Nat → Int64) : Md X m (ms_bottoms M v) r b := h
theorem Md_up {X : Tx} {m : KM} {M : MS} {r : Int32} {b : Nat} (h : Md X m M r b) (v : Int64) : Md X m (ms_up M v) r b := h
theorem Md_under {X : Tx} {m : KM} {M : MS} {r : Int32} {b : Nat} (h : Md X m M r b) (v : Int64) : Md X m (ms_under M v) r b := h
theorem rne {f : Int} {p : Nat} (hf : 1 ≤ f) (hf2 : f ≤ 3) (hp : p ≤ 300) : J (f + 8 * (p : Int)) ≠ 0 := by
  show ¬ J (f + 8 * (p : Int)) = 0
  rw [j0, J_eq ⟨by omega, by omega⟩ b30]; omega
theorem tok {C : CS} {k a : Int} (h : cg_token C = J k) (hk : -6 ≤ k ∧ k < 256) (ha : -6 ≤ a ∧ a < 256) : cg_token C = J a ↔ k = a := by
  rw [h, J_eq ⟨by omega, by omega⟩ ⟨by omega, by omega⟩]
theorem adv_live (z : Nat) {X : Tx} {c : KC} {C : CS} {i : Nat} {x s : Int32} (h : Cl X c C i x s) (hi : i < 1000) : ∃ C', F_X3_advance z C = some C' ∧ Cl X c C' (i + 1) x s := by
  refine ⟨cs_token (cs_at C (J ((i + 1 : Nat) : Int))) (J (kd X (pos X (i + 1)))), ?_, Cl_adv h rfl rfl⟩
  unfold F_X3_advance
  rw [if_pos h.2.2.1, h.2.2.2.1, j1, J_add, Option.bind_some, Option.bind_some, c_at_at, show J ((i : Int) + 1) = J ((i + 1 : Nat) : Int) from rfl, kindAt_ok z (TC_at h.1 _) (by omega), bd2_some, Option.bind_some]
theorem ref_live (z : Nat) {X : Tx} {c : KC} {C : CS} {i : Nat} {x s : Int32} (h : Cl X c C i x s) (hi : i < 1000) (f : Int) : ∃ C', F_X3_refuse z (J f) C = some C' ∧ Cd X c C' (J (f + 8 * (pos X i : Int))) := by
  refine ⟨cs_token (cs_refused C (J (f + 8 * (pos X i : Int)))) (-6), ?_, Cl_ref h _ rfl⟩
  unfold F_X3_refuse
  rw [if_pos h.2.2.1, h.2.2.2.1, placeAt_ok z h.1 (by omega), bd2_some, show (8 : Int32) = J 8 from rfl, J_mul, J_add, Option.bind_some, Option.bind_some, Option.bind_some]
theorem ref_dead (z : Nat) {X : Tx} {c : KC} {C : CS} {r : Int32} (h : Cd X c C r) (hr : r ≠ 0) (f : Int32) : F_X3_refuse z f C = some C := by
  unfold F_X3_refuse
  rw [if_neg (by rw [h.2.2.1]; exact hr)]
theorem pass_go (z : Nat) {X : Tx} {c : KC} {C : CS} {i : Nat} {x s : Int32} (h : Cl X c C i x s) (hi : i < 1000) {a : Int} (hk : kd X (pos X i) = a) : ∃ C', F_X3_pass z (J a) C = some C' ∧ Cl X c C' (i + 1) x s := by
  obtain ⟨C', g1, g2⟩ := adv_live z h hi
  refine ⟨C', ?_, g2⟩
  unfold F_X3_pass
  rw [if_pos (by rw [h.2.2.2.2.1, hk]), g1, Option.bind_some]
theorem pass_no (z : Nat) {X : Tx} {c : KC} {C : CS} {i : Nat} {x s : Int32} (h : Cl X c C i x s) (hi : i < 1000) {a : Int} (ha : 0 ≤ a ∧ a < 256) (hk : kd X (pos X i) ≠ a) : ∃ C', F_X3_pass z (J a) C = some C' ∧ Cd X c C' (J (1 + 8 * (pos X i : Int))) := by
  obtain ⟨C', g1, g2⟩ := ref_live z h hi 1
  refine ⟨C', ?_, g2⟩
  unfold F_X3_pass
  rw [if_neg (fun g => hk ((tok h.2.2.2.2.1 (kd_b _ _) (by omega)).mp g)), j1, g1, Option.bind_some]
theorem pass_dead (z : Nat) {X : Tx} {c : KC} {C : CS} {r : Int32} (h : Cd X c C r) (hr : r ≠ 0) {a : Int} (ha : 0 ≤ a ∧ a < 256) : F_X3_pass z (J a) C = some C := by
  unfold F_X3_pass
  rw [if_neg (show ¬ cg_token C = J a by rw [h.2.2.2, show (-6 : Int32) = J (-6) from rfl, J_eq ⟨by decide, by decide⟩ ⟨by omega, by omega⟩]; omega), ref_dead z h hr, Option.bind_some]
theorem goes_go (z : Nat) {X : Tx} {c : KC} {C : CS} {i : Nat} {x s : Int32} (h : Cl X c C i x s) (hi : i < 1000) {o : Nat} (ho : o < 9) (hk : kd X (pos X i) = 40) : ∃ C', F_X3_goesIn z (J o) C = some (1, C') ∧ Cl X c C' (i + 1) x s := by
  obtain ⟨C', g1, g2⟩ := pass_go z h hi hk
  refine ⟨C', ?_, g2⟩
  unfold F_X3_goesIn
  rw [if_pos (show cg_token C = 40 by rw [h.2.2.2.2.1, hk]; rfl), if_pos (show J (o : Int) < 9 by rw [show (9 : Int32) = J 9 from rfl, J_lt ⟨by omega, by omega⟩ ⟨by decide, by decide⟩]; omega)]
  unfold G_X3_goesIn_23
  rw [show (40 : Int32) = J 40 from rfl, g1, Option.bind_some, if_pos g2.2.2.1]
theorem goes_9 (z : Nat) {X : Tx} {c : KC} {C : CS} {i : Nat} {x s : Int32} (hX : X.2 ≤ 300) (h : Cl X c C i x s) (hi : i < 1000) (hk : kd X (pos X i) = 40) : ∃ C', F_X3_goesIn z (J ((9 : Nat) : Int)) C = some (0, C') ∧ Cd X c C' (J (2 + 8 * (pos X i : Int))) := by
  obtain ⟨C', g1, g2⟩ := ref_live z h hi 2
  refine ⟨C', ?_, g2⟩
  have hp := (pos_ok hX i).1
  unfold F_X3_goesIn
  rw [if_pos (show cg_token C = 40 by rw [h.2.2.2.2.1, hk]; rfl), if_neg (show ¬ J ((9 : Nat) : Int) < 9 by decide), j2, g1, Option.bind_some, if_neg (by rw [g2.2.2.1]; exact rne (by decide) (by decide) (by omega))]
theorem goes_no (z : Nat) {X : Tx} {c : KC} {C : CS} {i : Nat} {x s : Int32} (hX : X.2 ≤ 300) (h : Cl X c C i x s) (hi : i < 1000) (o : Int32) (hk : kd X (pos X i) ≠ 40) : ∃ C', F_X3_goesIn z o C = some (0, C') ∧ Cd X c C' (J (1 + 8 * (pos X i : Int))) := by
  obtain ⟨C', g1, g2⟩ := pass_no z h hi (a := 40) (by decide) hk
  refine ⟨C', ?_, g2⟩
  have hp := (pos_ok hX i).1
  unfold F_X3_goesIn
  rw [if_neg (show ¬ cg_token C = 40 from fun g => hk ((tok h.2.2.2.2.1 (kd_b _ _) (a := 40) (by decide)).mp g))]
  unfold G_X3_goesIn_23
  rw [show (40 : Int32) = J 40 from rfl, g1, Option.bind_some, if_neg (by rw [g2.2.2.1]; exact rne (by decide) (by decide) (by omega))]
theorem rnum_go (z : Nat) {X : Tx} {c : KC} {C : CS} {i : Nat} {x s : Int32} (h : Cl X c C i x s) (hi : i < 1000) (hk : kd X (pos X i) = -2) (a0 a1 : Int32) (ha : a1 = 0 ∨ (a0 = 0 ∧ 1 ≤ dv X 9 (pos X i) 0)) : ∃ C', F_X3_readNumber z a0 a1 C = some (if a0 = 0 then L (dv X 9 (pos X i) 0) else L (-dv X 9 (pos X i) 0), C') ∧ Cl X c C' (i + 1) x s := by
  obtain ⟨C', g1, g2⟩ := adv_live z h hi
  refine ⟨C', ?_, g2⟩
  have hd := dv9 X (pos X i)
  have hn : nv X (pos X i) = dv X 9 (pos X i) 0 := by unfold nv; rw [if_pos hk]
  have e : (if a0 = 0 then some (L (dv X 9 (pos X i) 0), C') else some (-L (dv X 9 (pos X i) 0), C')) = some (if a0 = 0 then L (dv X 9 (pos X i) 0) else L (-dv X 9 (pos X i) 0), C') := by
    by_cases c0 : a0 = 0
    · rw [if_pos c0, if_pos c0]
    · rw [if_neg c0, if_neg c0, L_neg]
  unfold F_X3_readNumber
  rw [if_pos (show cg_token C = -2 by rw [h.2.2.2.2.1, hk]; rfl), h.2.2.2.1, numberAt_ok z h.1 (by omega), bd2_some, hn, J_L ⟨by omega, by omega⟩, Option.bind_some]
  by_cases c1 : a1 = 0
  · rw [if_pos c1, g1, Option.bind_some]
    exact e
  · obtain ⟨c2, c3⟩ : a0 = 0 ∧ 1 ≤ dv X 9 (pos X i) 0 := by
      rcases ha with g | g
      · exact absurd g c1
      · exact g
    rw [if_neg c1, if_pos c2, if_pos (show (1 : Int64) ≤ L (dv X 9 (pos X i) 0) by rw [l1, L_le b61 ⟨by omega, by omega⟩]; exact c3), g1, Option.bind_some]
    exact e
theorem rnum_bad (z : Nat) {X : Tx} {c : KC} {C : CS} {i : Nat} {x s : Int32} (h : Cl X c C i x s) (hi : i < 1000) (hk : kd X (pos X i) = -2) (a0 a1 : Int32) (ha : a1 ≠ 0) (hb : ¬ (a0 = 0 ∧ 1 ≤ dv X 9 (pos X i) 0)) : ∃ C', F_X3_readNumber z a0 a1 C = some (1, C') ∧ Cd X c C' (J (2 + 8 * (pos X i : Int))) := by
  obtain ⟨C', g1, g2⟩ := ref_live z h hi 2
  refine ⟨C', ?_, g2⟩
  have hd := dv9 X (pos X i)
  have hn : nv X (pos X i) = dv X 9 (pos X i) 0 := by unfold nv; rw [if_pos hk]
  unfold F_X3_readNumber
  rw [if_pos (show cg_token C = -2 by rw [h.2.2.2.2.1, hk]; rfl), h.2.2.2.1, numberAt_ok z h.1 (by omega), bd2_some, hn, J_L ⟨by omega, by omega⟩, Option.bind_some, if_neg ha]
  by_cases c0 : a0 = 0
  · rw [if_pos c0, if_neg (show ¬ (1 : Int64) ≤ L (dv X 9 (pos X i) 0) by rw [l1, L_le b61 ⟨by omega, by omega⟩]; exact fun g => hb ⟨c0, g⟩), j2, g1, Option.bind_some]
  · rw [if_neg c0, j2, g1, Option.bind_some]
theorem rnum_no (z : Nat) {X : Tx} {c : KC} {C : CS} {i : Nat} {x s : Int32} (h : Cl X c C i x s) (hi : i < 1000) (hk : kd X (pos X i) ≠ -2) (a0 a1 : Int32) : ∃ C', F_X3_readNumber z a0 a1 C = some (1, C') ∧ Cd X c C' (J (1 + 8 * (pos X i : Int))) := by
  obtain ⟨C', g1, g2⟩ := ref_live z h hi 1
  refine ⟨C', ?_, g2⟩
  unfold F_X3_readNumber
  rw [if_neg (show ¬ cg_token C = -2 from fun g => hk ((tok h.2.2.2.2.1 (kd_b _ _) (a := -2) (by decide)).mp g)), j1, g1, Option.bind_some]
theorem rnum_dead (z : Nat) {X : Tx} {c : KC} {C : CS} {r : Int32} (h : Cd X c C r) (hr : r ≠ 0) (a0 a1 : Int32) : F_X3_readNumber z a0 a1 C = some (1, C) := by
  unfold F_X3_readNumber
  rw [if_neg (show ¬ cg_token C = -2 by rw [h.2.2.2]; decide), ref_dead z h hr, Option.bind_some]
theorem rwhole_dead (z : Nat) {X : Tx} {c : KC} {C : CS} {r : Int32} (h : Cd X c C r) (hr : r ≠ 0) (a : Int32) : F_X3_readWhole z a C = some (1, C) := by
  unfold F_X3_readWhole
  rw [if_neg (show ¬ cg_token C = 45 by rw [h.2.2.2]; decide)]
  unfold G_X3_readWhole_14
  rw [if_pos rfl, rnum_dead z h hr, bd2_some]
/-! fractions within the bounds -/
def Gd (u : Int64 × Int64) : Prop := ∃ a b : Int, u = (L a, L b) ∧ 0 < b ∧ b ≤ 1000000000 ∧ a.natAbs ≤ 1000000000 ∧ Nat.gcd a.natAbs b.natAbs = 1
theorem Gd0 : Gd (0, 1) := ⟨0, 1, rfl, by decide, by decide, by decide, by decide⟩
theorem bnd_in (z : Nat) {u v : Int} (hv : 0 < v) (hu2 : u.natAbs ≤ 1000000000) (hv2 : v ≤ 1000000000) (a : Int32) (C : CS) : F_X3_bounded z (L u, L v) a C = some ((L u, L v), C) := by
  unfold F_X3_bounded F_X1_isWithin
  rw [show (L u, L v).1 = L u from rfl, show (L u, L v).2 = L v from rfl, lG, abs_ok ⟨by omega, by omega⟩, if_neg (show ¬ L 1000000000 < L (u.natAbs : Int) by rw [L_lt bG ⟨by omega, by omega⟩]; omega), if_neg (show ¬ L 1000000000 < L v by rw [L_lt bG ⟨by omega, by omega⟩]; omega), Option.bind_some, if_neg n10]
theorem bnd_out (z : Nat) {X : Tx} {u v : Int} (hv : 0 < v) (hu2 : u.natAbs ≤ 4611686018427387904) (hv2 : v ≤ 4611686018427387904) (hg : ¬ (u.natAbs ≤ 1000000000 ∧ v ≤ 1000000000)) {C : CS} (hC : TC X C) {j : Nat} (hj : j < 1000) : F_X3_bounded z (L u, L v) (J j) C = some ((0, 1), if cg_exceeded C = 0 then cs_exceeded C (J (3 + 8 * (pos X j : Int))) else C) := by
  have w : F_X1_isWithin z (L u, L v) (L 1000000000) = some 0 := by
    unfold F_X1_isWithin
    rw [show (L u, L v).1 = L u from rfl, show (L u, L v).2 = L v from rfl, abs_ok ⟨by omega, by omega⟩]
    by_cases c : u.natAbs ≤ 1000000000
    · rw [if_neg (show ¬ L 1000000000 < L (u.natAbs : Int) by rw [L_lt bG ⟨by omega, by omega⟩]; omega), if_pos (show L 1000000000 < L v by rw [L_lt bG ⟨by omega, by omega⟩]; omega)]
    · rw [if_pos (show L 1000000000 < L (u.natAbs : Int) by rw [L_lt bG ⟨by omega, by omega⟩]; omega)]
  unfold F_X3_bounded
  rw [lG, w, Option.bind_some, if_pos rfl]
  by_cases c : cg_exceeded C = 0
  · rw [if_pos c, if_pos c, placeAt_ok z hC (by omega), bd2_some, show (3 : Int32) = J 3 from rfl, show (8 : Int32) = J 8 from rfl, J_mul, J_add, Option.bind_some, Option.bind_some]
  · rw [if_neg c, if_neg c]
theorem bnd_dead (z : Nat) {X : Tx} {c : KC} {u v : Int} (hv : 0 < v) (hu2 : u.natAbs ≤ 4611686018427387904) (hv2 : v ≤ 4611686018427387904) (hg : Nat.gcd u.natAbs v.natAbs = 1) {C : CS} {r : Int32} (hC : Cd X c C r) {j : Nat} (hj : j < 1000) : ∃ w C', F_X3_bounded z (L u, L v) (J j) C = some (w, C') ∧ Gd w ∧ Cd X c C' r := by
  by_cases h : u.natAbs ≤ 1000000000 ∧ v ≤ 1000000000
  · exact ⟨_, _, bnd_in z hv h.1 h.2 _ C, ⟨u, v, rfl, hv, h.2, h.1, hg⟩, hC⟩
  · refine ⟨_, _, bnd_out z hv hu2 hv2 h hC.1 hj, Gd0, ?_⟩
    by_cases c0 : cg_exceeded C = 0
    · rw [if_pos c0]; exact Cd_ex hC _
    · rw [if_neg c0]; exact hC
/-- what is worked out, on both sides -/
theorem pile_in (z : Nat) {X : Tx} {m : KM} {M : MS} {q o p : Nat} {b s : Int32} {T D : Nat → Int64} (hM : Ml X m M q o p b s T D) (hp : p < 300) {u v : Int} (hv : 0 < v) (hu2 : u.natAbs ≤ 1000000000) (hv2 : v ≤ 1000000000) (w : Int32) : ∃ M', F_X7_piles z w (ms_under (ms_up M (L u)) (L v)) = some M' ∧ Ml X m M' q o (p + 1) b s (vp_updL T p (L u)) (vp_updL D p (L v)) := by
  have h2 := Ml_under (Ml_up hM (L u)) (L v)
  refine ⟨_, piles_small h2.2.2.2.2.2.1 hp (by rw [p_up_under, p_up_up]) (p_under_under _ _) hu2 hv hv2 w, ?_⟩
  exact Ml_piled (Ml_bottoms (Ml_tops h2 (by rw [h2.2.2.2.2.2.2.2.2.1])) (by rw [h2.2.2.2.2.2.2.2.2.2])) rfl
theorem bp (z : Nat) {X : Tx} (hX : X.2 ≤ 300) {c : KC} {m : KM} {C : CS} {M : MS} {i q o p : Nat} {x b s s' : Int32} {T D : Nat → Int64} (hC : Cl X c C i x s) (hM : Ml X m M q o p b s' T D) (hx : Ex x b) (hp : p < 300) {j : Nat} (hj : j < 1000) {u v : Int} (hv : 0 < v) (hu2 : u.natAbs ≤ 4611686018427387904) (hv2 : v ≤ 4611686018427387904) (hg : Nat.gcd u.natAbs v.natAbs = 1) : ∃ w C' M' x' b', F_X3_bounded z (L u, L v) (J j) C = some (w, C') ∧ F_X7_piles z (J (pos X j)) (ms_under (ms_up M (L u)) (L v)) = some M' ∧ Gd w ∧ Cl X c C' i x' s ∧ Ml X m M' q o (p + 1) b' s' (vp_updL T p w.1) (vp_updL D p w.2) ∧ Ex x' b' := by
  have hpj := (pos_ok hX j).1
  by_cases h : u.natAbs ≤ 1000000000 ∧ v ≤ 1000000000
  · obtain ⟨M', g1, g2⟩ := pile_in z hM hp hv h.1 h.2 (J (pos X j))
    exact ⟨(L u, L v), C, M', x, b, bnd_in z hv h.1 h.2 _ C, g1, ⟨u, v, rfl, hv, h.2, h.1, hg⟩, hC, g2, hx⟩
  · have h2 := Ml_under (Ml_up hM (L u)) (L v)
    have g1 := bnd_out z hv hu2 hv2 h hC.1 hj
    have g2 := piles_great (z := z) h2.2.2.2.2.2.1 hp (by rw [p_up_under, p_up_up]) (p_under_under _ _) hu2 hv hv2 h (J (pos X j))
    rw [h2.2.2.2.2.2.2.1] at g2
    have fin : ∀ b', (if b = -1 then J (pos X j) else b) = b' → Ml X m (ms_piled (ms_bottoms (ms_tops (ms_beyond (ms_under (ms_up M (L u)) (L v)) (if b = -1 then J (pos X j) else b)) (vp_updL (mg_tops (ms_under (ms_up M (L u)) (L v))) p 0)) (vp_updL (mg_bottoms (ms_under (ms_up M (L u)) (L v))) p 1)) (J ((p + 1 : Nat) : Int))) q o (p + 1) b' s' (vp_updL T p ((0, 1) : Int64 × Int64).1) (vp_updL D p ((0, 1) : Int64 × Int64).2) := fun b' hb' =>
      Ml_piled (Ml_bottoms (Ml_tops (Ml_beyond h2 hb') (by rw [h2.2.2.2.2.2.2.2.2.1])) (by rw [h2.2.2.2.2.2.2.2.2.2])) rfl
    rcases hx with ⟨e1, e2⟩ | ⟨w, e0, e1, e2⟩
    · refine ⟨_, _, _, J (3 + 8 * (pos X j : Int)), J (pos X j), g1, g2, Gd0, ?_, fin _ (by rw [if_pos e2]), Or.inr ⟨pos X j, by omega, rfl, rfl⟩⟩
      rw [if_pos (by rw [hC.2.2.2.2.2.1, e1])]
      exact Cl_ex hC _
    · refine ⟨_, _, _, x, b, g1, g2, Gd0, ?_, fin _ (by rw [if_neg (by rw [e2, jm1, J_eq ⟨by omega, by omega⟩ bm1]; omega)]), Or.inr ⟨w, e0, e1, e2⟩⟩
      rw [if_neg (by rw [hC.2.2.2.2.2.1, e1]; exact rne (by decide) (by decide) e0)]
      exact hC
/-- the pile behind a FAULT: whatever comes on it -/
theorem piles_dead (z : Nat) {X : Tx} {m : KM} {M : MS} {r : Int32} {b p : Nat} (h : Md X m M r b) (hp : mg_piled M = J p) (hp2 : p < 300) {u v : Int} (hv : 0 < v) (hu2 : u.natAbs ≤ 4611686018427387904) (hv2 : v ≤ 4611686018427387904) (w : Int32) : ∃ M', F_X7_piles z w (ms_under (ms_up M (L u)) (L v)) = some M' ∧ Md X m M' r b := by
  have h2 := Md_under (Md_up h (L u)) (L v)
  have p2 : mg_piled (ms_under (ms_up M (L u)) (L v)) = J p := by rw [p_piled_under, p_piled_up, hp]
  have u2 : mg_up (ms_under (ms_up M (L u)) (L v)) = L u := by rw [p_up_under, p_up_up]
  by_cases g : u.natAbs ≤ 1000000000 ∧ v ≤ 1000000000
  · exact ⟨_, piles_small p2 hp2 u2 (p_under_under _ _) g.1 hv g.2 _, Md_piled (Md_bottoms (Md_tops h2 _) _) _⟩
  · exact ⟨_, piles_great p2 hp2 u2 (p_under_under _ _) hu2 hv hv2 g _, Md_piled (Md_bottoms (Md_tops (Md_beyond h2 _) _) _) _⟩
theorem opp_ok {z : Nat} (hz : 200 ≤ z) {u v : Int} (hv : 0 < v) (hv2 : v ≤ 1000000000) (hu : u.natAbs ≤ 1000000000) (hg : Nat.gcd u.natAbs v.natAbs = 1) : F_X1_opposite z (L u, L v) = some (L (-u), L v) := by
  obtain ⟨u', v', e, r, -, -⟩ := init_ok hz (a := -u) (b := v) (n := 1000000000) (by omega) (by decide) hv (by omega)
  obtain ⟨e1, e2⟩ := Rd_uniq (by omega) r (show Rd (-u) v (-u) v from ⟨hv, by rw [Int.natAbs_neg]; exact hg, rfl⟩)
  rw [e1, e2] at e
  unfold F_X1_opposite
  show (F_X1_init z (-L u) (L v)).bind _ = _
  rw [L_neg, e, Option.bind_some]
theorem opp_gd {z : Nat} (hz : 200 ≤ z) {u : Int64 × Int64} (h : Gd u) : F_X1_opposite z u = some (-u.1, u.2) ∧ Gd (-u.1, u.2) := by
  obtain ⟨a, b, rfl, h1, h2, h3, h4⟩ := h
  refine ⟨?_, -a, b, ?_, h1, h2, by rw [Int.natAbs_neg]; exact h3, by rw [Int.natAbs_neg]; exact h4⟩
  · rw [opp_ok hz h1 h2 h3 h4]
    show _ = some (-L a, L b)
    rw [L_neg]
  · show (-L a, L b) = _
    rw [L_neg]
/-- the class's sum and product, and what the reference lays there -/
theorem plus_gd {z : Nat} (hz : 200 ≤ z) {u w : Int64 × Int64} (hu : Gd u) (hw : Gd w) : ∃ a b : Int, F_X1_plus z u w = some (L a, L b) ∧ (∀ S, F_X7_lays z (u.1 * w.2 + w.1 * u.2) (u.2 * w.2) S = some (ms_under (ms_up S (L a)) (L b))) ∧ 0 < b ∧ a.natAbs ≤ 4611686018427387904 ∧ b ≤ 4611686018427387904 ∧ Nat.gcd a.natAbs b.natAbs = 1 := by
  obtain ⟨p, q, rfl, h1, h2, h3, h4⟩ := hu
  obtain ⟨p', q', rfl, k1, k2, k3, k4⟩ := hw
  have e1 := nm (a := p) (b := q') (m := 1000000000) (n := 1000000000) h3 (by omega)
  have e2 := nm (a := p') (b := q) (m := 1000000000) (n := 1000000000) k3 (by omega)
  have e3 := nm (a := q) (b := q') (m := 1000000000) (n := 1000000000) (by omega) (by omega)
  have e4 : 0 < q * q' := Int.mul_pos h1 k1
  obtain ⟨a, b, g1, g2, g3, g4, g5, g6, g7⟩ := frac_ok hz (a := p * q' + p' * q) (b := q * q') (c := p * q' + p' * q) (d := q * q') (n := 2000000000000000000) (m := 2000000000000000000) (by omega) (by decide) e4 (by omega) (by omega) (by decide) e4 (by omega) rfl
  refine ⟨a, b, ?_, ?_, g3.1, by omega, by omega, g3.2.1⟩
  · unfold F_X1_plus
    show (F_X1_init z (L p * L q' + L p' * L q) (L q * L q')).bind _ = _
    rw [L_mul, L_mul, L_add, L_mul, g1, Option.bind_some]
  · intro S
    show F_X7_lays z (L p * L q' + L p' * L q) (L q * L q') S = _
    rw [L_mul, L_mul, L_add, L_mul, g2]
theorem prod_gd {z : Nat} (hz : 200 ≤ z) {u w : Int64 × Int64} (hu : Gd u) (hw : Gd w) : ∃ a b : Int, F_X1_product z u w = some (L a, L b) ∧ (∀ S, F_X7_lays z (u.1 * w.1) (u.2 * w.2) S = some (ms_under (ms_up S (L a)) (L b))) ∧ 0 < b ∧ a.natAbs ≤ 4611686018427387904 ∧ b ≤ 4611686018427387904 ∧ Nat.gcd a.natAbs b.natAbs = 1 := by
  obtain ⟨p, q, rfl, h1, h2, h3, h4⟩ := hu
  obtain ⟨p', q', rfl, k1, k2, k3, k4⟩ := hw
  have e1 := nm (a := p) (b := p') (m := 1000000000) (n := 1000000000) h3 k3
  have e3 := nm (a := q) (b := q') (m := 1000000000) (n := 1000000000) (by omega) (by omega)
  have e4 : 0 < q * q' := Int.mul_pos h1 k1
  obtain ⟨a, b, g1, g2, g3, g4, g5, g6, g7⟩ := frac_ok hz (a := p * p') (b := q * q') (c := p * p') (d := q * q') (n := 2000000000000000000) (m := 2000000000000000000) (by omega) (by decide) e4 (by omega) (by omega) (by decide) e4 (by omega) rfl
  refine ⟨a, b, ?_, ?_, g3.1, by omega, by omega, g3.2.1⟩
  · unfold F_X1_product
    show (F_X1_init z (L p * L p') (L q * L q')).bind _ = _
    rw [L_mul, L_mul, g1, Option.bind_some]
  · intro S
    show F_X7_lays z (L p * L p') (L q * L q') S = _
    rw [L_mul, L_mul, g2]
theorem saw_gd {z : Nat} (hz : 200 ≤ z) {u : Int64 × Int64} (hu : Gd u) : ∃ a b : Int, F_X1_sawOf z u = some (L a, L b) ∧ (∀ S, F_X7_laysSaw z u.1 u.2 S = some (ms_under (ms_up S (L a)) (L b))) ∧ 0 < b ∧ a.natAbs ≤ 4611686018427387904 ∧ b ≤ 4611686018427387904 ∧ Nat.gcd a.natAbs b.natAbs = 1 := by
  obtain ⟨p, q, rfl, h1, h2, h3, h4⟩ := hu
  obtain ⟨a, b, s1, s2, s3, s4, s5, s6⟩ := saw_ok hz h1 h2 h3
  refine ⟨a, b, s1, fun S => s2 S _ _ ?_, s3, by omega, by omega, s4⟩
  obtain ⟨u', v', e, r, -, -⟩ := lays_pos hz (a := p) (b := q) (n := 1000000000) h3 (by decide) h1 (by omega)
  obtain ⟨rfl, rfl⟩ := Rd_uniq (by omega) r (show Rd p q p q from ⟨h1, h4, rfl⟩)
  exact e S
