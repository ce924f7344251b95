/-! tell: a UNIT that is a word, brackets, or none -/
def Mx (c : KC) (m : KM) : Prop := ∃ a b d e : Int, a.natAbs ≤ 1000000000 ∧ b.natAbs ≤ 1000000000 ∧ d.natAbs ≤ 1000000000 ∧ e.natAbs ≤ 1000000000 ∧ a * e - b * d = 1 ∧ c.1 = J a ∧ c.2.1 = J b ∧ c.2.2.1 = J d ∧ c.2.2.2.1 = J e ∧ m.1 = L a ∧ m.2.1 = L b ∧ m.2.2.1 = L d ∧ m.2.2.2.1 = L e
theorem phi_side {z : Nat} (hz : 200 ≤ z) {c : KC} {m : KM} (h : Mx c m) {C : CS} {M : MS} (hC : kC C = c) (hM : kM M = m) : ∃ v : Int, v.natAbs ≤ 1000000010000000000 ∧ F_X2_companion z C = some (L v, C) ∧ F_X7_phi z M = some (L v, M) := by
  subst hC
  subst hM
  obtain ⟨a, b, d, e, h1, h2, h3, h4, h5, h6, h7, h8, h9, k1, k2, k3, k4⟩ := h
  exact phi_ok hz h1 h2 h3 h4 h5 h6 h7 h8 h9 k1 k2 k3 k4
theorem chk_eq (z : Nat) (r : Int64) (S : MS) (G : MS → Option MS) : (if mg_fault S = 0 then (if (0 : Int64) < r then G S else (F_X7_fails z (2 : Int32) (mg_from S) S).bind fun S17 => G S17) else G S) = (chk z r S).bind G := by
  unfold chk
  by_cases c1 : mg_fault S = 0
  · rw [if_pos c1, if_pos c1]
    by_cases c2 : (0 : Int64) < r
    · rw [if_pos c2, if_pos c2, Option.bind_some]
    · rw [if_neg c2, if_neg c2]
  · rw [if_neg c1, if_neg c1, Option.bind_some]
theorem s_chain {z : Nat} (hz : 400 ≤ z) {X : Tx} (hT : TxOk X) {c : KC} {m : KM} {C : CS} {M : MS} {i0 o p : Nat} {x b s s' : Int32} {T D : Nat → Int64} (h : Tst X c m C M i0 (o + 1) p x b s s' T D 305 True) (fM : MS → Option MS) (w : Int32) : ∃ (hh k : Int) (h' k' : Int64) (C8 : CS) (M8 : MS), hh.natAbs ≤ 1000000000 ∧ 1 ≤ k ∧ k ≤ 1000000000 ∧ (bd2 (F_X3_readWhole z (0 : Int32) C) fun r6 S7 => ((F_X3_pass z (44 : Int32) S7).bind fun S8 => (bd2 (F_X3_readWhole z (1 : Int32) S8) fun r9 S10 => ((F_X3_pass z (41 : Int32) S10).bind fun S11 => ((F_X1_ofSawSum z r6 r9).bind fun u12 => some (u12, S11)))))) = ((F_X1_ofSawSum z (L hh) (L k)).bind fun u12 => some (u12, C8)) ∧ (bd2 (F_X7_whole z M) fun r10 S11 => ((F_X7_sign z (44 : Int32) S11).bind fun S12 => (bd2 (F_X7_whole z S12) fun r13 S14 => (if (mg_fault S14) = 0 then (if (0 : Int64) < r13 then (G_X7_laysWord_202 z fM w r10 r13 S14) else ((F_X7_fails z (2 : Int32) (mg_from S14) S14).bind fun S17 => (G_X7_laysWord_202 z fM w r10 r13 S17))) else (G_X7_laysWord_202 z fM w r10 r13 S14))))) = (if mg_fault M8 = 0 then ((F_X7_laysSum z h' k' (ms_oftenNow M8 (mg_oftenNow M8 + 1))).bind fun S5 => (F_X7_piles z w S5).bind fun S6 => some S6) else some M8) ∧ Tst X c m C8 M8 (i0 + 4) o p x b s s' T D 309 (h' = L hh ∧ k' = L k) := by
  obtain ⟨hh, h', C1, M1, a1, a2, a3, a4⟩ := st_whole0 hz hT h (by decide) (by decide)
  obtain ⟨C2, M2, b1, b2, b3⟩ := st_pass hz hT a4 (by decide) (a := 44) (by decide) (by decide)
  obtain ⟨k, k', C3, M3, M4, c1, c2, c3, c4, c5, c6⟩ := st_whole1 hz hT b3 (by decide) (by decide)
  obtain ⟨C5, M5, d1, d2, d3⟩ := st_closes hz hT c6 (by decide)
  refine ⟨hh, k, h', k', C5, M5, a1, c1, c2, ?_, ?_, ?_⟩
  · rw [a2, bd2_some, show (44 : Int32) = J 44 from rfl, b1, Option.bind_some, c3, bd2_some, d1, Option.bind_some]
  · rw [a3, bd2_some, show (44 : Int32) = J 44 from rfl, b2, Option.bind_some, c4, bd2_some, chk_eq z k' M3 (fun S => G_X7_laysWord_202 z fM w h' k' S), c5, Option.bind_some]
    unfold G_X7_laysWord_202
    rw [d2, Option.bind_some, Option.bind_some, Option.bind_some]
  · rcases d3 with ⟨i, q, e1, e2, e3, e4, e5, e6, e7⟩ | g
    · exact Or.inl ⟨i, q, e1, e2, e3, e4, e5, e6, e7.1.2, e7.2⟩
    · exact Or.inr g
theorem U_word {z : Nat} (hz : 400 ≤ z) {X : Tx} (hT : TxOk X) {c : KC} {m : KM} (hmx : Mx c m) {d : Nat} (hd2 : d < 30) {fC : FC} {fM : MS → Option MS} (H : HS X c m d fC fM) {C : CS} {M : MS} {i q o p n : Nat} {T D : Nat → Int64} (hL : Lv X c m C M i q o p T D) (ho : o ≤ 9) (hd : 11 ≤ d + 1 + o) (hn : n ≤ 2 * i) (hpi : p ≤ i) (hs : so (bv X (pos X i)) = 2) : ∃ u C' n' M', F_X3_readUnit z fC n (J o) C = some (u, C', n') ∧ F_X7_unit z fM M = some M' ∧ Po X c m (400 + 20 * (d + 1)) i o p n T D u C' n' M' := by
  have hX := hT.1
  obtain ⟨hi, hq, hp, x, b, s, hC, hM, hx⟩ := hL
  have hpp := (pos_ok hX i).1
  have hlt : pos X i < X.2 := so_in (by omega)
  have hi3 : i < 300 := by rcases pos_ge hX i with g | g <;> omega
  obtain ⟨t1, t2⟩ := te_b hX hlt
  have nxt := pos_next hlt
  rw [te_w hs] at t1 t2 nxt
  have un : F_X7_unit z fM M = (G_X7_laysWord_85 z fM (J (pos X i)) (J (wc X (pos X i) (past X 2 (pos X i) - pos X i))) (ms_at M (J (past X 2 (pos X i))))).bind fun S => some S := by
    rw [unit_nn hz fM hT hM.2.1 (by omega) hM.2.2.2.1 hM.2.2.1 hp (by omega), if_pos ((so_2 _).mp hs)]
    have hl := wrd_loop z fM hT (p := pos X i) z 0 (ms_at M (J (pos X i))) (by omega) (by omega) (Mt_at hM.2.1 _) (p_at_at M _)
    rw [show wc X (pos X i) 0 = 0 from rfl, ← j0, Nat.add_zero, p_at2] at hl
    unfold F_X7_laysWord
    rw [Option.bind_some, p_at_at, hl]
  obtain ⟨⟨w1, w2⟩, w3, w4, w5⟩ := wc_kind hX hs
  have hkd : kd X (pos X i) = wk X (pos X i) (past X 2 (pos X i)) := by
    unfold kd
    rw [if_neg (by omega), if_pos hs]
  rw [← hkd] at w3 w4 w5
  generalize wc X (pos X i) (past X 2 (pos X i) - pos X i) = W at *
  have j3 : J W = 19511 ↔ W = 19511 := by rw [show (19511 : Int32) = J 19511 from rfl, J_eq ⟨by omega, by omega⟩ ⟨by decide, by decide⟩]
  have j4 : J W = 19 ↔ W = 19 := by rw [show (19 : Int32) = J 19 from rfl, J_eq ⟨by omega, by omega⟩ ⟨by decide, by decide⟩]
  have j5 : J W = 16649 ↔ W = 16649 := by rw [show (16649 : Int32) = J 16649 from rfl, J_eq ⟨by omega, by omega⟩ ⟨by decide, by decide⟩]
  have hwb := wk_b X (pos X i) (past X 2 (pos X i))
  rw [← hkd] at hwb
  have hM2 : Ml X m (ms_at M (J (past X 2 (pos X i)))) (past X 2 (pos X i)) o p b s T D := Ml_at hM rfl
  obtain ⟨C1, r1, r2⟩ := adv_live z hC (by omega)
  have htk : cg_token C = J (kd X (pos X i)) := hC.2.2.2.2.1
  rw [un]
  unfold G_X7_laysWord_85
  rcases (show kd X (pos X i) = -3 ∨ kd X (pos X i) = -4 ∨ kd X (pos X i) = -5 ∨ kd X (pos X i) = -6 by omega) with hk | hk | hk | hk
  · -- saw
    rw [if_pos (j3.mpr (w3.mpr hk))]
    have L2 : Lv X c m C1 (ms_at M (J (past X 2 (pos X i)))) (i + 1) (past X 2 (pos X i)) o p T D := ⟨by omega, t2, nxt, x, b, s, r2, hM2, hx⟩
    obtain ⟨u, C3, n3, M3, M4, M5, b1, b2, b3, b4, gu, i5, k1, k2, k3, k4⟩ := br hz hT hd2 H L2 ho hd (n := n) (by omega) (by omega)
    obtain ⟨a, e, s1, s2, s3, s4, s5, s6⟩ := saw_gd (z := z) (by omega) gu
    have ru : ∀ w C4, F_X3_bounded z (L a, L e) (J i) C3 = some (w, C4) → F_X3_readUnit z fC n (J o) C = some (w, C4, n3 + 1) := by
      intro w C4 hb
      unfold F_X3_readUnit
      rw [Option.bind_some, show cg_token C = -3 by rw [htk, hk]; rfl, if_neg (by decide), if_neg (by decide), if_pos rfl, r1, Option.bind_some, b1, bd3_some, if_pos (by omega), s1, Option.bind_some, Option.bind_some, hC.2.2.2.1, hb, bd2_some]
    rw [b2, Option.bind_some, b3, Option.bind_some, b4, Option.bind_some]
    rcases k4 with ⟨k5, k6, q5, T5, D5, ⟨-, l2, l3, x5, b5, s5', l4, l5, l6⟩, m1, m2, m3⟩ | ⟨r, hr, hC3, hM5⟩
    · obtain ⟨w, C4, M6, x', b', y1, y2, y3, y4, y5, y6⟩ := bp z hX l4 (Ml_piled l5 (v := J p) rfl) l6 (j := i) (by omega) (by omega) s3 s4 s5 s6
      refine ⟨w, C4, n3 + 1, M6, ru w C4 y1, ?_, Po_live y3 (i' := i5) (by omega) k2 (by omega) (by omega) l2 l3 y4 y5 y6 m3⟩
      have pm : mg_piled M5 - 1 = J p := by rw [l5.2.2.2.2.2.1, j1, J_sub, show (((p + 1 : Nat) : Int)) - 1 = (p : Int) by omega]
      rw [if_pos l5.2.2.1, pm, Option.bind_some, Option.bind_some, p_piled_piled, if_pos (ibJ (by omega) (by decide)), if_pos (ibJ (by omega) (by decide)), clampJ (by omega), p_tops_piled, p_bottoms_piled, l5.2.2.2.2.2.2.2.2.1, l5.2.2.2.2.2.2.2.2.2, m1, m2, s2, Option.bind_some, y2, Option.bind_some, Option.bind_some]
    · obtain ⟨w, C4, y1, y2, y3⟩ := bnd_dead z s3 s4 s5 s6 hC3 (j := i) (by omega)
      refine ⟨w, C4, n3 + 1, M5, ru w C4 y1, ?_, Po_dead y2 (i' := i5) (by omega) k2 (by omega) hr y3 hM5 (by omega)⟩
      rw [if_neg (show ¬ mg_fault M5 = 0 by rw [hM5.2.2.1]; exact hr), Option.bind_some]
  · -- s
    rw [if_neg (fun g => by have := w3.mp (j3.mp g); omega), if_pos (j4.mpr (w4.mpr hk))]
    have hC2 := Cl_saw r2 (s + 1)
    have hpp1 := (pos_ok hX (i + 1)).1
    obtain ⟨o1, o2, o3⟩ := opens_live hz hT hM2.2.1 (by omega) hM2.2.2.2.1 hM2.2.2.1 nxt (by omega) hM2.2.2.2.2.1 ho
    have rs : ∀ (r3 : Int32) (C3 : CS), F_X3_goesIn z (J o) (cs_sawSums C1 (s + 1)) = some (r3, C3) → F_X3_readSawSum z (J o) C1 = (if r3 = 0 then some (((0, 1) : Int64 × Int64), C3) else (bd2 (F_X3_readWhole z (0 : Int32) C3) fun r6 S7 => ((F_X3_pass z (44 : Int32) S7).bind fun S8 => (bd2 (F_X3_readWhole z (1 : Int32) S8) fun r9 S10 => ((F_X3_pass z (41 : Int32) S10).bind fun S11 => ((F_X1_ofSawSum z r6 r9).bind fun u12 => some (u12, S11))))))) := by
      intro r3 C3 hg
      unfold F_X3_readSawSum
      rw [Option.bind_some, Option.bind_some, r2.2.2.2.2.2.2, hg, bd2_some]
    have ru : ∀ u C3 w C4, F_X3_readSawSum z (J o) C1 = some (u, C3) → F_X3_bounded z u (J i) C3 = some (w, C4) → F_X3_readUnit z fC n (J o) C = some (w, C4, n + 1) := by
      intro u C3 w C4 h1 h2
      unfold F_X3_readUnit
      rw [Option.bind_some, show cg_token C = -4 by rw [htk, hk]; rfl, if_neg (by decide), if_pos rfl, r1, Option.bind_some, if_pos (by omega), h1, bd2_some, Option.bind_some, hC.2.2.2.1, h2, bd2_some]
    have dead : ∀ (f : Int) (C3 : CS) (M3 : MS), 1 ≤ f → f ≤ 3 → F_X3_goesIn z (J o) (cs_sawSums C1 (s + 1)) = some (0, C3) → Cd X c C3 (J (f + 8 * (pos X (i + 1) : Int))) → F_X7_opens z (ms_at M (J (past X 2 (pos X i)))) = some M3 → Md X m M3 (J (f + 8 * (pos X (i + 1) : Int))) 301 → ∃ u C' n' M', F_X3_readUnit z fC n (J o) C = some (u, C', n') ∧ (((F_X7_opens z (ms_at M (J (past X 2 (pos X i))))).bind fun S9 => (bd2 (F_X7_whole z S9) fun r10 S11 => ((F_X7_sign z (44 : Int32) S11).bind fun S12 => (bd2 (F_X7_whole z S12) fun r13 S14 => (if (mg_fault S14) = 0 then (if (0 : Int64) < r13 then (G_X7_laysWord_202 z fM (J (pos X i)) r10 r13 S14) else ((F_X7_fails z (2 : Int32) (mg_from S14) S14).bind fun S17 => (G_X7_laysWord_202 z fM (J (pos X i)) r10 r13 S17))) else (G_X7_laysWord_202 z fM (J (pos X i)) r10 r13 S14)))))).bind fun S => some S) = some M' ∧ Po X c m (400 + 20 * (d + 1)) i o p n T D u C' n' M' := by
      intro f C3 M3 f1 f2 a1 a2 a3 a4
      have rn0 := rne (f := f) (p := pos X (i + 1)) f1 f2 (by omega)
      obtain ⟨hh, k, h', k', C8, M8, c1, c2, c3, c4, c5, c6⟩ := s_chain hz hT (C := C3) (M := M3) (i0 := 0) (o := o) (p := p) (x := x) (b := b) (s := s) (s' := s) (T := T) (D := D) (Or.inr ⟨_, rn0, a2, Md_le a4 (by omega)⟩) fM (J (pos X i))
      obtain ⟨w, C4, y1, y2, y3⟩ := bnd_dead z (u := 0) (v := 1) (by decide) (by decide) (by decide) (by decide) a2 (j := i) (by omega)
      have hread : F_X3_readSawSum z (J o) C1 = some ((0, 1), C3) := by rw [rs 0 C3 a1, if_pos rfl]
      obtain ⟨v1, M4, g1, g2⟩ := whole_dead hz hT a4 rn0 (by omega) (by omega)
      obtain ⟨M5, g3, g4⟩ := sign_dead z g2 rn0 44
      obtain ⟨v2, M6, g5, g6⟩ := whole_dead hz hT g4 rn0 (by omega) (by omega)
      obtain ⟨M7, g7, g8⟩ := closes_dead z g6 rn0
      refine ⟨w, C4, n + 1, M7, ru _ _ _ _ hread y1, ?_, Po_dead y2 (i' := i + 1) (by omega) (by omega) (by omega) rn0 y3 g8 (by omega)⟩
      rw [a3, Option.bind_some, g1, bd2_some, g3, Option.bind_some, g5, bd2_some, if_neg (show ¬ mg_fault M6 = 0 by rw [g6.2.2.1]; exact rn0)]
      unfold G_X7_laysWord_202
      rw [g7, Option.bind_some, if_neg (show ¬ mg_fault M7 = 0 by rw [g8.2.2.1]; exact rn0), Option.bind_some]
    by_cases hk1 : kd X (pos X (i + 1)) = 40
    · obtain ⟨e1, e2, e3, e4⟩ := step_c hX (a := 40) (by decide) (by decide) hk1
      by_cases o9 : o = 9
      · subst o9
        obtain ⟨C3, g1, g2⟩ := goes_9 z hX hC2 (by omega) hk1
        exact dead 2 C3 _ (by decide) (by decide) g1 g2 (o2 e1 rfl) (Md_at (Md_open (Ml_fault hM2 _ (B := 300) (by omega)) _) rfl (by omega))
      · obtain ⟨C3, g1, g2⟩ := goes_go z hC2 (by omega) (o := o) (by omega) hk1
        have hM3 := Ml_at (Ml_open hM2 (v := J ((o + 1 : Nat) : Int)) rfl) (v := J ((pos X (i + 1) + 1 : Nat) : Int)) rfl
        obtain ⟨hh, k, h', k', C8, M8, c1, c2, c3, c4, c5, c6⟩ := s_chain hz hT (Or.inl ⟨i + 1 + 1, pos X (i + 1) + 1, Nat.le_refl _, by omega, by omega, e4, g2, hM3, trivial⟩) fM (J (pos X i))
        obtain ⟨k, rfl⟩ : ∃ k2 : Nat, k = k2 := ⟨k.toNat, by omega⟩
        obtain ⟨a, e, s1, s2, s3, s4, s5⟩ := sums_ok (z := z) (by omega) (h := hh) (by omega) (k := k) (by omega) (by omega)
        have hb := Tw_bd (h := hh) (k := k) (by omega) (by omega)
        have hb2 : k * (k + 5) ≤ 1000000000 * (1000000000 + 5) := Nat.mul_le_mul (by omega) (by omega)
        have hread : F_X3_readSawSum z (J o) C1 = some ((L a, L e), C8) := by rw [rs 1 C3 g1, if_neg n10, c4, s1, Option.bind_some]
        rw [o1 e1 o9, Option.bind_some, c5]
        rcases c6 with ⟨i8, q8, l1, l2, l3, l4, l5, l6, l7, l8⟩ | ⟨r, hr, hC8, hM8⟩
        · obtain ⟨w, C9, M9, x', b', y1, y2, y3, y4, y5, y6⟩ := bp z hX l5 (Ml_oftenNow l6 (v := mg_oftenNow M8 + 1) (s' := s + 1) (by rw [l6.2.2.2.2.2.2.2.1])) hx (j := i) (by omega) (by omega) s3.1 (u := a) (v := e) (by omega) (by omega) s3.2.1
          refine ⟨w, C9, n + 1, M9, ru _ _ _ _ hread y1, ?_, Po_live y3 (i' := i8) (by omega) l2 (by omega) (by omega) l3 l4 y4 y5 y6 (fun j hj => ⟨rfl, rfl⟩)⟩
          rw [if_pos l6.2.2.1, l7, l8, s2, Option.bind_some, y2, Option.bind_some, Option.bind_some]
        · obtain ⟨w, C9, y1, y2, y3⟩ := bnd_dead z (u := a) (v := e) s3.1 (by omega) (by omega) s3.2.1 hC8 (j := i) (by omega)
          refine ⟨w, C9, n + 1, M8, ru _ _ _ _ hread y1, ?_, Po_dead y2 (i' := i + 1) (by omega) (by omega) (by omega) hr y3 hM8 (by omega)⟩
          rw [if_neg (show ¬ mg_fault M8 = 0 by rw [hM8.2.2.1]; exact hr), Option.bind_some]
    · obtain ⟨C3, g1, g2⟩ := goes_no z hX hC2 (by omega) (J o) hk1
      exact dead 1 C3 _ (by decide) (by decide) g1 g2 (o3 (fun e => hk1 ((kd_c (by decide) (by decide)).mpr e))) (Md_at (Md_open (Ml_fault hM2 _ (B := 300) (by omega)) _) rfl (by omega))
  · -- phi
    rw [if_neg (fun g => by have := w3.mp (j3.mp g); omega), if_neg (fun g => by have := w4.mp (j4.mp g); omega), if_pos (j5.mpr (w5.mpr hk))]
    obtain ⟨v, v1, v2, v3⟩ := phi_side (z := z) (by omega) hmx r2.2.1 hM2.1
    obtain ⟨a, e, f1, f2, f3, f4, f5, f6, f7⟩ := frac_ok (z := z) (by omega) (a := v) (b := 1) (c := v) (d := 1) (n := 1000000010000000000) (m := 1000000010000000000) v1 (by decide) (by decide) (by decide) v1 (by decide) (by decide) (by decide) rfl
    obtain ⟨w, C4, M6, x', b', y1, y2, y3, y4, y5, y6⟩ := bp z hX r2 hM2 hx (j := i) (by omega) (by omega) f3.1 (u := a) (v := e) (by omega) (by omega) f3.2.1
    refine ⟨w, C4, n + 1, M6, ?_, ?_, Po_live y3 (i' := i + 1) (by omega) (by omega) (by omega) (by omega) t2 nxt y4 y5 y6 (fun j hj => ⟨rfl, rfl⟩)⟩
    · unfold F_X3_readUnit
      rw [Option.bind_some, show cg_token C = -5 by rw [htk, hk]; rfl, if_pos rfl, r1, Option.bind_some, if_pos (by omega), Option.bind_some, v2, bd2_some, l1, f1, Option.bind_some, hC.2.2.2.1, y1, bd2_some]
    · rw [v3, bd2_some, l1, f2, Option.bind_some, y2, Option.bind_some, Option.bind_some]
  · -- no word
    rw [if_neg (fun g => by have := w3.mp (j3.mp g); omega), if_neg (fun g => by have := w4.mp (j4.mp g); omega), if_neg (fun g => by have := w5.mp (j5.mp g); omega)]
    obtain ⟨C2, g1, g2⟩ := ref_live z hC (by omega) 1
    refine ⟨(0, 1), C2, n, ms_fault (ms_at M (J (past X 2 (pos X i)))) (J (1 + 8 * (pos X i : Int))), ?_, ?_, Po_dead Gd0 (Nat.le_refl i) hi (by omega) (rne (by decide) (by decide) (by omega)) g2 (Ml_fault hM2 _ (B := 300) (by omega)) (by omega)⟩
    · unfold F_X3_readUnit
      rw [Option.bind_some, show cg_token C = -6 by rw [htk, hk]; rfl, if_neg (by decide), if_neg (by decide), if_neg (by decide), if_neg (by decide), if_neg (by decide), j1, g1, Option.bind_some]
    · rw [j1, fails_0 z hM2.2.2.1, Option.bind_some, Option.bind_some]
theorem U_rest {z : Nat} (hz : 400 ≤ z) {X : Tx} (hT : TxOk X) {c : KC} {m : KM} {d : Nat} (hd2 : d < 30) {fC : FC} {fM : MS → Option MS} (H : HS X c m d fC fM) {C : CS} {M : MS} {i q o p n : Nat} {T D : Nat → Int64} (hL : Lv X c m C M i q o p T D) (ho : o ≤ 9) (hd : 11 ≤ d + 1 + o) (hn : n ≤ 2 * i) (hpi : p ≤ i) (hs2 : so (bv X (pos X i)) ≠ 2) (hs3 : so (bv X (pos X i)) ≠ 3) : ∃ u C' n' M', F_X3_readUnit z fC n (J o) C = some (u, C', n') ∧ F_X7_unit z fM M = some M' ∧ Po X c m (400 + 20 * (d + 1)) i o p n T D u C' n' M' := by
  have hX := hT.1
  obtain ⟨hi, hq, hp, x, b, s, hC, hM, hx⟩ := hL
  have hpp := (pos_ok hX i).1
  have hkb : kd X (pos X i) = bv X (pos X i) := by
    unfold kd
    by_cases g : X.2 ≤ pos X i
    · rw [if_pos g, bv_end g]
    · rw [if_neg g, if_neg hs2, if_neg hs3]
  have hbb := bv_b X (pos X i)
  have htk : cg_token C = J (kd X (pos X i)) := hC.2.2.2.2.1
  have tk := fun (a : Int) (ha : -6 ≤ a ∧ a < 256) => tok htk (kd_b _ _) ha
  have un := unit_nn hz fM hT hM.2.1 (by omega) hM.2.2.2.1 hM.2.2.1 hp hs3
  rw [if_neg (fun g => hs2 ((so_2 _).mpr g))] at un
  have hM1 : Ml X m (ms_at M (J (pos X i))) (pos X i) o p b s T D := Ml_at hM rfl
  have n5 : ¬ cg_token C = -5 := fun g => by have := (tk (-5) (by decide)).mp (g.trans rfl); omega
  have n4 : ¬ cg_token C = -4 := fun g => by have := (tk (-4) (by decide)).mp (g.trans rfl); omega
  have n3 : ¬ cg_token C = -3 := fun g => by have := (tk (-3) (by decide)).mp (g.trans rfl); omega
  have n2 : ¬ cg_token C = -2 := fun g => by have := (tk (-2) (by decide)).mp (g.trans rfl); omega
  rw [un]
  by_cases h40 : bv X (pos X i) = 40
  · have L1 : Lv X c m C (ms_at M (J (pos X i))) i (pos X i) o p T D := ⟨hi, hpp, pos_past hX i, x, b, s, hC, hM1, hx⟩
    obtain ⟨u, C3, n3', M3, M4, M5, b1, b2, b3, b4, b5⟩ := br hz hT hd2 H L1 ho hd hn hpi
    refine ⟨u, C3, n3', M5, ?_, ?_, b5⟩
    · unfold F_X3_readUnit
      rw [Option.bind_some, if_neg n5, if_neg n4, if_neg n3, if_neg n2, if_pos (show cg_token C = 40 by rw [htk, hkb, h40]; rfl), b1, bd3_some]
    · rw [if_pos h40, b2, Option.bind_some, b3, Option.bind_some, b4, Option.bind_some]
  · obtain ⟨C2, g1, g2⟩ := ref_live z hC (by omega) 1
    refine ⟨(0, 1), C2, n, ms_fault (ms_at M (J (pos X i))) (J (1 + 8 * (pos X i : Int))), ?_, ?_, Po_dead Gd0 (Nat.le_refl i) hi (by omega) (rne (by decide) (by decide) (by omega)) g2 (Ml_fault hM1 _ (B := 300) (by omega)) (by omega)⟩
    · unfold F_X3_readUnit
      rw [Option.bind_some, if_neg n5, if_neg n4, if_neg n3, if_neg n2, if_neg (show ¬ cg_token C = 40 from fun g => by have := (tk 40 (by decide)).mp (g.trans rfl); omega), j1, g1, Option.bind_some]
    · rw [if_neg h40, j1, fails_0 z hM1.2.2.1, Option.bind_some]
theorem unit_ok {z : Nat} (hz : 400 ≤ z) {X : Tx} (hT : TxOk X) {c : KC} {m : KM} (hmx : Mx c m) {d : Nat} (hd2 : d < 30) {fC : FC} {fM : MS → Option MS} (H : HS X c m d fC fM) {C : CS} {M : MS} {i q o p n : Nat} {T D : Nat → Int64} (hL : Lv X c m C M i q o p T D) (ho : o ≤ 9) (hd : 11 ≤ d + 1 + o) (hn : n ≤ 2 * i) (hpi : p ≤ i) : ∃ u C' n' M', F_X3_readUnit z fC n (J o) C = some (u, C', n') ∧ F_X7_unit z fM M = some M' ∧ Po X c m (400 + 20 * (d + 1)) i o p n T D u C' n' M' := by
  by_cases h2 : so (bv X (pos X i)) = 2
  · exact U_word hz hT hmx hd2 H hL ho hd hn hpi h2
  · by_cases h3 : so (bv X (pos X i)) = 3
    · exact U_num hz hT fC fM hL hn hpi h3
    · exact U_rest hz hT hd2 H hL ho hd hn hpi h2 h3
