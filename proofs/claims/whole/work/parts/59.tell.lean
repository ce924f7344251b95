/-! tell -/
theorem Cl_start {X : Tx} {c : KC} {C : CS} (h1 : TC X C) (h2 : kC C = c) {a t r : Int32} (e s : Int32) (ha : a = J ((0 : Nat) : Int)) (ht : t = J (kd X (pos X 0))) (hr : r = 0) : Cl X c (cs_sawSums (cs_exceeded (cs_refused (cs_token (cs_at C a) t) r) e) s) 0 e s := by
  refine ⟨TC_sawSums (TC_exceeded (TC_refused (TC_token (TC_at h1 _) _) _) _) _, ?_, ?_, ?_, ?_, ?_, c_sawSums_sawSums _ _⟩
  · rw [c_kC_sawSums, c_kC_exceeded, c_kC_refused, c_kC_token, c_kC_at, h2]
  · rw [c_refused_sawSums, c_refused_exceeded, c_refused_refused, hr]
  · rw [c_at_sawSums, c_at_exceeded, c_at_refused, c_at_token, c_at_at, ha]
  · rw [c_token_sawSums, c_token_exceeded, c_token_refused, c_token_token, ht]
  · rw [c_exceeded_sawSums, c_exceeded_exceeded]
theorem Ml_start {X : Tx} {N : MS} (h : Mt X N) {f a o p : Int32} (b s : Int32) (hf : f = 0) (ha : a = J ((0 : Nat) : Int)) (ho : o = J ((0 : Nat) : Int)) (hp : p = J ((0 : Nat) : Int)) : Ml X (kM N) (ms_oftenNow (ms_piled (ms_open (ms_at (ms_beyond (ms_fault N f) b) a) o) p) s) 0 0 0 b s (mg_tops N) (mg_bottoms N) := by
  refine ⟨?_, Mt_oftenNow (Mt_piled (Mt_open (Mt_at (Mt_beyond (Mt_fault h _) _) _) _) _) _, ?_, ?_, ?_, ?_, ?_, p_oftenNow_oftenNow _ _, ?_, ?_⟩
  · rw [p_kM_oftenNow, p_kM_piled, p_kM_open, p_kM_at, p_kM_beyond, p_kM_fault]
  · rw [p_fault_oftenNow, p_fault_piled, p_fault_open, p_fault_at, p_fault_beyond, p_fault_fault, hf]
  · rw [p_at_oftenNow, p_at_piled, p_at_open, p_at_at, ha]
  · rw [p_open_oftenNow, p_open_piled, p_open_open, ho]
  · rw [p_piled_oftenNow, p_piled_piled, hp]
  · rw [p_beyond_oftenNow, p_beyond_piled, p_beyond_open, p_beyond_at, p_beyond_beyond]
  · rw [p_tops_oftenNow, p_tops_piled, p_tops_open, p_tops_at, p_tops_beyond, p_tops_fault]
  · rw [p_bottoms_oftenNow, p_bottoms_piled, p_bottoms_open, p_bottoms_at, p_bottoms_beyond, p_bottoms_fault]
def tN (M : MS) (a w : Int32) : MS := ms_taped (ms_length (ms_thrown M a) (mg_taped (ms_thrown M a))) w
theorem tN_mt {M : MS} {t : Nat} (h : mg_taped M = J t) (a w : Int32) : Mt (mg_tape M, t) (tN M a w) := ⟨rfl, h⟩
theorem tN_mx {c : KC} {M : MS} (h : Mx c (kM M)) (a w : Int32) : Mx c (kM (tN M a w)) := h
theorem tN_k (M : MS) (a w : Int32) : kM (tN M a w) = (mg_a0 M, mg_b0 M, mg_c0 M, mg_d0 M, mg_tape M, w, mg_sums M, mg_often M, mg_toldUp M, mg_toldUnder M) := rfl
theorem kC_tl (C : CS) (v : Int32) : kC (cs_tapeLength C v) = (cg_ma C, cg_mb C, cg_mc C, cg_md C, cg_tape C, v, cg_sumsTold C, cg_inLatest C) := rfl
theorem kC_tl2 (C : CS) (v g s : Int32) : kC (cs_inLatest (cs_sumsTold (cs_tapeLength C v) g) s) = (cg_ma C, cg_mb C, cg_mc C, cg_md C, cg_tape C, v, g, s) := rfl
theorem kM_often (M : MS) (v : Int32) : kM (ms_often M v) = ((kM M).1, (kM M).2.1, (kM M).2.2.1, (kM M).2.2.2.1, (kM M).2.2.2.2.1, (kM M).2.2.2.2.2.1, (kM M).2.2.2.2.2.2.1, v, (kM M).2.2.2.2.2.2.2.2) := rfl
theorem kM_sums (M : MS) (v : Int32) : kM (ms_sums M v) = ((kM M).1, (kM M).2.1, (kM M).2.2.1, (kM M).2.2.2.1, (kM M).2.2.2.2.1, (kM M).2.2.2.2.2.1, v, (kM M).2.2.2.2.2.2.2) := rfl
theorem kM_under (M : MS) (v : Int64) : kM (ms_toldUnder M v) = ((kM M).1, (kM M).2.1, (kM M).2.2.1, (kM M).2.2.2.1, (kM M).2.2.2.2.1, (kM M).2.2.2.2.2.1, (kM M).2.2.2.2.2.2.1, (kM M).2.2.2.2.2.2.2.1, (kM M).2.2.2.2.2.2.2.2.1, v) := rfl
theorem kM_up (M : MS) (v : Int64) : kM (ms_toldUp M v) = ((kM M).1, (kM M).2.1, (kM M).2.2.1, (kM M).2.2.2.1, (kM M).2.2.2.2.1, (kM M).2.2.2.2.2.1, (kM M).2.2.2.2.2.2.1, (kM M).2.2.2.2.2.2.2.1, v, (kM M).2.2.2.2.2.2.2.2.2) := rfl
theorem kM_tl2 {M : MS} {a0 b0 c0 d0 : Int64} {tp : Nat → Int32} {w s o : Int32} {u v : Int64} (h : kM M = (a0, b0, c0, d0, tp, w, s, o, u, v)) (a b : Int64) (g r : Int32) : kM (ms_often (ms_sums (ms_toldUnder (ms_toldUp M a) b) g) r) = (a0, b0, c0, d0, tp, w, g, r, a, b) := by
  rw [kM_often, kM_sums, kM_under, kM_up, h]
theorem kC_parts {C C' : CS} (h : kC C' = kC C) : cg_ma C' = cg_ma C ∧ cg_mb C' = cg_mb C ∧ cg_mc C' = cg_mc C ∧ cg_md C' = cg_md C ∧ cg_tape C' = cg_tape C ∧ cg_tapeLength C' = cg_tapeLength C ∧ cg_sumsTold C' = cg_sumsTold C ∧ cg_inLatest C' = cg_inLatest C := by
  unfold kC at h
  simp only [Prod.mk.injEq] at h
  exact h
theorem kM_parts {M : MS} {a0 b0 c0 d0 : Int64} {tp : Nat → Int32} {w s o : Int32} {u v : Int64} (h : kM M = (a0, b0, c0, d0, tp, w, s, o, u, v)) : mg_a0 M = a0 ∧ mg_b0 M = b0 ∧ mg_c0 M = c0 ∧ mg_d0 M = d0 ∧ mg_tape M = tp ∧ mg_taped M = w ∧ mg_sums M = s ∧ mg_often M = o ∧ mg_toldUp M = u ∧ mg_toldUnder M = v := by
  unfold kM at h
  simp only [Prod.mk.injEq] at h
  exact h
theorem Inv_bad {C C' : CS} {M M' : MS} {lt : Int64 × Int64} (hI : Inv C M lt) (hc : kC C' = kC C) {a w v : Int32} (hm : kM M' = kM (tN M a w)) (hv : v = J ((0 : Nat) : Int)) (hw : w = J ((0 : Nat) : Int)) : Inv (cs_tapeLength C' v) M' lt := by
  obtain ⟨k1, k2, k3, k4, k5, k6, k7⟩ := hI
  obtain ⟨e1, e2, e3, e4, e5, -, e7, e8⟩ := kC_parts hc
  unfold Inv
  rw [hm, tN_k, kC_tl, e1, e2, e3, e4, e5, e7, e8]
  exact ⟨k1, ⟨0, by omega, hv, hw⟩, k3, k4, k5, k6, k7⟩
theorem Inv_good {C C' : CS} {M M' : MS} {lt : Int64 × Int64} (hI : Inv C M lt) (hc : kC C' = kC C) {a w v g1 g2 s : Int32} (hm : kM M' = kM (tN M a w)) (hv : v = J ((0 : Nat) : Int)) (hw : w = J ((0 : Nat) : Int)) (hg1 : g1 = cg_sumsTold C + 1) (hg2 : g2 = mg_sums M + 1) (x y : Int64) : Inv (cs_inLatest (cs_sumsTold (cs_tapeLength C' v) g1) s) (ms_often (ms_sums (ms_toldUnder (ms_toldUp M' x) y) g2) s) (x, y) := by
  obtain ⟨k1, k2, k3, k4, k5, k6, k7⟩ := hI
  obtain ⟨e1, e2, e3, e4, e5, -, e7, e8⟩ := kC_parts hc
  have k5' : cg_sumsTold C = mg_sums M := k5
  unfold Inv
  rw [kC_tl2, kM_tl2 (hm.trans (tN_k M a w)), e1, e2, e3, e4, e5, hg1, hg2, k5']
  exact ⟨k1, ⟨0, by omega, hv, hw⟩, k3, k4, rfl, rfl, rfl⟩
theorem tell_100 (z : Nat) {S : MS} (h : mg_fault S = 0) : G_X7_tell_100 z S = some (0, ms_often (ms_sums (ms_toldUnder (ms_toldUp S (mg_tops S 0)) (mg_bottoms S 0)) (mg_sums S + 1)) (mg_oftenNow S)) := by
  have i0 : ib (0 : Int32) 300 = true := by decide
  have c0 : Int32.toNatClampNeg 0 = 0 := rfl
  unfold G_X7_tell_100
  rw [if_pos h, if_pos i0, Option.bind_some, Option.bind_some, if_pos i0, Option.bind_some, Option.bind_some, Option.bind_some, Option.bind_some, Option.bind_some, Option.bind_some, c0]
  rfl
theorem tell_bad (z : Nat) {S : MS} (h : mg_fault S ≠ 0) : G_X7_tell_100 z S = some (mg_fault S, S) := by
  unfold G_X7_tell_100
  rw [if_neg h]
theorem tell_76 (z : Nat) {S : MS} (h : mg_fault S ≠ 0) : G_X7_tell_76 z S = some (mg_fault S, S) := by
  unfold G_X7_tell_76
  rw [if_neg h, tell_bad z h]
theorem tell_ok {z : Nat} (hz : 400 ≤ z) {C : CS} {M : MS} {lt : Int64 × Int64} (hI : Inv C M lt) : ∃ r C' lt' n M', F_X6_tell z 0 lt C = some (r, C', lt', n) ∧ n ≤ 620 ∧ F_X7_tell z M = some (r, M') ∧ Inv C' M' lt' := by
  have hI0 := hI
  obtain ⟨k1, ⟨t, ht, t1, t2⟩, k3, k4, k5, k6, k7⟩ := hI
  have t1 : cg_tapeLength C = J t := t1
  have t2 : mg_taped M = J t := t2
  have k3 : cg_tape C = mg_tape M := k3
  have hT : TxOk (mg_tape M, t) := ⟨ht, k4⟩
  have hX := hT.1
  obtain ⟨C1, c1, c2, c3⟩ := cut_ok hz hT (C := C) k3
  have hmx : Mx (kC C) (kM (tN M 0 0)) := tN_mx k1 0 0
  have H := HS_all hz hT hmx 12 (by decide)
  have cl := Cl_start (c := kC C) (a := 0) (t := J (kd (mg_tape M, t) (pos (mg_tape M, t) 0))) (r := 0) c3 c2 0 0 rfl rfl rfl
  have ml := Ml_start (X := (mg_tape M, t)) (N := tN M 0 0) (f := 0) (a := 0) (o := 0) (p := 0) (tN_mt t2 0 0) (-1) 0 rfl rfl rfl rfl
  have L0 : Lv (mg_tape M, t) (kC C) (kM (tN M 0 0)) _ _ 0 0 0 0 _ _ := ⟨by omega, Nat.zero_le _, rfl, 0, -1, 0, cl, ml, Or.inl ⟨rfl, rfl⟩⟩
  obtain ⟨u, C9, n9, M9, a1, a2, gu, i9, b1, b2, b3, b4⟩ := H.1 _ _ 0 0 0 0 0 _ _ L0 (by decide) (by decide) (by decide) (by decide)
  have wo : ∀ C10, (if cg_token C9 = -1 then some (u, C9, n9) else ((F_X3_refuse z (1 : Int32) C9).bind fun S15 => some (u, S15, n9))) = some (u, C10, n9) → F_X3_workOut z 0 (cg_tapeLength C) C = some (u, C10, n9) := by
    intro C10 h
    unfold F_X3_workOut
    rw [t1, show F_X4_cut z (J (t : Int)) C = some C1 from c1, Option.bind_some, Option.bind_some]
    rw [show F_X4_kindAt z (0 : Int32) (cs_at C1 0) = _ from kindAt_ok z (TC_at c3 0) (i := 0) (by decide), bd2_some, Option.bind_some, Option.bind_some, Option.bind_some, Option.bind_some]
    rw [show F_X3_readSum z 12 0 (0 : Int32) (cs_sawSums (cs_exceeded (cs_refused (cs_token (cs_at C1 0) (J (kd (mg_tape M, t) (pos (mg_tape M, t) 0)))) 0) 0) 0) = _ from a1, bd3_some]
    exact h
  have tm : F_X7_tell z M = (if mg_fault M9 = 0 then (bd2 (F_X7_here z M9) fun r13 S14 => (if r13 = (-1 : Int32) then (G_X7_tell_76 z S14) else ((F_X7_fails z (1 : Int32) (mg_at S14) S14).bind fun S16 => (G_X7_tell_76 z S16)))) else (G_X7_tell_76 z M9)) := by
    unfold F_X7_tell
    rw [Option.bind_some, Option.bind_some, Option.bind_some, Option.bind_some, Option.bind_some, Option.bind_some, Option.bind_some, Option.bind_some, Option.bind_some, Option.bind_some]
    rw [show F_X7_sum_ z 12 (ms_oftenNow (ms_piled (ms_open (ms_at (ms_beyond (ms_fault (ms_taped (ms_length (ms_thrown M 0) (mg_taped (ms_thrown M 0))) 0) 0) (-1)) 0) 0) 0) 0) = some M9 from a2, Option.bind_some]
  have bad : ∀ (C10 : CS) (r : Int32) (M10 : MS), r ≠ 0 → F_X3_workOut z 0 (cg_tapeLength C) C = some (u, C10, n9) → (if cg_refused C10 = 0 then cg_exceeded C10 else cg_refused C10) = r → kC C10 = kC C → F_X7_tell z M = some (r, M10) → kM M10 = kM (tN M 0 0) → ∃ r C' lt' n M', F_X6_tell z 0 lt C = some (r, C', lt', n) ∧ n ≤ 620 ∧ F_X7_tell z M = some (r, M') ∧ Inv C' M' lt' := by
    intro C10 r M10 hr h1 h2 h3 h4 h5
    refine ⟨r, cs_tapeLength C10 0, lt, n9, M10, ?_, by omega, h4, Inv_bad hI0 h3 h5 rfl rfl⟩
    unfold F_X6_tell
    rw [h1, bd3_some, Option.bind_some]
    have hf : F_X3_fault z (cs_tapeLength C10 0) = some (r, cs_tapeLength C10 0) := by
      unfold F_X3_fault
      rw [show ∀ v, cg_refused (cs_tapeLength C10 v) = cg_refused C10 from fun _ => rfl, show ∀ v, cg_exceeded (cs_tapeLength C10 v) = cg_exceeded C10 from fun _ => rfl, ← h2]
      by_cases c0 : cg_refused C10 = 0
      · rw [if_pos c0, if_pos c0]
      · rw [if_neg c0, if_neg c0]
    rw [hf, bd2_some, if_neg hr]
  rcases b4 with ⟨b5, b6, q9, T9, D9, ⟨-, l2, l3, x9, b9, s9, l4, l5, l6⟩, m1, m2, m3⟩ | ⟨r, hr, hC9, hM9⟩
  · have hpp := (pos_ok hX i9).1
    have hbb := bv_b (mg_tape M, t) (pos (mg_tape M, t) i9)
    have htk : cg_token C9 = J (kd (mg_tape M, t) (pos (mg_tape M, t) i9)) := l4.2.2.2.2.1
    have ht2 : t ≤ 300 := ht
    have hpt : pos (mg_tape M, t) i9 ≤ t := hpp
    have hh := here_ok hz hT l5.2.1 (show q9 < 2000 by have : q9 ≤ t := l2; omega) l5.2.2.2.1
    rw [l3] at hh
    have hM1 := Ml_at l5 (v := J (pos (mg_tape M, t) i9)) rfl
    rw [if_pos l5.2.2.1, hh, bd2_some] at tm
    by_cases he : pos (mg_tape M, t) i9 = t
    · have hk1 : kd (mg_tape M, t) (pos (mg_tape M, t) i9) = -1 := kd_end (show t ≤ _ by omega)
      have hb1 : bv (mg_tape M, t) (pos (mg_tape M, t) i9) = -1 := bv_end (show t ≤ _ by omega)
      have w1 := wo C9 (by rw [if_pos (by rw [htk, hk1]; rfl)])
      rw [if_pos (by rw [hb1]; rfl)] at tm
      unfold G_X7_tell_76 at tm
      rw [if_pos hM1.2.2.1] at tm
      rcases l6 with ⟨e1, e2⟩ | ⟨w, e0, e1, e2⟩
      · rw [if_pos (by rw [hM1.2.2.2.2.2.2.1, e2]), tell_100 z hM1.2.2.1, hM1.2.2.2.2.2.2.2.2.1, hM1.2.2.2.2.2.2.2.2.2, m1, m2, hM1.2.2.2.2.2.2.2.1] at tm
        refine ⟨0, cs_inLatest (cs_sumsTold (cs_tapeLength C9 0) (cg_sumsTold C9 + 1)) s9, (u.1, u.2), n9, _, ?_, by omega, tm, ?_⟩
        · unfold F_X6_tell
          rw [w1, bd3_some, Option.bind_some]
          have hf : F_X3_fault z (cs_tapeLength C9 0) = some (0, cs_tapeLength C9 0) := by
            unfold F_X3_fault
            rw [show ∀ v, cg_refused (cs_tapeLength C9 v) = cg_refused C9 from fun _ => rfl, show ∀ v, cg_exceeded (cs_tapeLength C9 v) = cg_exceeded C9 from fun _ => rfl, if_pos l4.2.2.1, l4.2.2.2.2.2.1, e1]
          rw [hf, bd2_some, if_pos rfl, Option.bind_some, Option.bind_some, Option.bind_some, Option.bind_some, show ∀ v g, cg_sawSums (cs_sumsTold (cs_tapeLength C9 v) g) = cg_sawSums C9 from fun _ _ => rfl, l4.2.2.2.2.2.2, show ∀ v, cg_sumsTold (cs_tapeLength C9 v) = cg_sumsTold C9 from fun _ => rfl]
        · refine Inv_good hI0 l4.2.1 (a := 0) (w := 0) hM1.1 rfl rfl ?_ ?_ _ _
          · rw [(kC_parts l4.2.1).2.2.2.2.2.2.1]
          · rw [(kM_parts (hM1.1.trans (tN_k M 0 0))).2.2.2.2.2.2.1]
      · rw [if_neg (by rw [hM1.2.2.2.2.2.2.1, e2, jm1, J_eq ⟨by omega, by omega⟩ bm1]; omega), hM1.2.2.2.2.2.2.1, e2, show (3 : Int32) = J 3 from rfl, fails_0 z hM1.2.2.1, Option.bind_some, tell_bad z (by rw [p_fault_fault]; exact rne (by decide) (by decide) e0), p_fault_fault] at tm
        exact bad C9 _ _ (rne (by decide) (by decide) e0) w1 (by rw [if_pos l4.2.2.1, l4.2.2.2.2.2.1, e1]) l4.2.1 tm ((p_kM_fault _ _).trans hM1.1)
    · have hk1 : kd (mg_tape M, t) (pos (mg_tape M, t) i9) ≠ -1 := by
        intro g
        have hw := wk_b (mg_tape M, t) (pos (mg_tape M, t) i9) (past (mg_tape M, t) 2 (pos (mg_tape M, t) i9))
        have hn := bv_nn (X := (mg_tape M, t)) (p := pos (mg_tape M, t) i9) (show _ < t by omega)
        unfold kd at g
        rw [if_neg (show ¬ t ≤ _ by omega)] at g
        split at g
        · omega
        · split at g
          · split at g <;> omega
          · omega
      have hn := bv_nn (X := (mg_tape M, t)) (p := pos (mg_tape M, t) i9) (show _ < t by omega)
      obtain ⟨C10, g1, g2⟩ := ref_live z l4 (by omega) 1
      have rn0 := rne (f := 1) (p := pos (mg_tape M, t) i9) (by decide) (by decide) (by omega)
      have w1 := wo C10 (by rw [if_neg (fun g => hk1 ((tok htk (kd_b _ _) (a := -1) (by decide)).mp (g.trans rfl))), j1, g1, Option.bind_some])
      rw [if_neg (show ¬ J (bv (mg_tape M, t) (pos (mg_tape M, t) i9)) = -1 by rw [jm1, J_eq ⟨by omega, by omega⟩ bm1]; omega), p_at_at, j1, fails_0 z hM1.2.2.1, Option.bind_some, tell_76 z (by rw [p_fault_fault]; exact rn0), p_fault_fault] at tm
      exact bad C10 _ _ rn0 w1 (by rw [if_neg (by rw [g2.2.2.1]; exact rn0), g2.2.2.1]) g2.2.1 tm ((p_kM_fault _ _).trans hM1.1)
  · have hf : mg_fault M9 ≠ 0 := by rw [hM9.2.2.1]; exact hr
    have w1 := wo C9 (by rw [if_neg (by rw [hC9.2.2.2]; decide), ref_dead z hC9 hr, Option.bind_some])
    rw [if_neg hf, tell_76 z hf, hM9.2.2.1] at tm
    exact bad C9 r M9 hr w1 (by rw [if_neg (by rw [hC9.2.2.1]; exact hr), hC9.2.2.1]) hC9.2.1 tm hM9.1
theorem lc29_ok {z : Nat} (hz : 400 ≤ z) (x1 x2 x3 x4 x5 : Int32) {C : CS} {M : MS} {lt : Int64 × Int64} (hI : Inv C M lt) : Okc (lc29 z x1 x2 x3 x4 x5 C M lt) := by
  obtain ⟨r, C', lt', n, M', h1, h2, h3, h4⟩ := tell_ok hz hI
  refine ⟨C', M', lt', ?_, h4⟩
  unfold lc29
  rw [h1, h3]
  show (if n ≤ 620 then (if r = r then some (C', M', lt') else none) else none) = _
  rw [if_pos h2, if_pos rfl]
