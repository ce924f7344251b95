/-! tell: the class cuts the text -/
def Ct (X : Tx) (C : CS) : Prop := cg_tape C = X.1 ∧ cg_tlength C = J X.2
theorem byteAt_ok (z : Nat) {X : Tx} (hT : TxOk X) {C : CS} (hC : Ct X C) {p : Nat} (hp : p < 2000) : F_X4_byteAt z (J p) C = some (J (bv X p), C) := by
  obtain ⟨h1, h2⟩ := hC
  obtain ⟨hX, hb⟩ := hT
  unfold F_X4_byteAt
  rw [if_neg (show ¬ J (p : Int) < 0 by rw [j0, J_lt ⟨by omega, by omega⟩ b30]; omega), h2]
  by_cases c : p < X.2
  · rw [if_neg (show ¬ J (X.2 : Int) ≤ J p by rw [J_le ⟨by omega, by omega⟩ ⟨by omega, by omega⟩]; omega), if_neg (show ¬ (300 : Int32) ≤ J p by rw [j300, J_le ⟨by decide, by decide⟩ ⟨by omega, by omega⟩]; omega), if_pos (ibJ (by omega) (by decide)), h1, clampJ (by omega), and255 (hb p).1 (hb p).2, bv_in c]
  · rw [if_pos (show J (X.2 : Int) ≤ J p by rw [J_le ⟨by omega, by omega⟩ ⟨by omega, by omega⟩]; omega), bv_end (by omega)]
    rfl
def sI (r : Int32) : Int32 := if r = 32 then 1 else if r = 10 then 1 else if r < 97 then (if r < 48 then 0 else if 57 < r then 0 else 3) else if 122 < r then (if r < 48 then 0 else if 57 < r then 0 else 3) else 2
theorem sI_ok {v : Int} (h1 : -1 ≤ v) (h2 : v < 256) : sI (J v) = J ((so v : Nat) : Int) := by
  have hk : ∀ k : Fin 257, sI (J ((k.val : Int) - 1)) = J ((so ((k.val : Int) - 1) : Nat) : Int) := by decide +kernel
  have e : sI (J ((((v + 1).toNat : Nat) : Int) - 1)) = J ((so ((((v + 1).toNat : Nat) : Int) - 1) : Nat) : Int) := hk ⟨(v + 1).toNat, by omega⟩
  rw [show (((v + 1).toNat : Nat) : Int) - 1 = v by omega] at e
  exact e
theorem sortAt_ok (z : Nat) {X : Tx} (hT : TxOk X) {C : CS} (hC : Ct X C) {p : Nat} (hp : p < 2000) : F_X4_sortAt z (J p) C = some (J ((so (bv X p) : Nat) : Int), C) := by
  have hb := bv_b X p
  rw [← sI_ok hb.1 hb.2]
  unfold F_X4_sortAt
  rw [byteAt_ok z hT hC hp, bd2_some]
  unfold G_X4_sortAt_34 sI
  generalize J (bv X p) = r
  by_cases c1 : r = 32
  · rw [if_pos c1, if_pos c1]
  · rw [if_neg c1, if_neg c1]
    by_cases c2 : r = 10
    · rw [if_pos c2, if_pos c2]
    · rw [if_neg c2, if_neg c2]
      by_cases c3 : r < 97
      · rw [if_pos c3, if_pos c3]
        by_cases c4 : r < 48
        · rw [if_pos c4, if_pos c4]
        · rw [if_neg c4, if_neg c4]
          by_cases c5 : 57 < r
          · rw [if_pos c5, if_pos c5]
          · rw [if_neg c5, if_neg c5]
      · rw [if_neg c3, if_neg c3]
        by_cases c6 : 122 < r
        · rw [if_pos c6, if_pos c6]
          by_cases c4 : r < 48
          · rw [if_pos c4, if_pos c4]
          · rw [if_neg c4, if_neg c4]
            by_cases c5 : 57 < r
            · rw [if_pos c5, if_pos c5]
            · rw [if_neg c5, if_neg c5]
        · rw [if_neg c6, if_neg c6]
theorem pastRun_loop (z : Nat) {X : Tx} (hT : TxOk X) {C : CS} (hC : Ct X C) {s : Nat} (hs : s ≠ 0) (hs3 : s ≤ 3) : ∀ (n p m : Nat), 301 - p ≤ n → m ≤ p → p ≤ 300 → G_X4_pastRun_5 z n (J s) (J p) (J m) C = some (J (past X s p), C) := by
  have hX := hT.1
  intro n
  induction n with
  | zero => intro p m h1 h2 h3; omega
  | succ n ih =>
    intro p m h1 h2 h3
    rw [e_X4_pastRun_5]
    by_cases c : 300 ≤ m
    · rw [if_pos (show (300 : Int32) ≤ J m by rw [j300, J_le ⟨by decide, by decide⟩ ⟨by omega, by omega⟩]; omega), past_stop hX hs (fun e => by have := so_in (X := X) (p := p) (by omega); omega)]
    · rw [if_neg (show ¬ (300 : Int32) ≤ J m by rw [j300, J_le ⟨by decide, by decide⟩ ⟨by omega, by omega⟩]; omega), sortAt_ok z hT hC (by omega), bd2_some]
      have h4 := so_le (bv X p)
      by_cases d : so (bv X p) = s
      · have hlt := so_in (X := X) (p := p) (by omega)
        rw [if_pos (show J ((so (bv X p) : Nat) : Int) = J s by rw [d]), Option.bind_some, Option.bind_some, j1, J_add, J_add, past_go hX hs d]
        exact ih (p + 1) (m + 1) (by omega) (by omega) (by omega)
      · rw [if_neg (show ¬ J ((so (bv X p) : Nat) : Int) = J s by rw [J_eq ⟨by omega, by omega⟩ ⟨by omega, by omega⟩]; omega), past_stop hX hs d]
theorem pastRun_ok {z : Nat} (hz : 400 ≤ z) {X : Tx} (hT : TxOk X) {C : CS} (hC : Ct X C) {s : Nat} (hs : s ≠ 0) (hs3 : s ≤ 3) {p : Nat} (hp : p ≤ 300) : F_X4_pastRun z (J p) (J s) C = some (J (past X s p), C) := by
  unfold F_X4_pastRun
  exact pastRun_loop z hT hC hs hs3 z p 0 (by omega) (by omega) hp
theorem readDigits_loop (z : Nat) {X : Tx} (hT : TxOk X) {C : CS} (hC : Ct X C) {p : Nat} (hp : p ≤ 300) : ∀ (n m : Nat) (a : Int), 10 - m ≤ n → m ≤ 9 → G_X4_readDigits_4 z n (J p) (J a) (J m) C = some (J (dv X (9 - m) (p + m) a), C) := by
  intro n
  induction n with
  | zero => intro m a h1 h2; omega
  | succ n ih =>
    intro m a h1 h2
    rw [e_X4_readDigits_4]
    by_cases c : m = 9
    · subst c
      rw [if_pos (show (9 : Int32) ≤ J ((9 : Nat) : Int) by decide)]
      rfl
    · rw [if_neg (show ¬ (9 : Int32) ≤ J m by rw [show (9 : Int32) = J 9 from rfl, J_le ⟨by decide, by decide⟩ ⟨by omega, by omega⟩]; omega), J_add, show (p : Int) + m = ((p + m : Nat) : Int) from rfl, sortAt_ok z hT hC (by omega), bd2_some]
      have h4 := so_le (bv X (p + m))
      rw [show 9 - m = (9 - (m + 1)) + 1 by omega, dv_s]
      by_cases d : so (bv X (p + m)) = 3
      · rw [if_pos (show J ((so (bv X (p + m)) : Nat) : Int) = 3 by rw [d]; rfl), if_pos d, byteAt_ok z hT hC (by omega), bd2_some, Option.bind_some, Option.bind_some, show (10 : Int32) = J 10 from rfl, J_mul, J_add, show (48 : Int32) = J 48 from rfl, J_sub, j1, J_add]
        exact ih (m + 1) _ (by omega) (by omega)
      · rw [if_neg (show ¬ J ((so (bv X (p + m)) : Nat) : Int) = 3 by rw [show (3 : Int32) = J 3 from rfl, J_eq ⟨by omega, by omega⟩ ⟨by decide, by decide⟩]; omega), if_neg d]
theorem readDigits_ok {z : Nat} (hz : 400 ≤ z) {X : Tx} (hT : TxOk X) {C : CS} (hC : Ct X C) {p : Nat} (hp : p ≤ 300) : F_X4_readDigits z (J p) C = some (J (dv X 9 p 0), C) := by
  unfold F_X4_readDigits
  exact readDigits_loop z hT hC hp z 0 0 (by omega) (by omega)
/-! words -/
theorem isWord_no (z w n : Nat) (x k : Int32) (C : CS) : G_X4_isWord_20 z w (n + 1) x 0 k C = some (0, C) := by
  rw [e_X4_isWord_20, if_pos rfl, if_pos (by decide)]
theorem isWord_end (z w n : Nat) (x : Int32) (C : CS) {l : Nat} (hl : nI (lenS.getD w 0) = J l) : G_X4_isWord_20 z w (n + 1) x 1 (J l) C = some (1, C) := by
  rw [e_X4_isWord_20, if_neg n10, hl, if_pos (show J (l : Int) ≤ J l from Int32.le_refl _), if_pos (by decide)]
theorem isWord_step (z w n : Nat) {X : Tx} (hT : TxOk X) {C : CS} (hC : Ct X C) {p k l : Nat} (hp : p ≤ 300) {c : Int} (hl : nI (lenS.getD w 0) = J l) (hl2 : lenS.getD w 0 = l) (hk : k < l) (h3 : l ≤ 3) (hc : chS w (J k) = J c) (h0 : 0 ≤ c) (h256 : c < 256) : G_X4_isWord_20 z w (n + 1) (J p) 1 (J k) C = G_X4_isWord_20 z w n (J p) (if bv X (p + k) = c then 1 else 0) (J ((k + 1 : Nat) : Int)) C := by
  have hb := bv_b X (p + k)
  rw [e_X4_isWord_20, if_neg n10, hl, if_neg (show ¬ J (l : Int) ≤ J k by rw [J_le ⟨by omega, by omega⟩ ⟨by omega, by omega⟩]; omega), J_add, show (p : Int) + k = ((p + k : Nat) : Int) from rfl, byteAt_ok z hT hC (by omega), bd2_some, hl2, if_pos (ibJ hk (by omega)), hc, j1, J_add]
  by_cases d : bv X (p + k) = c
  · rw [if_pos (show J (bv X (p + k)) = J c by rw [d]), if_pos d, Option.bind_some]
    rfl
  · rw [if_neg (show ¬ J (bv X (p + k)) = J c by rw [J_eq ⟨by omega, by omega⟩ ⟨by omega, by omega⟩]; exact d), if_neg d, Option.bind_some]
    rfl
theorem isWord_1 {z : Nat} (hz : 400 ≤ z) {X : Tx} (hT : TxOk X) {C : CS} (hC : Ct X C) {p e : Nat} (hp : p ≤ 300) (he : e ≤ 300) : F_X4_isWord z 0 (J p) (J e) C = some (if e = p + 1 ∧ bv X p = 115 then 1 else 0, C) := by
  unfold F_X4_isWord
  obtain ⟨y, rfl⟩ : ∃ y, z = y + 1 + 1 := ⟨z - 2, by omega⟩
  have hl : nI (lenS.getD 0 0) = J ((1 : Nat) : Int) := by decide +kernel
  rw [hl, J_sub]
  by_cases c : e = p + 1
  · rw [if_pos (show J ((e : Int) - p) = J ((1 : Nat) : Int) by rw [show (e : Int) - p = ((1 : Nat) : Int) by omega])]
    refine (isWord_step _ 0 _ hT hC (k := 0) (l := 1) hp (c := 115) hl rfl (by decide) (by decide) (by decide +kernel) (by decide) (by decide)).trans ?_
    by_cases d : bv X (p + 0) = 115
    · rw [if_pos d, if_pos ⟨c, d⟩]
      exact isWord_end _ 0 _ _ C (l := 1) hl
    · rw [if_neg d, if_neg (fun h => d h.2)]
      exact isWord_no _ 0 _ _ _ C
  · rw [if_neg (show ¬ J ((e : Int) - p) = J ((1 : Nat) : Int) by rw [J_eq ⟨by omega, by omega⟩ ⟨by decide, by decide⟩]; omega), if_neg (fun h => c h.1)]
    exact isWord_no _ 0 _ _ _ C
theorem isWord_3 {z : Nat} (hz : 400 ≤ z) {X : Tx} (hT : TxOk X) {C : CS} (hC : Ct X C) {p e : Nat} (hp : p ≤ 300) (he : e ≤ 300) (w : Nat) (c0 c1 c2 : Int) (hl : nI (lenS.getD w 0) = J ((3 : Nat) : Int)) (hl2 : lenS.getD w 0 = 3) (k0 : chS w (J ((0 : Nat) : Int)) = J c0) (k1 : chS w (J ((1 : Nat) : Int)) = J c1) (k2 : chS w (J ((2 : Nat) : Int)) = J c2) (b0 : 0 ≤ c0 ∧ c0 < 256) (b1 : 0 ≤ c1 ∧ c1 < 256) (b2 : 0 ≤ c2 ∧ c2 < 256) : F_X4_isWord z w (J p) (J e) C = some (if e = p + 3 ∧ bv X p = c0 ∧ bv X (p + 1) = c1 ∧ bv X (p + 2) = c2 then 1 else 0, C) := by
  unfold F_X4_isWord
  obtain ⟨y, rfl⟩ : ∃ y, z = y + 1 + 1 + 1 + 1 := ⟨z - 4, by omega⟩
  rw [hl, J_sub]
  by_cases c : e = p + 3
  · rw [if_pos (show J ((e : Int) - p) = J ((3 : Nat) : Int) by rw [show (e : Int) - p = ((3 : Nat) : Int) by omega])]
    refine (isWord_step _ w _ hT hC (k := 0) (l := 3) hp hl hl2 (by decide) (by decide) k0 b0.1 b0.2).trans ?_
    by_cases d0 : bv X (p + 0) = c0
    · rw [if_pos d0]
      refine (isWord_step _ w _ hT hC (k := 1) (l := 3) hp hl hl2 (by decide) (by decide) k1 b1.1 b1.2).trans ?_
      by_cases d1 : bv X (p + 1) = c1
      · rw [if_pos d1]
        refine (isWord_step _ w _ hT hC (k := 2) (l := 3) hp hl hl2 (by decide) (by decide) k2 b2.1 b2.2).trans ?_
        by_cases d2 : bv X (p + 2) = c2
        · rw [if_pos d2, if_pos ⟨c, d0, d1, d2⟩]
          exact isWord_end _ w _ _ C (l := 3) hl
        · rw [if_neg d2, if_neg (fun h => d2 h.2.2.2)]
          exact isWord_no _ w _ _ _ C
      · rw [if_neg d1, if_neg (fun h => d1 h.2.2.1)]
        exact isWord_no _ w _ _ _ C
    · rw [if_neg d0, if_neg (fun h => d0 h.2.1)]
      exact isWord_no _ w _ _ _ C
  · rw [if_neg (show ¬ J ((e : Int) - p) = J ((3 : Nat) : Int) by rw [J_eq ⟨by omega, by omega⟩ ⟨by decide, by decide⟩]; omega), if_neg (fun h => c h.1)]
    exact isWord_no _ w _ _ _ C
theorem wordOf_ok {z : Nat} (hz : 400 ≤ z) {X : Tx} (hT : TxOk X) {C : CS} (hC : Ct X C) {p e : Nat} (hp : p ≤ 300) (he : e ≤ 300) : F_X4_wordOf z (J p) (J e) C = some (J (wk X p e), C) := by
  unfold F_X4_wordOf wk
  rw [isWord_1 hz hT hC hp he, bd2_some]
  by_cases c1 : e = p + 1 ∧ bv X p = 115
  · rw [if_pos c1, if_neg n10, if_pos c1]
    rfl
  · rw [if_neg c1, if_pos rfl, if_neg c1, isWord_3 hz hT hC hp he 1 115 97 119 (by decide +kernel) (by decide) (by decide +kernel) (by decide +kernel) (by decide +kernel) (by decide) (by decide) (by decide), bd2_some]
    by_cases c2 : e = p + 3 ∧ bv X p = 115 ∧ bv X (p + 1) = 97 ∧ bv X (p + 2) = 119
    · rw [if_pos c2, if_neg n10, if_pos c2]
      rfl
    · rw [if_neg c2, if_pos rfl, if_neg c2, isWord_3 hz hT hC hp he 2 112 104 105 (by decide +kernel) (by decide) (by decide +kernel) (by decide +kernel) (by decide +kernel) (by decide) (by decide) (by decide), bd2_some]
      by_cases c3 : e = p + 3 ∧ bv X p = 112 ∧ bv X (p + 1) = 104 ∧ bv X (p + 2) = 105
      · rw [if_pos c3, if_neg n10, if_pos c3]
        rfl
      · rw [if_neg c3, if_pos rfl, if_neg c3]
        rfl
theorem kindOf_ok {z : Nat} (hz : 400 ≤ z) {X : Tx} (hT : TxOk X) {C : CS} (hC : Ct X C) {p : Nat} (hp : p < X.2) : F_X4_kindOf z (J ((so (bv X p) : Nat) : Int)) (J p) (J (te X p)) C = some (J (kd X p), C) := by
  have hX := hT.1
  have h4 := so_le (bv X p)
  obtain ⟨t1, t2⟩ := te_b hX hp
  unfold F_X4_kindOf kd
  rw [if_neg (show ¬ X.2 ≤ p by omega)]
  by_cases c2 : so (bv X p) = 2
  · rw [if_pos (show J ((so (bv X p) : Nat) : Int) = 2 by rw [c2]; rfl), if_pos c2, te_w c2] at *
    rw [wordOf_ok hz hT hC (by omega) (by omega), bd2_some]
  · rw [if_neg (show ¬ J ((so (bv X p) : Nat) : Int) = 2 by rw [j2, J_eq ⟨by omega, by omega⟩ ⟨by decide, by decide⟩]; omega), if_neg c2]
    by_cases c3 : so (bv X p) = 3
    · rw [if_pos (show J ((so (bv X p) : Nat) : Int) = 3 by rw [c3]; rfl), if_pos c3, te_n c3, J_sub]
      rw [te_n c3] at t1 t2
      by_cases d : past X 3 p ≤ p + 9
      · rw [if_pos (show J (((past X 3 p : Nat) : Int) - p) ≤ 9 by rw [show (9 : Int32) = J 9 from rfl, J_le ⟨by omega, by omega⟩ ⟨by decide, by decide⟩]; omega), if_pos d]
        rfl
      · rw [if_neg (show ¬ J (((past X 3 p : Nat) : Int) - p) ≤ 9 by rw [show (9 : Int32) = J 9 from rfl, J_le ⟨by omega, by omega⟩ ⟨by decide, by decide⟩]; omega), if_neg d]
        rfl
    · rw [if_neg (show ¬ J ((so (bv X p) : Nat) : Int) = 3 by rw [show (3 : Int32) = J 3 from rfl, J_eq ⟨by omega, by omega⟩ ⟨by decide, by decide⟩]; omega), if_neg c3, byteAt_ok z hT hC (by omega), bd2_some]
/-! the table -/
def Tb (X : Tx) (C : CS) (m : Nat) : Prop := cg_tmany C = J m ∧ ∀ i, i < m → cg_kinds C i = J (kd X (pos X i)) ∧ cg_places C i = J (pos X i) ∧ cg_nums C i = J (nv X (pos X i))
def TC (X : Tx) (C : CS) : Prop := cg_tlength C = J X.2 ∧ ∃ m, 1 ≤ m ∧ m ≤ 301 ∧ pos X (m - 1) = X.2 ∧ Tb X C m
theorem upd_at (f : Nat → Int32) (k : Nat) (x : Int32) : upd f k x k = x := by unfold upd; rw [if_pos rfl]
theorem upd_ne {f : Nat → Int32} {k j : Nat} (x : Int32) (h : j ≠ k) : upd f k x j = f j := by unfold upd; rw [if_neg h]
theorem kC_tmany (C : CS) (v : Int32) : kC (cs_tmany C v) = kC C := rfl
theorem kC_nums (C : CS) (v : Nat → Int32) : kC (cs_nums C v) = kC C := rfl
theorem kC_places (C : CS) (v : Nat → Int32) : kC (cs_places C v) = kC C := rfl
theorem kC_kinds (C : CS) (v : Nat → Int32) : kC (cs_kinds C v) = kC C := rfl
theorem Ct_put {X : Tx} {C : CS} (h : Ct X C) (k pl nu : Nat → Int32) (t : Int32) : Ct X (cs_tmany (cs_nums (cs_places (cs_kinds C k) pl) nu) t) := ⟨h.1, h.2⟩
theorem put_tb {z : Nat} (hz : 400 ≤ z) {X : Tx} (hT : TxOk X) {C : CS} (hC : Ct X C) {m : Nat} (hm : m ≤ 300) (hb : Tb X C m) : ∃ C', F_X4_put z (J (kd X (pos X m))) (J (pos X m)) C = some C' ∧ Ct X C' ∧ Tb X C' (m + 1) ∧ kC C' = kC C := by
  obtain ⟨b1, b2⟩ := hb
  have hX := hT.1
  obtain ⟨p1, -⟩ := pos_ok hX m
  have hk := kd_b X (pos X m)
  have tb : ∀ v : Int32, v = J (nv X (pos X m)) → Tb X (cs_tmany (cs_nums (cs_places (cs_kinds C (upd (cg_kinds C) m (J (kd X (pos X m))))) (upd (cg_places C) m (J (pos X m)))) (upd (cg_nums C) m v)) (J ((m + 1 : Nat) : Int))) (m + 1) := by
    intro v hv
    refine ⟨rfl, fun i hi => ?_⟩
    show upd (cg_kinds C) m _ i = _ ∧ upd (cg_places C) m _ i = _ ∧ upd (cg_nums C) m _ i = _
    by_cases c : i = m
    · subst c
      rw [upd_at, upd_at, upd_at]
      exact ⟨rfl, rfl, hv⟩
    · rw [upd_ne _ c, upd_ne _ c, upd_ne _ c]
      exact b2 i (by omega)
  have n0 : ¬ cg_tmany C < 0 := by rw [b1, j0, J_lt ⟨by omega, by omega⟩ b30]; omega
  have n1 : ¬ (301 : Int32) ≤ cg_tmany C := by rw [b1, show (301 : Int32) = J 301 from rfl, J_le ⟨by decide, by decide⟩ ⟨by omega, by omega⟩]; omega
  have i1 : ib (cg_tmany C) 301 = true := by rw [b1]; exact ibJ (by omega) (by decide)
  have cl : Int32.toNatClampNeg (cg_tmany C) = m := by rw [b1]; exact clampJ (by omega)
  have ad : cg_tmany C + 1 = J ((m + 1 : Nat) : Int) := by rw [b1, j1, J_add]; rfl
  unfold F_X4_put
  rw [if_neg n0, if_neg n1, if_neg n1, if_neg n1, if_pos i1, Option.bind_some]
  show ∃ C', (if ib (cg_tmany C) 301 = true then _ else none) = some C' ∧ _
  rw [if_pos i1, Option.bind_some, cl]
  by_cases c : kd X (pos X m) = -2
  · rw [if_pos (show J (kd X (pos X m)) = -2 by rw [c]; rfl)]
    have hC2 : Ct X (cs_places (cs_kinds C (upd (cg_kinds C) m (J (kd X (pos X m))))) (upd (cg_places C) m (J (pos X m)))) := hC
    rw [show cg_places (cs_kinds C (upd (cg_kinds C) m (J (kd X (pos X m))))) = cg_places C from rfl, show cg_tmany (cs_kinds C (upd (cg_kinds C) m (J (kd X (pos X m))))) = cg_tmany C from rfl, cl]
    rw [readDigits_ok hz hT hC2 (by omega), bd2_some]
    refine ⟨_, ?_, ?_, tb (J (dv X 9 (pos X m) 0)) (by unfold nv; rw [if_pos c]), ?_⟩
    · rw [show cg_tmany (cs_places (cs_kinds C (upd (cg_kinds C) m (J (kd X (pos X m))))) (upd (cg_places C) m (J (pos X m)))) = cg_tmany C from rfl, if_pos i1, cl]
      show some (cs_tmany _ (cg_tmany C + 1)) = _
      rw [ad]
      rfl
    · exact Ct_put hC _ _ _ _
    · rw [kC_tmany, kC_nums, kC_places, kC_kinds]
  · rw [if_neg (show ¬ J (kd X (pos X m)) = -2 by rw [show (-2 : Int32) = J (-2) from rfl, J_eq ⟨by omega, by omega⟩ ⟨by decide, by decide⟩]; exact c)]
    rw [show cg_places (cs_kinds C (upd (cg_kinds C) m (J (kd X (pos X m))))) = cg_places C from rfl, show cg_tmany (cs_kinds C (upd (cg_kinds C) m (J (kd X (pos X m))))) = cg_tmany C from rfl, cl]
    refine ⟨_, ?_, ?_, tb 0 (by unfold nv; rw [if_neg c]; rfl), ?_⟩
    · rw [show cg_tmany (cs_places (cs_kinds C (upd (cg_kinds C) m (J (kd X (pos X m))))) (upd (cg_places C) m (J (pos X m)))) = cg_tmany C from rfl, if_pos i1, cl]
      show some (cs_tmany _ (cg_tmany C + 1)) = _
      rw [ad]
      rfl
    · exact Ct_put hC _ _ _ _
    · rw [kC_tmany, kC_nums, kC_places, kC_kinds]
theorem cut_loop {z : Nat} (hz : 400 ≤ z) {X : Tx} (hT : TxOk X) : ∀ (n m : Nat) (C : CS), 301 - m ≤ n → m ≤ 300 → Ct X C → Tb X C m → ∃ C', G_X4_cut_27 z n (J (pos X m)) (J m) C = some C' ∧ kC C' = kC C ∧ TC X C' := by
  have hX := hT.1
  intro n
  induction n with
  | zero => intro m C h1 h2; omega
  | succ n ih =>
    intro m C h1 h2 hC hb
    have hl : cg_tlength C = J X.2 := hC.2
    obtain ⟨p1, p2⟩ := pos_ok hX m
    obtain ⟨C1, q1, q2, q3, q4⟩ := put_tb hz hT hC h2 hb
    have fin : pos X m = X.2 → ∃ C', ((F_X4_put z (-1 : Int32) (cg_tlength C) C).bind fun S2 => some S2) = some C' ∧ kC C' = kC C ∧ TC X C' := by
      intro e
      rw [kd_end (by omega), e] at q1
      refine ⟨C1, ?_, q4, q2.2, m + 1, by omega, by omega, ?_, q3⟩
      · rw [hl, jm1, q1, Option.bind_some]
      · rw [Nat.add_sub_cancel]; exact e
    rw [e_X4_cut_27]
    by_cases c : 300 ≤ m
    · rw [if_pos (show (300 : Int32) ≤ J m by rw [j300, J_le ⟨by decide, by decide⟩ ⟨by omega, by omega⟩]; omega)]
      refine fin ?_
      rcases pos_ge hX m with g | g <;> omega
    · rw [if_neg (show ¬ (300 : Int32) ≤ J m by rw [j300, J_le ⟨by decide, by decide⟩ ⟨by omega, by omega⟩]; omega)]
      by_cases d : pos X m = X.2
      · rw [if_pos (show cg_tlength C ≤ J (pos X m) by rw [hl, J_le ⟨by omega, by omega⟩ ⟨by omega, by omega⟩]; omega)]
        exact fin d
      · rw [if_neg (show ¬ cg_tlength C ≤ J (pos X m) by rw [hl, J_le ⟨by omega, by omega⟩ ⟨by omega, by omega⟩]; omega), sortAt_ok z hT hC (by omega), bd2_some]
        have hlt : pos X m < X.2 := by omega
        obtain ⟨t1, t2⟩ := te_b hX hlt
        have key : ∃ C', G_X4_cut_67 z (G_X4_cut_27 z n) (J (pos X m)) (J m) (J ((so (bv X (pos X m)) : Nat) : Int)) (J (te X (pos X m))) C = some C' ∧ kC C' = kC C ∧ TC X C' := by
          obtain ⟨C', r1, r2, r3⟩ := ih (m + 1) C1 (by omega) (by omega) q2 q3
          refine ⟨C', ?_, by rw [r2, q4], r3⟩
          unfold G_X4_cut_67
          rw [kindOf_ok hz hT hC hlt, bd2_some, q1, Option.bind_some, show F_X4_pastRun z (J (te X (pos X m))) (1 : Int32) C1 = _ from pastRun_ok hz hT q2 (s := 1) (by decide) (by decide) (by omega), bd2_some, Option.bind_some, j1, J_add, pos_next hlt]
          exact r1
        have h4 := so_le (bv X (pos X m))
        by_cases e : so (bv X (pos X m)) = 0
        · rw [if_pos (show J ((so (bv X (pos X m)) : Nat) : Int) = 0 by rw [e]; rfl)]
          have e2 : te X (pos X m) = pos X m + 1 := by unfold te; rw [if_pos e]
          rw [e2] at key
          rw [j1, J_add]
          exact key
        · rw [if_neg (show ¬ J ((so (bv X (pos X m)) : Nat) : Int) = 0 by rw [j0, J_eq ⟨by omega, by omega⟩ b30]; omega), pastRun_ok hz hT hC e (by omega) (by omega), bd2_some]
          have e2 : te X (pos X m) = past X (so (bv X (pos X m))) (pos X m) := by unfold te; rw [if_neg e]
          rw [e2] at key
          exact key
theorem cut_ok {z : Nat} (hz : 400 ≤ z) {X : Tx} (hT : TxOk X) {C : CS} (h1 : cg_tape C = X.1) : ∃ C', F_X4_cut z (J X.2) C = some C' ∧ kC C' = kC C ∧ TC X C' := by
  have hX := hT.1
  unfold F_X4_cut
  have e : minI (J X.2) 300 = J X.2 := by
    show (if (300 : Int32) < J X.2 then (300 : Int32) else J X.2) = _
    rw [if_neg (show ¬ (300 : Int32) < J X.2 by rw [j300, J_lt ⟨by decide, by decide⟩ ⟨by omega, by omega⟩]; omega)]
  rw [e, Option.bind_some, Option.bind_some, Option.bind_some]
  have hC : Ct X (cs_tmany (cs_tlength C (J X.2)) 0) := ⟨h1, rfl⟩
  have hp := pastRun_ok hz hT hC (s := 1) (by decide) (by decide) (p := 0) (by omega)
  rw [show F_X4_pastRun z (0 : Int32) (1 : Int32) (cs_tmany (cs_tlength C (J X.2)) 0) = _ from hp, bd2_some]
  obtain ⟨C', r1, r2, r3⟩ := cut_loop hz hT z 0 _ (by omega) (by omega) hC ⟨rfl, fun i hi => absurd hi (by omega)⟩
  exact ⟨C', r1, r2, r3⟩
/-! reading the table -/
theorem TC_in {X : Tx} {C : CS} (h : TC X C) (i : Nat) : ∃ m : Nat, m ≤ 301 ∧ cg_tmany C = J m ∧ (m ≤ i → pos X i = X.2) ∧ (i < m → cg_kinds C i = J (kd X (pos X i)) ∧ cg_places C i = J (pos X i) ∧ cg_nums C i = J (nv X (pos X i))) := by
  obtain ⟨-, m, m1, m2, m3, m4, m5⟩ := h
  refine ⟨m, m2, m4, fun hi => ?_, m5 i⟩
  have := pos_stay m3 (i - (m - 1))
  rwa [show m - 1 + (i - (m - 1)) = i by omega] at this
theorem kindAt_ok (z : Nat) {X : Tx} {C : CS} (h : TC X C) {i : Nat} (hi : i < 2000) : F_X4_kindAt z (J i) C = some (J (kd X (pos X i)), C) := by
  obtain ⟨m, m1, m2, m3, m4⟩ := TC_in h i
  unfold F_X4_kindAt
  rw [if_neg (show ¬ J (i : Int) < 0 by rw [j0, J_lt ⟨by omega, by omega⟩ b30]; omega), m2]
  by_cases c : m ≤ i
  · rw [if_pos (show J (m : Int) ≤ J i by rw [J_le ⟨by omega, by omega⟩ ⟨by omega, by omega⟩]; omega), m3 c, kd_end (Nat.le_refl _)]
    rfl
  · rw [if_neg (show ¬ J (m : Int) ≤ J i by rw [J_le ⟨by omega, by omega⟩ ⟨by omega, by omega⟩]; omega), if_neg (show ¬ (301 : Int32) ≤ J i by rw [show (301 : Int32) = J 301 from rfl, J_le ⟨by decide, by decide⟩ ⟨by omega, by omega⟩]; omega), if_pos (ibJ (by omega) (by decide)), clampJ (by omega), (m4 (by omega)).1]
theorem placeAt_ok (z : Nat) {X : Tx} {C : CS} (h : TC X C) {i : Nat} (hi : i < 2000) : F_X4_placeAt z (J i) C = some (J (pos X i), C) := by
  obtain ⟨m, m1, m2, m3, m4⟩ := TC_in h i
  unfold F_X4_placeAt
  rw [if_neg (show ¬ J (i : Int) < 0 by rw [j0, J_lt ⟨by omega, by omega⟩ b30]; omega), m2]
  by_cases c : m ≤ i
  · rw [if_pos (show J (m : Int) ≤ J i by rw [J_le ⟨by omega, by omega⟩ ⟨by omega, by omega⟩]; omega), m3 c, h.1]
  · rw [if_neg (show ¬ J (m : Int) ≤ J i by rw [J_le ⟨by omega, by omega⟩ ⟨by omega, by omega⟩]; omega), if_neg (show ¬ (301 : Int32) ≤ J i by rw [show (301 : Int32) = J 301 from rfl, J_le ⟨by decide, by decide⟩ ⟨by omega, by omega⟩]; omega), if_pos (ibJ (by omega) (by decide)), clampJ (by omega), (m4 (by omega)).2.1]
theorem numberAt_ok (z : Nat) {X : Tx} {C : CS} (h : TC X C) {i : Nat} (hi : i < 2000) : F_X4_numberAt z (J i) C = some (J (nv X (pos X i)), C) := by
  obtain ⟨m, m1, m2, m3, m4⟩ := TC_in h i
  unfold F_X4_numberAt
  rw [if_neg (show ¬ J (i : Int) < 0 by rw [j0, J_lt ⟨by omega, by omega⟩ b30]; omega), m2]
  by_cases c : m ≤ i
  · rw [if_pos (show J (m : Int) ≤ J i by rw [J_le ⟨by omega, by omega⟩ ⟨by omega, by omega⟩]; omega), m3 c]
    unfold nv
    rw [kd_end (Nat.le_refl _), if_neg (by decide)]
    rfl
  · rw [if_neg (show ¬ J (m : Int) ≤ J i by rw [J_le ⟨by omega, by omega⟩ ⟨by omega, by omega⟩]; omega), if_neg (show ¬ (301 : Int32) ≤ J i by rw [show (301 : Int32) = J 301 from rfl, J_le ⟨by decide, by decide⟩ ⟨by omega, by omega⟩]; omega), if_pos (ibJ (by omega) (by decide)), clampJ (by omega), (m4 (by omega)).2.2]
