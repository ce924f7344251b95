
def rm_X5_sink : Room := { frames := 0, cells := 0, slots := 0, locals := 0 }
section
variable {p : Program} {l : Launch} {e : Env} {s : State} {m : MethodId} {args : Array Value} {below : List Frame} {meth : Method} {c : Code} {z : Nat} {K : Ev} {M : MS} {o : Nat → Int64} {g : Gh}
set_option maxRecDepth 100000 in
theorem w_X5_sink_23 (Cc : Cx p s m args meth c cX5_sink 6 RX5 wsX5_sink none) (hK : va_K K.1 vwCl (tysOf K) s) (hF : SF K s)  {S' : CS} (n : Nat) : ∀ (x2 : Int32) (x3 : Int64) (x5 : Int32) (S : CS) (H : Heap) (locs : List Loc), va_P K.1 vwCl (wd K S M o g) H → va_D (inA K) (wd K S M o g) → va_S (inA K) s.heap H locs → G_X5_sink_23 z n x2 x3 x5 S = some S' → ∀ ls, lv_has ls 6 [(0, .ref (K.2.2.1 5)), (2, .int x2), (3, .long x3), (5, .int x5)] → W p l e rm_X5_sink s m args below meth c H locs 0 0 (MQ below (qR K none S' M o g) args s 0 0 (inA K)) (F0 m 23 ls []) := by
  obtain ⟨hx, hb, hml, hown, hts, hr, hlk, hN⟩ := id Cc
  have hcl : 0 ≤ (rm_X5_sink).cells := Nat.zero_le _
  have hsl : 0 ≤ (rm_X5_sink).slots := Nat.zero_le _
  induction n with
  | zero => intro x2 x3 x5 S H locs hP hD hS h; cases h
  | succ n ih =>
    intro x2 x3 x5 S H locs hP hD hS h ls hl
    rw [G_X5_sink_23] at h
    refine lv_iload hx hb dX5_sink_23 (lv_at hl 3 rfl) ?_
    refine lv_iload_n hx hb dX5_sink_25 rfl (lv_at hl 1 rfl) ?_
    refine lv_icmp_lt (tgt := 59) hx hb dX5_sink_26 (by decide) (fun c1 => ?_) (fun c1 => ?_)
    · have h := gn_t h c1
      refine lv_aload_n hx hb dX5_sink_59 rfl (lv_at hl 0 rfl) ?_
      refine lv_iload hx hb dX5_sink_60 (lv_at hl 3 rfl) ?_
      refine lv_lload_n hx hb dX5_sink_62 rfl (lv_at hl 2 rfl) ?_
      obtain ⟨n2, h⟩ := gn_yz h
      obtain ⟨S3, eS3, h⟩ := gn_nm h
      refine va_last hx hb hK hP hD hS 5 0 rfl rfl (ib_in n2) dX5_sink_63 (fun H locs hP hD hS => ?_)
      have hP : va_P K.1 vwCl (wd K S3 M o g) H := by rw [eS3]; exact hP
      have hD : va_D (inA K) (wd K S3 M o g) := by rw [eS3]; exact hD
      obtain rfl := gn_some h
      exact W.vret hx hb hr (fun t ht _ => ⟨rfl, by rw [ht]; exact hP, hD, hS.F ht⟩) hS.2.2 dX5_sink_64 hlk
    · have h := gn_f h c1
      refine lv_aload_n hx hb dX5_sink_29 rfl (lv_at hl 0 rfl) ?_
      refine lv_iload hx hb dX5_sink_30 (lv_at hl 3 rfl) ?_
      refine lv_iload_n hx hb dX5_sink_32 rfl (lv_at hl 1 rfl) ?_
      refine lv_isub hx hb dX5_sink_33 ?_
      obtain ⟨n4, h⟩ := gn_yz h
      refine va_lald hx hb hK hP 5 0 rfl rfl (ib_in n4) dX5_sink_34 ?_
      refine lv_lload_n hx hb dX5_sink_35 rfl (lv_at hl 2 rfl) ?_
      refine ll_le (tgt := 59) hx hb dX5_sink_36 dX5_sink_37 (by decide) (fun c5 => ?_) (fun c5 => ?_)
      · have h := gn_t h c5
        refine lv_aload_n hx hb dX5_sink_59 rfl (lv_at hl 0 rfl) ?_
        refine lv_iload hx hb dX5_sink_60 (lv_at hl 3 rfl) ?_
        refine lv_lload_n hx hb dX5_sink_62 rfl (lv_at hl 2 rfl) ?_
        obtain ⟨n6, h⟩ := gn_yz h
        obtain ⟨S7, eS7, h⟩ := gn_nm h
        refine va_last hx hb hK hP hD hS 5 0 rfl rfl (ib_in n6) dX5_sink_63 (fun H locs hP hD hS => ?_)
        have hP : va_P K.1 vwCl (wd K S7 M o g) H := by rw [eS7]; exact hP
        have hD : va_D (inA K) (wd K S7 M o g) := by rw [eS7]; exact hD
        obtain rfl := gn_some h
        exact W.vret hx hb hr (fun t ht _ => ⟨rfl, by rw [ht]; exact hP, hD, hS.F ht⟩) hS.2.2 dX5_sink_64 hlk
      · have h := gn_f h c5
        refine lv_aload_n hx hb dX5_sink_40 rfl (lv_at hl 0 rfl) ?_
        refine lv_iload hx hb dX5_sink_41 (lv_at hl 3 rfl) ?_
        refine lv_aload_n hx hb dX5_sink_43 rfl (lv_at hl 0 rfl) ?_
        refine lv_iload hx hb dX5_sink_44 (lv_at hl 3 rfl) ?_
        refine lv_iload_n hx hb dX5_sink_46 rfl (lv_at hl 1 rfl) ?_
        refine lv_isub hx hb dX5_sink_47 ?_
        obtain ⟨n8, h⟩ := gn_yz h
        refine va_lald hx hb hK hP 5 0 rfl rfl (ib_in n8) dX5_sink_48 ?_
        obtain ⟨n9, h⟩ := gn_yz h
        obtain ⟨S10, eS10, h⟩ := gn_nm h
        refine va_last hx hb hK hP hD hS 5 0 rfl rfl (ib_in n9) dX5_sink_49 (fun H locs hP hD hS => ?_)
        have hP : va_P K.1 vwCl (wd K S10 M o g) H := by rw [eS10]; exact hP
        have hD : va_D (inA K) (wd K S10 M o g) := by rw [eS10]; exact hD
        refine lv_iload hx hb dX5_sink_50 (lv_at hl 3 rfl) ?_
        refine lv_iload_n hx hb dX5_sink_52 rfl (lv_at hl 1 rfl) ?_
        refine lv_isub hx hb dX5_sink_53 ?_
        obtain ⟨v11, ev11, h⟩ := gn_nm h
        refine ln_i ev11 ?_
        refine lv_istore (lv' := [(5, .int v11), (0, .ref (K.2.2.1 5)), (2, .int x2), (3, .long x3)]) hx hb dX5_sink_54 hl (by decide) rfl (fun ls hl => ?_)
        refine lv_goto (tgt := 23) hx hb dX5_sink_56 (by decide) ?_
        exact ih x2 x3 v11 S10 _ _ hP hD hS h ls (lv_sub hl [1, 2, 3, 0] rfl)
end
set_option maxRecDepth 100000 in
theorem c_X5_sink (l : Launch) (z : Nat) (K : Ev) (M : MS) (o : Nat → Int64) (g : Gh) (a1 : Int32) (a2 : Int32) (S : CS)  (S' : CS) (h : F_X5_sink z a1 a2 S = some S') : Met l yX5_sink wsX5_sink rm_X5_sink (qH K [.ref (K.2.2.1 5), .int a1, .int a2] S M o g) (qR K none S' M o g) 0 0 (inA K) := by
  refine Met.ofW (cc := cX5_sink) (maxL := 6) (ret := none) (by decide) rfl ?_
  intro p e s m args below meth c s₁ B hml hv
  obtain ⟨rfl, hN, hP, hK, hD, hF⟩ := hv
  have hx := B.exec
  have hb := B.bytes
  have hr := B.returns
  have hts := atoms_spec (ws := wsX5_sink) B.pre
  have hown : s.vm.findClass RX5 = some m.cls := findClass_of_methodNamed B.named
  have hlk := B.notSynchronized
  have hcl : 0 ≤ (rm_X5_sink).cells := Nat.zero_le _
  have hsl : 0 ≤ (rm_X5_sink).slots := Nat.zero_le _
  have Cc : Cx p s m _ meth c cX5_sink 6 RX5 wsX5_sink none := ⟨hx, hb, hml, hown, hts, hr, hlk, hN⟩
  have hS : va_S (inA K) s.heap s.heap [] := va_S.rf
  have hl := lv_entry ([.ref (K.2.2.1 5), .int a1, .int a2]) (n := 6) (Nat.le_of_ble_eq_true rfl)
  rw [lg_entry_eq]
  generalize (lg_sl ([.ref (K.2.2.1 5), .int a1, .int a2]) ++ List.replicate (6 - (lg_sl ([.ref (K.2.2.1 5), .int a1, .int a2])).length) Slot.unset).toArray = ls at hl ⊢
  have hl : lv_has ls 6 [(0, .ref (K.2.2.1 5)), (1, .int a1), (2, .int a2)] := hl
  rw [F_X5_sink] at h
  refine lv_iload_n hx hb dX5_sink_0 rfl (lv_at hl 2 rfl) ?_
  refine lv_iconst (v := (1 : Int32)) hx hb dX5_sink_1 (by decide) ?_
  refine lv_icmp_lt (tgt := 15) hx hb dX5_sink_2 (by decide) (fun c1 => ?_) (fun c1 => ?_)
  · have h := gn_t h c1
    obtain rfl := gn_some h
    exact W.vret hx hb hr (fun t ht _ => ⟨rfl, by rw [ht]; exact hP, hD, hS.F ht⟩) hS.2.2 dX5_sink_15 hlk
  · have h := gn_f h c1
    refine lv_iload_n hx hb dX5_sink_5 rfl (lv_at hl 1 rfl) ?_
    refine lv_if_lt (tgt := 15) hx hb dX5_sink_6 (by decide) (fun c2 => ?_) (fun c2 => ?_)
    · have h := gn_t h c2
      obtain rfl := gn_some h
      exact W.vret hx hb hr (fun t ht _ => ⟨rfl, by rw [ht]; exact hP, hD, hS.F ht⟩) hS.2.2 dX5_sink_15 hlk
    · have h := gn_f h c2
      refine lv_iload_n hx hb dX5_sink_9 rfl (lv_at hl 1 rfl) ?_
      refine lv_aload_n hx hb dX5_sink_10 rfl (lv_at hl 0 rfl) ?_
      refine va_alen (v := (500 : Int32)) hx hb hK hP 5 0 rfl rfl rfl dX5_sink_11 ?_
      refine lv_icmp_lt (tgt := 16) hx hb dX5_sink_12 (by decide) (fun c3 => ?_) (fun c3 => ?_)
      · have h := gn_t h c3
        refine lv_aload_n hx hb dX5_sink_16 rfl (lv_at hl 0 rfl) ?_
        refine lv_iload_n hx hb dX5_sink_17 rfl (lv_at hl 1 rfl) ?_
        obtain ⟨n4, h⟩ := gn_yz h
        refine va_lald hx hb hK hP 5 0 rfl rfl (ib_in n4) dX5_sink_18 ?_
        obtain ⟨v5, ev5, h⟩ := gn_nm h
        refine ln_l ev5 ?_
        refine lv_lstore_n (lv' := [(3, .long v5), (0, .ref (K.2.2.1 5)), (1, .int a1), (2, .int a2)]) hx hb dX5_sink_19 rfl hl (by decide) rfl (fun ls hl => ?_)
        refine lv_iload_n hx hb dX5_sink_20 rfl (lv_at hl 2 rfl) ?_
        refine lv_istore (lv' := [(5, .int a1), (3, .long v5), (0, .ref (K.2.2.1 5)), (1, .int a1), (2, .int a2)]) hx hb dX5_sink_21 hl (by decide) rfl (fun ls hl => ?_)
        exact w_X5_sink_23 Cc hK hF z a2 v5 a1 S _ _ hP hD hS h ls (lv_sub hl [2, 4, 1, 0] rfl)
      · have h := gn_f h c3
        obtain rfl := gn_some h
        exact W.vret hx hb hr (fun t ht _ => ⟨rfl, by rw [ht]; exact hP, hD, hS.F ht⟩) hS.2.2 dX5_sink_15 hlk

def rm_X5_unlike : Room := { frames := 1, cells := 0, slots := 0, locals := 25 }
section
variable {p : Program} {l : Launch} {e : Env} {s : State} {m : MethodId} {args : Array Value} {below : List Frame} {meth : Method} {c : Code} {z : Nat} {K : Ev} {M : MS} {o : Nat → Int64} {g : Gh}
set_option maxRecDepth 100000 in
theorem w_X5_unlike_23 (Cc : Cx p s m args meth c cX5_unlike 4 RX5 wsX5_unlike (some .int)) (hK : va_K K.1 vwCl (tysOf K) s) (hF : SF K s) {r : Int32} {S' : CS} {k17 : Int32 → Int32 → CS → Option (Int32 × CS)} (hk17 : ∀ (x1 : Int32) (x2 : Int32) (S : CS) (H : Heap) (locs : List Loc), va_P K.1 vwCl (wd K S M o g) H → va_D (inA K) (wd K S M o g) → va_S (inA K) s.heap H locs → k17 x1 x2 S = some (r, S') → ∀ ls, lv_has ls 4 [(0, .ref (K.2.2.1 5)), (1, .int x1), (2, .int x2)] → W p l e rm_X5_unlike s m args below meth c H locs 0 0 (MQ below (qR K (some (.int r)) S' M o g) args s 0 0 (inA K)) (F0 m 17 ls [])) (n : Nat) : ∀ (x1 : Int32) (x2 : Int32) (x3 : Int32) (S : CS) (H : Heap) (locs : List Loc), va_P K.1 vwCl (wd K S M o g) H → va_D (inA K) (wd K S M o g) → va_S (inA K) s.heap H locs → G_X5_unlike_23 z k17 n x1 x2 x3 S = some (r, S') → ∀ ls, lv_has ls 4 [(0, .ref (K.2.2.1 5)), (1, .int x1), (2, .int x2), (3, .int x3)] → W p l e rm_X5_unlike s m args below meth c H locs 0 0 (MQ below (qR K (some (.int r)) S' M o g) args s 0 0 (inA K)) (F0 m 23 ls []) := by
  obtain ⟨hx, hb, hml, hown, hts, hr, hlk, hN⟩ := id Cc
  have hcl : 0 ≤ (rm_X5_unlike).cells := Nat.zero_le _
  have hsl : 0 ≤ (rm_X5_unlike).slots := Nat.zero_le _
  induction n with
  | zero => intro x1 x2 x3 S H locs hP hD hS h; cases h
  | succ n ih =>
    intro x1 x2 x3 S H locs hP hD hS h ls hl
    rw [G_X5_unlike_23] at h
    refine lv_iload_n hx hb dX5_unlike_23 rfl (lv_at hl 3 rfl) ?_
    refine lv_iload_n hx hb dX5_unlike_24 rfl (lv_at hl 1 rfl) ?_
    refine lv_icmp_ge (tgt := 40) hx hb dX5_unlike_25 (by decide) (fun c1 => ?_) (fun c1 => ?_)
    · have h := gn_t h c1
      refine lv_iload_n hx hb dX5_unlike_40 rfl (lv_at hl 2 rfl) ?_
      refine lv_iconst (v := (2 : Int32)) hx hb dX5_unlike_41 (by decide) ?_
      refine lv_idiv hx hb dX5_unlike_42 (by decide) ?_
      obtain ⟨v2, ev2, h⟩ := gn_nm h
      refine ln_i ev2 ?_
      refine lv_istore_n (lv' := [(2, .int v2), (0, .ref (K.2.2.1 5)), (1, .int x1), (3, .int x3)]) hx hb dX5_unlike_43 rfl hl (by decide) rfl (fun ls hl => ?_)
      refine lv_goto (tgt := 17) hx hb dX5_unlike_44 (by decide) ?_
      exact hk17 x1 v2 S _ _ hP hD hS h ls (lv_sub hl [1, 2, 0] rfl)
    · have h := gn_f h c1
      refine lv_aload_n hx hb dX5_unlike_28 rfl (lv_at hl 0 rfl) ?_
      refine lv_iload_n hx hb dX5_unlike_29 rfl (lv_at hl 3 rfl) ?_
      refine lv_iload_n hx hb dX5_unlike_30 rfl (lv_at hl 2 rfl) ?_
      obtain ⟨S3, qS3, h⟩ := gn_bd h
      refine hc_S (rest := []) ⟨hx, hb, hml, hown, hts⟩ hN hF hK hP hD hS (c_X5_sink l z K _ o g _ _ _  S3 qS3) (va_cwS 3 hts gX5_unlike_X5_sink rfl rfl rfl (by decide +kernel) ⟨(Nat.le_of_ble_eq_true rfl), (Nat.le_of_ble_eq_true rfl)⟩) rfl hl.1 rfl (Nat.le_of_ble_eq_true rfl) dX5_unlike_31 hcl hsl (fun H locs hP hD hS => ?_)
      have hP : va_P K.1 vwCl (wd K S3 M o g) H := hP
      have hD : va_D (inA K) (wd K S3 M o g) := hD
      refine W.eq (g2 := F0 m 34 ls []) rfl ?_
      obtain ⟨v4, ev4, h⟩ := gn_nm h
      refine lv_iinc (v := v4) (lv' := [(3, .int v4), (0, .ref (K.2.2.1 5)), (1, .int x1), (2, .int x2)]) hx hb dX5_unlike_34 hl (k := 3) rfl (by rw [ev4]; rfl) (by decide) rfl (fun ls hl => ?_)
      refine lv_goto (tgt := 23) hx hb dX5_unlike_37 (by decide) ?_
      exact ih x1 x2 v4 S3 _ _ hP hD hS h ls (lv_sub hl [1, 2, 3, 0] rfl)
set_option maxRecDepth 100000 in
theorem w_X5_unlike_51 (Cc : Cx p s m args meth c cX5_unlike 4 RX5 wsX5_unlike (some .int)) (hK : va_K K.1 vwCl (tysOf K) s) (hF : SF K s) {r : Int32} {S' : CS} (n : Nat) : ∀ (x1 : Int32) (x2 : Int32) (x3 : Int32) (S : CS) (H : Heap) (locs : List Loc), va_P K.1 vwCl (wd K S M o g) H → va_D (inA K) (wd K S M o g) → va_S (inA K) s.heap H locs → G_X5_unlike_51 z n x1 x2 x3 S = some (r, S') → ∀ ls, lv_has ls 4 [(0, .ref (K.2.2.1 5)), (1, .int x1), (2, .int x2), (3, .int x3)] → W p l e rm_X5_unlike s m args below meth c H locs 0 0 (MQ below (qR K (some (.int r)) S' M o g) args s 0 0 (inA K)) (F0 m 51 ls []) := by
  obtain ⟨hx, hb, hml, hown, hts, hr, hlk, hN⟩ := id Cc
  have hcl : 0 ≤ (rm_X5_unlike).cells := Nat.zero_le _
  have hsl : 0 ≤ (rm_X5_unlike).slots := Nat.zero_le _
  induction n with
  | zero => intro x1 x2 x3 S H locs hP hD hS h; cases h
  | succ n ih =>
    intro x1 x2 x3 S H locs hP hD hS h ls hl
    rw [G_X5_unlike_51] at h
    refine lv_iload_n hx hb dX5_unlike_51 rfl (lv_at hl 3 rfl) ?_
    refine lv_iload_n hx hb dX5_unlike_52 rfl (lv_at hl 1 rfl) ?_
    refine lv_icmp_ge (tgt := 77) hx hb dX5_unlike_53 (by decide) (fun c1 => ?_) (fun c1 => ?_)
    · have h := gn_t h c1
      refine lv_iload_n hx hb dX5_unlike_77 rfl (lv_at hl 2 rfl) ?_
      obtain ⟨rfl, rfl⟩ := Prod.mk.inj (gn_some h)
      exact W.iret hx hb hr (fun t ht _ => ⟨rfl, by rw [ht]; exact hP, hD, hS.F ht⟩) hS.2.2 dX5_unlike_78 hlk
    · have h := gn_f h c1
      refine lv_aload_n hx hb dX5_unlike_56 rfl (lv_at hl 0 rfl) ?_
      refine lv_iload_n hx hb dX5_unlike_57 rfl (lv_at hl 3 rfl) ?_
      obtain ⟨n2, h⟩ := gn_yz h
      refine va_lald hx hb hK hP 5 0 rfl rfl (ib_in n2) dX5_unlike_58 ?_
      refine lv_aload_n hx hb dX5_unlike_59 rfl (lv_at hl 0 rfl) ?_
      refine lv_iload_n hx hb dX5_unlike_60 rfl (lv_at hl 3 rfl) ?_
      refine lv_iconst (v := (1 : Int32)) hx hb dX5_unlike_61 (by decide) ?_
      refine lv_isub hx hb dX5_unlike_62 ?_
      obtain ⟨n3, h⟩ := gn_yz h
      refine va_lald hx hb hK hP 5 0 rfl rfl (ib_in n3) dX5_unlike_63 ?_
      refine ll_eq (tgt := 71) hx hb dX5_unlike_64 dX5_unlike_65 (by decide) (fun c4 => ?_) (fun c4 => ?_)
      · have h := gn_t h c4
        obtain ⟨v5, ev5, h⟩ := gn_nm h
        refine lv_iinc (v := v5) (lv' := [(3, .int v5), (0, .ref (K.2.2.1 5)), (1, .int x1), (2, .int x2)]) hx hb dX5_unlike_71 hl (k := 3) rfl (by rw [ev5]; rfl) (by decide) rfl (fun ls hl => ?_)
        refine lv_goto (tgt := 51) hx hb dX5_unlike_74 (by decide) ?_
        exact ih x1 x2 v5 S _ _ hP hD hS h ls (lv_sub hl [1, 2, 3, 0] rfl)
      · have h := gn_f h c4
        obtain ⟨v6, ev6, h⟩ := gn_nm h
        refine lv_iinc (v := v6) (lv' := [(2, .int v6), (0, .ref (K.2.2.1 5)), (1, .int x1), (3, .int x3)]) hx hb dX5_unlike_68 hl (k := 2) rfl (by rw [ev6]; rfl) (by decide) rfl (fun ls hl => ?_)
        obtain ⟨v7, ev7, h⟩ := gn_nm h
        refine lv_iinc (v := v7) (lv' := [(3, .int v7), (2, .int v6), (0, .ref (K.2.2.1 5)), (1, .int x1)]) hx hb dX5_unlike_71 hl (k := 3) rfl (by rw [ev7]; rfl) (by decide) rfl (fun ls hl => ?_)
        refine lv_goto (tgt := 51) hx hb dX5_unlike_74 (by decide) ?_
        exact ih x1 v6 v7 S _ _ hP hD hS h ls (lv_sub hl [2, 3, 1, 0] rfl)
set_option maxRecDepth 100000 in
theorem w_X5_unlike_17 (Cc : Cx p s m args meth c cX5_unlike 4 RX5 wsX5_unlike (some .int)) (hK : va_K K.1 vwCl (tysOf K) s) (hF : SF K s) {r : Int32} {S' : CS} (n : Nat) : ∀ (x1 : Int32) (x2 : Int32) (S : CS) (H : Heap) (locs : List Loc), va_P K.1 vwCl (wd K S M o g) H → va_D (inA K) (wd K S M o g) → va_S (inA K) s.heap H locs → G_X5_unlike_17 z n x1 x2 S = some (r, S') → ∀ ls, lv_has ls 4 [(0, .ref (K.2.2.1 5)), (1, .int x1), (2, .int x2)] → W p l e rm_X5_unlike s m args below meth c H locs 0 0 (MQ below (qR K (some (.int r)) S' M o g) args s 0 0 (inA K)) (F0 m 17 ls []) := by
  obtain ⟨hx, hb, hml, hown, hts, hr, hlk, hN⟩ := id Cc
  have hcl : 0 ≤ (rm_X5_unlike).cells := Nat.zero_le _
  have hsl : 0 ≤ (rm_X5_unlike).slots := Nat.zero_le _
  induction n with
  | zero => intro x1 x2 S H locs hP hD hS h; cases h
  | succ n ih =>
    intro x1 x2 S H locs hP hD hS h ls hl
    rw [G_X5_unlike_17] at h
    refine lv_iload_n hx hb dX5_unlike_17 rfl (lv_at hl 2 rfl) ?_
    refine lv_if_le (tgt := 47) hx hb dX5_unlike_18 (by decide) (fun c1 => ?_) (fun c1 => ?_)
    · have h := gn_t h c1
      refine lv_iconst (v := (1 : Int32)) hx hb dX5_unlike_47 (by decide) ?_
      refine lv_istore_n (lv' := [(2, .int (1 : Int32)), (0, .ref (K.2.2.1 5)), (1, .int x1)]) hx hb dX5_unlike_48 rfl hl (by decide) rfl (fun ls hl => ?_)
      refine lv_iconst (v := (1 : Int32)) hx hb dX5_unlike_49 (by decide) ?_
      refine lv_istore_n (lv' := [(3, .int (1 : Int32)), (2, .int (1 : Int32)), (0, .ref (K.2.2.1 5)), (1, .int x1)]) hx hb dX5_unlike_50 rfl hl (by decide) rfl (fun ls hl => ?_)
      exact w_X5_unlike_51 Cc hK hF z x1 (1 : Int32) (1 : Int32) S _ _ hP hD hS h ls (lv_sub hl [2, 3, 1, 0] rfl)
    · have h := gn_f h c1
      refine lv_iload_n hx hb dX5_unlike_21 rfl (lv_at hl 2 rfl) ?_
      refine lv_istore_n (lv' := [(3, .int x2), (0, .ref (K.2.2.1 5)), (1, .int x1), (2, .int x2)]) hx hb dX5_unlike_22 rfl hl (by decide) rfl (fun ls hl => ?_)
      exact w_X5_unlike_23 Cc hK hF ih z x1 x2 x2 S _ _ hP hD hS h ls (lv_sub hl [1, 2, 3, 0] rfl)
end
set_option maxRecDepth 100000 in
theorem c_X5_unlike (l : Launch) (z : Nat) (K : Ev) (M : MS) (o : Nat → Int64) (g : Gh) (a1 : Int32) (S : CS) (r : Int32) (S' : CS) (h : F_X5_unlike z a1 S = some (r, S')) : Met l yX5_unlike wsX5_unlike rm_X5_unlike (qH K [.ref (K.2.2.1 5), .int a1] S M o g) (qR K (some (.int r)) S' M o g) 0 0 (inA K) := by
  refine Met.ofW (cc := cX5_unlike) (maxL := 4) (ret := (some .int)) (by decide) rfl ?_
  intro p e s m args below meth c s₁ B hml hv
  obtain ⟨rfl, hN, hP, hK, hD, hF⟩ := hv
  have hx := B.exec
  have hb := B.bytes
  have hr := B.returns
  have hts := atoms_spec (ws := wsX5_unlike) B.pre
  have hown : s.vm.findClass RX5 = some m.cls := findClass_of_methodNamed B.named
  have hlk := B.notSynchronized
  have hcl : 0 ≤ (rm_X5_unlike).cells := Nat.zero_le _
  have hsl : 0 ≤ (rm_X5_unlike).slots := Nat.zero_le _
  have Cc : Cx p s m _ meth c cX5_unlike 4 RX5 wsX5_unlike (some .int) := ⟨hx, hb, hml, hown, hts, hr, hlk, hN⟩
  have hS : va_S (inA K) s.heap s.heap [] := va_S.rf
  have hl := lv_entry ([.ref (K.2.2.1 5), .int a1]) (n := 4) (Nat.le_of_ble_eq_true rfl)
  rw [lg_entry_eq]
  generalize (lg_sl ([.ref (K.2.2.1 5), .int a1]) ++ List.replicate (4 - (lg_sl ([.ref (K.2.2.1 5), .int a1])).length) Slot.unset).toArray = ls at hl ⊢
  have hl : lv_has ls 4 [(0, .ref (K.2.2.1 5)), (1, .int a1)] := hl
  rw [F_X5_unlike] at h
  refine lv_iload_n hx hb dX5_unlike_0 rfl (lv_at hl 1 rfl) ?_
  refine lv_iconst (v := (1 : Int32)) hx hb dX5_unlike_1 (by decide) ?_
  refine lv_icmp_lt (tgt := 11) hx hb dX5_unlike_2 (by decide) (fun c1 => ?_) (fun c1 => ?_)
  · have h := gn_t h c1
    refine lv_iconst (v := (0 : Int32)) hx hb dX5_unlike_11 (by decide) ?_
    obtain ⟨rfl, rfl⟩ := Prod.mk.inj (gn_some h)
    exact W.iret hx hb hr (fun t ht _ => ⟨rfl, by rw [ht]; exact hP, hD, hS.F ht⟩) hS.2.2 dX5_unlike_12 hlk
  · have h := gn_f h c1
    refine lv_iload_n hx hb dX5_unlike_5 rfl (lv_at hl 1 rfl) ?_
    refine lv_aload_n hx hb dX5_unlike_6 rfl (lv_at hl 0 rfl) ?_
    refine va_alen (v := (500 : Int32)) hx hb hK hP 5 0 rfl rfl rfl dX5_unlike_7 ?_
    refine lv_icmp_le (tgt := 13) hx hb dX5_unlike_8 (by decide) (fun c2 => ?_) (fun c2 => ?_)
    · have h := gn_t h c2
      refine lv_iload_n hx hb dX5_unlike_13 rfl (lv_at hl 1 rfl) ?_
      refine lv_iconst (v := (2 : Int32)) hx hb dX5_unlike_14 (by decide) ?_
      refine lv_idiv hx hb dX5_unlike_15 (by decide) ?_
      obtain ⟨v3, ev3, h⟩ := gn_nm h
      refine ln_i ev3 ?_
      refine lv_istore_n (lv' := [(2, .int v3), (0, .ref (K.2.2.1 5)), (1, .int a1)]) hx hb dX5_unlike_16 rfl hl (by decide) rfl (fun ls hl => ?_)
      exact w_X5_unlike_17 Cc hK hF z a1 v3 S _ _ hP hD hS h ls (lv_sub hl [1, 2, 0] rfl)
    · have h := gn_f h c2
      refine lv_iconst (v := (0 : Int32)) hx hb dX5_unlike_11 (by decide) ?_
      obtain ⟨rfl, rfl⟩ := Prod.mk.inj (gn_some h)
      exact W.iret hx hb hr (fun t ht _ => ⟨rfl, by rw [ht]; exact hP, hD, hS.F ht⟩) hS.2.2 dX5_unlike_12 hlk
theorem in_X2_become_X2 : ∀ w ∈ wsX20, w ∈ wsX2_become := fun _ h => List.mem_cons_of_mem _ (List.mem_append_right _ h)
def rm_X2_become : Room := { frames := 2, cells := 0, slots := 0, locals := 52 }
section
variable {p : Program} {l : Launch} {e : Env} {s : State} {m : MethodId} {args : Array Value} {below : List Frame} {meth : Method} {c : Code} {z : Nat} {K : Ev} {M : MS} {o : Nat → Int64} {g : Gh}
end
set_option maxRecDepth 100000 in
theorem c_X2_become (l : Launch) (z : Nat) (K : Ev) (M : MS) (o : Nat → Int64) (g : Gh) (a0 : Int64) (a1 : Int64) (a2 : Int64) (a3 : Int64) (S : CS) (r : Int32) (S' : CS) (h : F_X2_become z a0 a1 a2 a3 S = some (r, S')) : Met l yX2_become wsX2_become rm_X2_become (qH K [.ref (K.2.2.1 1), .long a0, .long a1, .long a2, .long a3] S M o g) (qR K (some (.int r)) S' M o g) 0 0 (inA K) := by
  refine Met.ofW (cc := cX2_become) (maxL := 9) (ret := (some .boolean)) (by decide) rfl ?_
  intro p e s m args below meth c s₁ B hml hv
  obtain ⟨rfl, hN, hP, hK, hD, hF⟩ := hv
  have hx := B.exec
  have hb := B.bytes
  have hr := B.returns
  have hts := atoms_spec (ws := wsX2_become) B.pre
  have hown : s.vm.findClass RX2 = some m.cls := findClass_of_methodNamed B.named
  have hlk := B.notSynchronized
  have hcl : 0 ≤ (rm_X2_become).cells := Nat.zero_le _
  have hsl : 0 ≤ (rm_X2_become).slots := Nat.zero_le _
  have Cc : Cx p s m _ meth c cX2_become 9 RX2 wsX2_become (some .boolean) := ⟨hx, hb, hml, hown, hts, hr, hlk, hN⟩
  have hS : va_S (inA K) s.heap s.heap [] := va_S.rf
  have hl := lv_entry ([.ref (K.2.2.1 1), .long a0, .long a1, .long a2, .long a3]) (n := 9) (Nat.le_of_ble_eq_true rfl)
  rw [lg_entry_eq]
  generalize (lg_sl ([.ref (K.2.2.1 1), .long a0, .long a1, .long a2, .long a3]) ++ List.replicate (9 - (lg_sl ([.ref (K.2.2.1 1), .long a0, .long a1, .long a2, .long a3])).length) Slot.unset).toArray = ls at hl ⊢
  have hl : lv_has ls 9 [(0, .ref (K.2.2.1 1)), (1, .long a0), (3, .long a1), (5, .long a2), (7, .long a3)] := hl
  rw [F_X2_become] at h
  refine lv_lload_n hx hb dX2_become_0 rfl (lv_at hl 1 rfl) ?_
  refine lv_lload_n hx hb dX2_become_1 rfl (lv_at hl 2 rfl) ?_
  refine lv_lload hx hb dX2_become_2 (lv_at hl 3 rfl) ?_
  refine lv_lload hx hb dX2_become_4 (lv_at hl 4 rfl) ?_
  obtain ⟨r1, qr1, h⟩ := gn_bd h
  refine pc_S (rest := []) ⟨hx, hb, hml, hown, hts⟩ hN (c_X2_isMatrix l z _ _ _ _ r1 qr1) (va_cwS 4 hts gX2_become_X2_isMatrix rfl rfl rfl (by decide +kernel) ⟨(Nat.le_of_ble_eq_true rfl), (Nat.le_of_ble_eq_true rfl)⟩) rfl hl.1 rfl (Nat.le_of_ble_eq_true rfl) dX2_become_6 hcl hsl ?_
  refine lv_if_ne (tgt := 14) hx hb dX2_become_9 (by decide) (fun c2 => ?_) (fun c2 => ?_)
  · have h := gn_f h c2
    refine lv_aload_n hx hb dX2_become_14 rfl (lv_at hl 0 rfl) ?_
    refine lv_lload_n hx hb dX2_become_15 rfl (lv_at hl 1 rfl) ?_
    refine lv_l2i hx hb dX2_become_16 rfl ?_
    obtain ⟨v3, ev3, h⟩ := gn_nm h
    refine ln_i ev3 ?_
    obtain ⟨S4, eS4, h⟩ := gn_nm h
    refine va_put (D := K.1) (ci := 2) (v := .int v3) (ty := .int) (C := RX2) (T := TX2) (N := 4) hx hb hts in_X2_become_X2 tyX2 tyX2_ok nmX2 hown hK hP hD hS 1 rfl rfl 0 (by decide) (hts (.fieldLink RX2 9 "SawSums$Matrix" "a" "I") (by decide +kernel)) (fun _ h9 => h9) rfl (by decide +kernel) rfl rfl (Nat.le_of_ble_eq_true rfl) dX2_become_17 (fun H locs hP hD hS => ?_)
    have hP : va_P K.1 vwCl (wd K S4 M o g) H := by rw [eS4]; exact hP
    have hD : va_D (inA K) (wd K S4 M o g) := by rw [eS4]; exact hD
    refine lv_aload_n hx hb dX2_become_20 rfl (lv_at hl 0 rfl) ?_
    refine lv_lload_n hx hb dX2_become_21 rfl (lv_at hl 2 rfl) ?_
    refine lv_l2i hx hb dX2_become_22 rfl ?_
    obtain ⟨v5, ev5, h⟩ := gn_nm h
    refine ln_i ev5 ?_
    obtain ⟨S6, eS6, h⟩ := gn_nm h
    refine va_put (D := K.1) (ci := 2) (v := .int v5) (ty := .int) (C := RX2) (T := TX2) (N := 4) hx hb hts in_X2_become_X2 tyX2 tyX2_ok nmX2 hown hK hP hD hS 1 rfl rfl 1 (by decide) (hts (.fieldLink RX2 15 "SawSums$Matrix" "b" "I") (by decide +kernel)) (fun _ h9 => h9) rfl (by decide +kernel) rfl rfl (Nat.le_of_ble_eq_true rfl) dX2_become_23 (fun H locs hP hD hS => ?_)
    have hP : va_P K.1 vwCl (wd K S6 M o g) H := by rw [eS6]; exact hP
    have hD : va_D (inA K) (wd K S6 M o g) := by rw [eS6]; exact hD
    refine lv_aload_n hx hb dX2_become_26 rfl (lv_at hl 0 rfl) ?_
    refine lv_lload hx hb dX2_become_27 (lv_at hl 3 rfl) ?_
    refine lv_l2i hx hb dX2_become_29 rfl ?_
    obtain ⟨v7, ev7, h⟩ := gn_nm h
    refine ln_i ev7 ?_
    obtain ⟨S8, eS8, h⟩ := gn_nm h
    refine va_put (D := K.1) (ci := 2) (v := .int v7) (ty := .int) (C := RX2) (T := TX2) (N := 4) hx hb hts in_X2_become_X2 tyX2 tyX2_ok nmX2 hown hK hP hD hS 1 rfl rfl 2 (by decide) (hts (.fieldLink RX2 18 "SawSums$Matrix" "c" "I") (by decide +kernel)) (fun _ h9 => h9) rfl (by decide +kernel) rfl rfl (Nat.le_of_ble_eq_true rfl) dX2_become_30 (fun H locs hP hD hS => ?_)
    have hP : va_P K.1 vwCl (wd K S8 M o g) H := by rw [eS8]; exact hP
    have hD : va_D (inA K) (wd K S8 M o g) := by rw [eS8]; exact hD
    refine lv_aload_n hx hb dX2_become_33 rfl (lv_at hl 0 rfl) ?_
    refine lv_lload hx hb dX2_become_34 (lv_at hl 4 rfl) ?_
    refine lv_l2i hx hb dX2_become_36 rfl ?_
    obtain ⟨v9, ev9, h⟩ := gn_nm h
    refine ln_i ev9 ?_
    obtain ⟨S10, eS10, h⟩ := gn_nm h
    refine va_put (D := K.1) (ci := 2) (v := .int v9) (ty := .int) (C := RX2) (T := TX2) (N := 4) hx hb hts in_X2_become_X2 tyX2 tyX2_ok nmX2 hown hK hP hD hS 1 rfl rfl 3 (by decide) (hts (.fieldLink RX2 21 "SawSums$Matrix" "d" "I") (by decide +kernel)) (fun _ h9 => h9) rfl (by decide +kernel) rfl rfl (Nat.le_of_ble_eq_true rfl) dX2_become_37 (fun H locs hP hD hS => ?_)
    have hP : va_P K.1 vwCl (wd K S10 M o g) H := by rw [eS10]; exact hP
    have hD : va_D (inA K) (wd K S10 M o g) := by rw [eS10]; exact hD
    refine lv_iconst (v := (1 : Int32)) hx hb dX2_become_40 (by decide) ?_
    obtain ⟨rfl, rfl⟩ := Prod.mk.inj (gn_some h)
    exact W.zret (ty := .boolean) hx hb hr rfl (fun t ht _ => ⟨rfl, by rw [ht]; exact hP, hD, hS.F ht⟩) hS.2.2 dX2_become_41 hlk
  · have h := gn_t h c2
    refine lv_iconst (v := (0 : Int32)) hx hb dX2_become_12 (by decide) ?_
    obtain ⟨rfl, rfl⟩ := Prod.mk.inj (gn_some h)
    exact W.zret (ty := .boolean) hx hb hr rfl (fun t ht _ => ⟨rfl, by rw [ht]; exact hP, hD, hS.F ht⟩) hS.2.2 dX2_become_13 hlk
theorem in_X2_multiply_X2 : ∀ w ∈ wsX20, w ∈ wsX2_multiply := fun _ h => List.mem_cons_of_mem _ (List.mem_append_right _ h)
def rm_X2_multiply : Room := { frames := 3, cells := 0, slots := 0, locals := 80 }
section
variable {p : Program} {l : Launch} {e : Env} {s : State} {m : MethodId} {args : Array Value} {below : List Frame} {meth : Method} {c : Code} {z : Nat} {K : Ev} {M : MS} {o : Nat → Int64} {g : Gh}
end
set_option maxRecDepth 100000 in
theorem c_X2_multiply (l : Launch) (z : Nat) (K : Ev) (M : MS) (o : Nat → Int64) (g : Gh) (a0 : Int64) (a1 : Int64) (a2 : Int64) (a3 : Int64) (S : CS) (r : Int32) (S' : CS) (h : F_X2_multiply z a0 a1 a2 a3 S = some (r, S')) : Met l yX2_multiply wsX2_multiply rm_X2_multiply (qH K [.ref (K.2.2.1 1), .long a0, .long a1, .long a2, .long a3] S M o g) (qR K (some (.int r)) S' M o g) 0 0 (inA K) := by
  refine Met.ofW (cc := cX2_multiply) (maxL := 9) (ret := (some .boolean)) (by decide) rfl ?_
  intro p e s m args below meth c s₁ B hml hv
  obtain ⟨rfl, hN, hP, hK, hD, hF⟩ := hv
  have hx := B.exec
  have hb := B.bytes
  have hr := B.returns
  have hts := atoms_spec (ws := wsX2_multiply) B.pre
  have hown : s.vm.findClass RX2 = some m.cls := findClass_of_methodNamed B.named
  have hlk := B.notSynchronized
  have hcl : 0 ≤ (rm_X2_multiply).cells := Nat.zero_le _
  have hsl : 0 ≤ (rm_X2_multiply).slots := Nat.zero_le _
  have Cc : Cx p s m _ meth c cX2_multiply 9 RX2 wsX2_multiply (some .boolean) := ⟨hx, hb, hml, hown, hts, hr, hlk, hN⟩
  have hS : va_S (inA K) s.heap s.heap [] := va_S.rf
  have hl := lv_entry ([.ref (K.2.2.1 1), .long a0, .long a1, .long a2, .long a3]) (n := 9) (Nat.le_of_ble_eq_true rfl)
  rw [lg_entry_eq]
  generalize (lg_sl ([.ref (K.2.2.1 1), .long a0, .long a1, .long a2, .long a3]) ++ List.replicate (9 - (lg_sl ([.ref (K.2.2.1 1), .long a0, .long a1, .long a2, .long a3])).length) Slot.unset).toArray = ls at hl ⊢
  have hl : lv_has ls 9 [(0, .ref (K.2.2.1 1)), (1, .long a0), (3, .long a1), (5, .long a2), (7, .long a3)] := hl
  rw [F_X2_multiply] at h
  refine lv_aload_n hx hb dX2_multiply_0 rfl (lv_at hl 0 rfl) ?_
  refine lv_aload_n hx hb dX2_multiply_1 rfl (lv_at hl 0 rfl) ?_
  refine va_get (D := K.1) (ci := 2) (v := .int (cg_ma S)) (C := RX2) (T := TX2) (N := 4) hx hb hts in_X2_multiply_X2 hown hK hP 1 rfl rfl 0 (by decide) (hts (.fieldLink RX2 9 "SawSums$Matrix" "a" "I") (by decide +kernel)) (fun _ h9 => h9) rfl dX2_multiply_2 ?_
  refine lv_i2l hx hb dX2_multiply_5 rfl ?_
  refine lv_lload_n hx hb dX2_multiply_6 rfl (lv_at hl 1 rfl) ?_
  refine lv_lmul hx hb dX2_multiply_7 ?_
  refine lv_aload_n hx hb dX2_multiply_8 rfl (lv_at hl 0 rfl) ?_
  refine va_get (D := K.1) (ci := 2) (v := .int (cg_mb S)) (C := RX2) (T := TX2) (N := 4) hx hb hts in_X2_multiply_X2 hown hK hP 1 rfl rfl 1 (by decide) (hts (.fieldLink RX2 15 "SawSums$Matrix" "b" "I") (by decide +kernel)) (fun _ h9 => h9) rfl dX2_multiply_9 ?_
  refine lv_i2l hx hb dX2_multiply_12 rfl ?_
  refine lv_lload hx hb dX2_multiply_13 (lv_at hl 3 rfl) ?_
  refine lv_lmul hx hb dX2_multiply_15 ?_
  refine lv_ladd hx hb dX2_multiply_16 ?_
  refine lv_aload_n hx hb dX2_multiply_17 rfl (lv_at hl 0 rfl) ?_
  refine va_get (D := K.1) (ci := 2) (v := .int (cg_ma S)) (C := RX2) (T := TX2) (N := 4) hx hb hts in_X2_multiply_X2 hown hK hP 1 rfl rfl 0 (by decide) (hts (.fieldLink RX2 9 "SawSums$Matrix" "a" "I") (by decide +kernel)) (fun _ h9 => h9) rfl dX2_multiply_18 ?_
  refine lv_i2l hx hb dX2_multiply_21 rfl ?_
  refine lv_lload_n hx hb dX2_multiply_22 rfl (lv_at hl 2 rfl) ?_
  refine lv_lmul hx hb dX2_multiply_23 ?_
  refine lv_aload_n hx hb dX2_multiply_24 rfl (lv_at hl 0 rfl) ?_
  refine va_get (D := K.1) (ci := 2) (v := .int (cg_mb S)) (C := RX2) (T := TX2) (N := 4) hx hb hts in_X2_multiply_X2 hown hK hP 1 rfl rfl 1 (by decide) (hts (.fieldLink RX2 15 "SawSums$Matrix" "b" "I") (by decide +kernel)) (fun _ h9 => h9) rfl dX2_multiply_25 ?_
  refine lv_i2l hx hb dX2_multiply_28 rfl ?_
  refine lv_lload hx hb dX2_multiply_29 (lv_at hl 4 rfl) ?_
  refine lv_lmul hx hb dX2_multiply_31 ?_
  refine lv_ladd hx hb dX2_multiply_32 ?_
  refine lv_aload_n hx hb dX2_multiply_33 rfl (lv_at hl 0 rfl) ?_
  refine va_get (D := K.1) (ci := 2) (v := .int (cg_mc S)) (C := RX2) (T := TX2) (N := 4) hx hb hts in_X2_multiply_X2 hown hK hP 1 rfl rfl 2 (by decide) (hts (.fieldLink RX2 18 "SawSums$Matrix" "c" "I") (by decide +kernel)) (fun _ h9 => h9) rfl dX2_multiply_34 ?_
  refine lv_i2l hx hb dX2_multiply_37 rfl ?_
  refine lv_lload_n hx hb dX2_multiply_38 rfl (lv_at hl 1 rfl) ?_
  refine lv_lmul hx hb dX2_multiply_39 ?_
  refine lv_aload_n hx hb dX2_multiply_40 rfl (lv_at hl 0 rfl) ?_
  refine va_get (D := K.1) (ci := 2) (v := .int (cg_md S)) (C := RX2) (T := TX2) (N := 4) hx hb hts in_X2_multiply_X2 hown hK hP 1 rfl rfl 3 (by decide) (hts (.fieldLink RX2 21 "SawSums$Matrix" "d" "I") (by decide +kernel)) (fun _ h9 => h9) rfl dX2_multiply_41 ?_
  refine lv_i2l hx hb dX2_multiply_44 rfl ?_
  refine lv_lload hx hb dX2_multiply_45 (lv_at hl 3 rfl) ?_
  refine lv_lmul hx hb dX2_multiply_47 ?_
  refine lv_ladd hx hb dX2_multiply_48 ?_
  refine lv_aload_n hx hb dX2_multiply_49 rfl (lv_at hl 0 rfl) ?_
  refine va_get (D := K.1) (ci := 2) (v := .int (cg_mc S)) (C := RX2) (T := TX2) (N := 4) hx hb hts in_X2_multiply_X2 hown hK hP 1 rfl rfl 2 (by decide) (hts (.fieldLink RX2 18 "SawSums$Matrix" "c" "I") (by decide +kernel)) (fun _ h9 => h9) rfl dX2_multiply_50 ?_
  refine lv_i2l hx hb dX2_multiply_53 rfl ?_
  refine lv_lload_n hx hb dX2_multiply_54 rfl (lv_at hl 2 rfl) ?_
  refine lv_lmul hx hb dX2_multiply_55 ?_
  refine lv_aload_n hx hb dX2_multiply_56 rfl (lv_at hl 0 rfl) ?_
  refine va_get (D := K.1) (ci := 2) (v := .int (cg_md S)) (C := RX2) (T := TX2) (N := 4) hx hb hts in_X2_multiply_X2 hown hK hP 1 rfl rfl 3 (by decide) (hts (.fieldLink RX2 21 "SawSums$Matrix" "d" "I") (by decide +kernel)) (fun _ h9 => h9) rfl dX2_multiply_57 ?_
  refine lv_i2l hx hb dX2_multiply_60 rfl ?_
  refine lv_lload hx hb dX2_multiply_61 (lv_at hl 4 rfl) ?_
  refine lv_lmul hx hb dX2_multiply_63 ?_
  refine lv_ladd hx hb dX2_multiply_64 ?_
  obtain ⟨r1, S2, qS2, h⟩ := gn_bd2 h
  refine hc_V (rest := []) ⟨hx, hb, hml, hown, hts⟩ hN hF hK hP hD hS (c_X2_become l z K _ o g _ _ _ _ _ r1 S2 qS2) (cwV 4 hts gX2_multiply_X2_become rfl rfl rfl (by decide +kernel) ⟨(Nat.le_of_ble_eq_true rfl), (Nat.le_of_ble_eq_true rfl)⟩) (va_recv hK hP (ci := 2) (q0 := 1) rfl rfl) rfl hl.1 rfl (Nat.le_of_ble_eq_true rfl) dX2_multiply_65 hcl hsl (fun H locs hP hD hS => ?_)
  have hP : va_P K.1 vwCl (wd K S2 M o g) H := hP
  have hD : va_D (inA K) (wd K S2 M o g) := hD
  refine W.eq (g2 := F0 m 68 ls [.int r1]) rfl ?_
  obtain ⟨n3, h⟩ := gn_yz h
  obtain ⟨rfl, rfl⟩ := Prod.mk.inj (gn_some h)
  exact W.zret (ty := .boolean) hx hb hr (nb_ok n3) (fun t ht _ => ⟨rfl, by rw [ht]; exact hP, hD, hS.F ht⟩) hS.2.2 dX2_multiply_68 hlk
theorem in_X2_trace_X2 : ∀ w ∈ wsX20, w ∈ wsX2_trace := fun _ h => List.mem_cons_of_mem _ (List.mem_append_right _ h)
def rm_X2_trace : Room := { frames := 0, cells := 0, slots := 0, locals := 0 }
section
variable {p : Program} {l : Launch} {e : Env} {s : State} {m : MethodId} {args : Array Value} {below : List Frame} {meth : Method} {c : Code} {z : Nat} {K : Ev} {M : MS} {o : Nat → Int64} {g : Gh}
end
set_option maxRecDepth 100000 in
theorem c_X2_trace (l : Launch) (z : Nat) (K : Ev) (M : MS) (o : Nat → Int64) (g : Gh)  (S : CS) (r : Int64) (S' : CS) (h : F_X2_trace z S = some (r, S')) : Met l yX2_trace wsX2_trace rm_X2_trace (qH K [.ref (K.2.2.1 1)] S M o g) (qR K (some (.long r)) S' M o g) 0 0 (inA K) := by
  refine Met.ofW (cc := cX2_trace) (maxL := 1) (ret := (some .long)) (by decide) rfl ?_
  intro p e s m args below meth c s₁ B hml hv
  obtain ⟨rfl, hN, hP, hK, hD, hF⟩ := hv
  have hx := B.exec
  have hb := B.bytes
  have hr := B.returns
  have hts := atoms_spec (ws := wsX2_trace) B.pre
  have hown : s.vm.findClass RX2 = some m.cls := findClass_of_methodNamed B.named
  have hlk := B.notSynchronized
  have hcl : 0 ≤ (rm_X2_trace).cells := Nat.zero_le _
  have hsl : 0 ≤ (rm_X2_trace).slots := Nat.zero_le _
  have Cc : Cx p s m _ meth c cX2_trace 1 RX2 wsX2_trace (some .long) := ⟨hx, hb, hml, hown, hts, hr, hlk, hN⟩
  have hS : va_S (inA K) s.heap s.heap [] := va_S.rf
  have hl := lv_entry ([.ref (K.2.2.1 1)]) (n := 1) (Nat.le_of_ble_eq_true rfl)
  rw [lg_entry_eq]
  generalize (lg_sl ([.ref (K.2.2.1 1)]) ++ List.replicate (1 - (lg_sl ([.ref (K.2.2.1 1)])).length) Slot.unset).toArray = ls at hl ⊢
  have hl : lv_has ls 1 [(0, .ref (K.2.2.1 1))] := hl
  rw [F_X2_trace] at h
  refine lv_aload_n hx hb dX2_trace_0 rfl (lv_at hl 0 rfl) ?_
  refine va_get (D := K.1) (ci := 2) (v := .int (cg_ma S)) (C := RX2) (T := TX2) (N := 4) hx hb hts in_X2_trace_X2 hown hK hP 1 rfl rfl 0 (by decide) (hts (.fieldLink RX2 9 "SawSums$Matrix" "a" "I") (by decide +kernel)) (fun _ h9 => h9) rfl dX2_trace_1 ?_
  refine lv_i2l hx hb dX2_trace_4 rfl ?_
  refine lv_aload_n hx hb dX2_trace_5 rfl (lv_at hl 0 rfl) ?_
  refine va_get (D := K.1) (ci := 2) (v := .int (cg_md S)) (C := RX2) (T := TX2) (N := 4) hx hb hts in_X2_trace_X2 hown hK hP 1 rfl rfl 3 (by decide) (hts (.fieldLink RX2 21 "SawSums$Matrix" "d" "I") (by decide +kernel)) (fun _ h9 => h9) rfl dX2_trace_6 ?_
  refine lv_i2l hx hb dX2_trace_9 rfl ?_
  refine lv_ladd hx hb dX2_trace_10 ?_
  obtain ⟨rfl, rfl⟩ := Prod.mk.inj (gn_some h)
  exact W.lret hx hb hr (fun t ht _ => ⟨rfl, by rw [ht]; exact hP, hD, hS.F ht⟩) hS.2.2 dX2_trace_11 hlk
theorem in_X2_companion_X2 : ∀ w ∈ wsX20, w ∈ wsX2_companion := fun _ h => List.mem_cons_of_mem _ (List.mem_append_right _ h)
def rm_X2_companion : Room := { frames := 2, cells := 0, slots := 0, locals := 69 }
section
variable {p : Program} {l : Launch} {e : Env} {s : State} {m : MethodId} {args : Array Value} {below : List Frame} {meth : Method} {c : Code} {z : Nat} {K : Ev} {M : MS} {o : Nat → Int64} {g : Gh}
end
set_option maxRecDepth 100000 in
theorem c_X2_companion (l : Launch) (z : Nat) (K : Ev) (M : MS) (o : Nat → Int64) (g : Gh)  (S : CS) (r : Int64) (S' : CS) (h : F_X2_companion z S = some (r, S')) : Met l yX2_companion wsX2_companion rm_X2_companion (qH K [.ref (K.2.2.1 1)] S M o g) (qR K (some (.long r)) S' M o g) 0 0 (inA K) := by
  refine Met.ofW (cc := cX2_companion) (maxL := 5) (ret := (some .long)) (by decide) rfl ?_
  intro p e s m args below meth c s₁ B hml hv
  obtain ⟨rfl, hN, hP, hK, hD, hF⟩ := hv
  have hx := B.exec
  have hb := B.bytes
  have hr := B.returns
  have hts := atoms_spec (ws := wsX2_companion) B.pre
  have hown : s.vm.findClass RX2 = some m.cls := findClass_of_methodNamed B.named
  have hlk := B.notSynchronized
  have hcl : 0 ≤ (rm_X2_companion).cells := Nat.zero_le _
  have hsl : 0 ≤ (rm_X2_companion).slots := Nat.zero_le _
  have Cc : Cx p s m _ meth c cX2_companion 5 RX2 wsX2_companion (some .long) := ⟨hx, hb, hml, hown, hts, hr, hlk, hN⟩
  have hS : va_S (inA K) s.heap s.heap [] := va_S.rf
  have hl := lv_entry ([.ref (K.2.2.1 1)]) (n := 5) (Nat.le_of_ble_eq_true rfl)
  rw [lg_entry_eq]
  generalize (lg_sl ([.ref (K.2.2.1 1)]) ++ List.replicate (5 - (lg_sl ([.ref (K.2.2.1 1)])).length) Slot.unset).toArray = ls at hl ⊢
  have hl : lv_has ls 5 [(0, .ref (K.2.2.1 1))] := hl
  rw [F_X2_companion] at h
  refine lv_aload_n hx hb dX2_companion_0 rfl (lv_at hl 0 rfl) ?_
  refine va_get (D := K.1) (ci := 2) (v := .int (cg_mc S)) (C := RX2) (T := TX2) (N := 4) hx hb hts in_X2_companion_X2 hown hK hP 1 rfl rfl 2 (by decide) (hts (.fieldLink RX2 18 "SawSums$Matrix" "c" "I") (by decide +kernel)) (fun _ h9 => h9) rfl dX2_companion_1 ?_
  refine lv_if_ne (tgt := 19) hx hb dX2_companion_4 (by decide) (fun c1 => ?_) (fun c1 => ?_)
  · have h := gn_f h c1
    refine lv_aload_n hx hb dX2_companion_19 rfl (lv_at hl 0 rfl) ?_
    refine va_get (D := K.1) (ci := 2) (v := .int (cg_mc S)) (C := RX2) (T := TX2) (N := 4) hx hb hts in_X2_companion_X2 hown hK hP 1 rfl rfl 2 (by decide) (hts (.fieldLink RX2 18 "SawSums$Matrix" "c" "I") (by decide +kernel)) (fun _ h9 => h9) rfl dX2_companion_20 ?_
    refine lv_i2l hx hb dX2_companion_23 rfl ?_
    refine va_mabs_long hx hb (hml.trans hl.1.symm) hown (hts (.methodLink RX2 39 Lib.MathLoose.abs_long.x) (by decide +kernel)) (hts (.static Lib.MathLoose.abs_long.x) (by decide +kernel)) (hts (.initialized "java/lang/Math") (by decide +kernel)) (hts (.code Lib.MathLoose.abs_long.x Lib.MathLoose.abs_long.code 2 (some .long)) (by decide +kernel)) (Nat.le_of_ble_eq_true rfl) (Nat.le_of_ble_eq_true rfl) hcl hsl dX2_companion_24 ?_
    obtain ⟨v2, ev2, h⟩ := gn_nm h
    refine ln_l ev2 ?_
    refine lv_lstore_n (lv' := [(1, .long v2), (0, .ref (K.2.2.1 1))]) hx hb dX2_companion_27 rfl hl (by decide) rfl (fun ls hl => ?_)
    refine lv_aload_n hx hb dX2_companion_28 rfl (lv_at hl 1 rfl) ?_
    obtain ⟨r3, S4, qS4, h⟩ := gn_bd2 h
    refine hc_V (rest := []) ⟨hx, hb, hml, hown, hts⟩ hN hF hK hP hD hS (c_X2_trace l z K _ o g  _ r3 S4 qS4) (cwV 0 hts gX2_companion_X2_trace rfl rfl rfl (by decide +kernel) ⟨(Nat.le_of_ble_eq_true rfl), (Nat.le_of_ble_eq_true rfl)⟩) (va_recv hK hP (ci := 2) (q0 := 1) rfl rfl) rfl hl.1 rfl (Nat.le_of_ble_eq_true rfl) dX2_companion_29 hcl hsl (fun H locs hP hD hS => ?_)
    have hP : va_P K.1 vwCl (wd K S4 M o g) H := hP
    have hD : va_D (inA K) (wd K S4 M o g) := hD
    refine W.eq (g2 := F0 m 32 ls [.long r3]) rfl ?_
    refine lv_aload_n hx hb dX2_companion_32 rfl (lv_at hl 1 rfl) ?_
    refine va_get (D := K.1) (ci := 2) (v := .int (cg_md S4)) (C := RX2) (T := TX2) (N := 4) hx hb hts in_X2_companion_X2 hown hK hP 1 rfl rfl 3 (by decide) (hts (.fieldLink RX2 21 "SawSums$Matrix" "d" "I") (by decide +kernel)) (fun _ h9 => h9) rfl dX2_companion_33 ?_
    refine lv_i2l hx hb dX2_companion_36 rfl ?_
    refine lv_lload_n hx hb dX2_companion_37 rfl (lv_at hl 0 rfl) ?_
    obtain ⟨r5, qr5, h⟩ := gn_bd h
    refine pc_S (rest := [.long r3]) ⟨hx, hb, hml, hown, hts⟩ hN (c_X5_twelfths l z _ _ r5 qr5) (va_cwS 2 hts gX2_companion_X5_twelfths rfl rfl rfl (by decide +kernel) ⟨(Nat.le_of_ble_eq_true rfl), (Nat.le_of_ble_eq_true rfl)⟩) rfl hl.1 rfl (Nat.le_of_ble_eq_true rfl) dX2_companion_38 hcl hsl ?_
    refine lv_lsub hx hb dX2_companion_41 ?_
    refine lv_lload_n hx hb dX2_companion_42 rfl (lv_at hl 0 rfl) ?_
    obtain ⟨n6, h⟩ := gn_nz h
    refine lv_ldiv hx hb dX2_companion_43 n6 ?_
    obtain ⟨v7, ev7, h⟩ := gn_nm h
    refine ln_l ev7 ?_
    refine lv_lstore_n (lv' := [(3, .long v7), (1, .long v2), (0, .ref (K.2.2.1 1))]) hx hb dX2_companion_44 rfl hl (by decide) rfl (fun ls hl => ?_)
    refine lv_aload_n hx hb dX2_companion_45 rfl (lv_at hl 2 rfl) ?_
    refine va_get (D := K.1) (ci := 2) (v := .int (cg_mc S4)) (C := RX2) (T := TX2) (N := 4) hx hb hts in_X2_companion_X2 hown hK hP 1 rfl rfl 2 (by decide) (hts (.fieldLink RX2 18 "SawSums$Matrix" "c" "I") (by decide +kernel)) (fun _ h9 => h9) rfl dX2_companion_46 ?_
    refine lv_if_ge (tgt := 57) hx hb dX2_companion_49 (by decide) (fun c8 => ?_) (fun c8 => ?_)
    · have h := gn_t h c8
      refine lv_lload_n hx hb dX2_companion_57 rfl (lv_at hl 0 rfl) ?_
      obtain ⟨rfl, rfl⟩ := Prod.mk.inj (gn_some h)
      exact W.lret hx hb hr (fun t ht _ => ⟨rfl, by rw [ht]; exact hP, hD, hS.F ht⟩) hS.2.2 dX2_companion_58 hlk
    · have h := gn_f h c8
      refine lv_lload_n hx hb dX2_companion_52 rfl (lv_at hl 0 rfl) ?_
      refine lv_lneg hx hb dX2_companion_53 ?_
      refine lv_goto (tgt := 58) hx hb dX2_companion_54 (by decide) ?_
      obtain ⟨rfl, rfl⟩ := Prod.mk.inj (gn_some h)
      exact W.lret hx hb hr (fun t ht _ => ⟨rfl, by rw [ht]; exact hP, hD, hS.F ht⟩) hS.2.2 dX2_companion_58 hlk
  · have h := gn_t h c1
    refine lv_aload_n hx hb dX2_companion_7 rfl (lv_at hl 0 rfl) ?_
    refine va_get (D := K.1) (ci := 2) (v := .int (cg_mb S)) (C := RX2) (T := TX2) (N := 4) hx hb hts in_X2_companion_X2 hown hK hP 1 rfl rfl 1 (by decide) (hts (.fieldLink RX2 15 "SawSums$Matrix" "b" "I") (by decide +kernel)) (fun _ h9 => h9) rfl dX2_companion_8 ?_
    refine lv_i2l hx hb dX2_companion_11 rfl ?_
    refine lv_aload_n hx hb dX2_companion_12 rfl (lv_at hl 0 rfl) ?_
    refine va_get (D := K.1) (ci := 2) (v := .int (cg_md S)) (C := RX2) (T := TX2) (N := 4) hx hb hts in_X2_companion_X2 hown hK hP 1 rfl rfl 3 (by decide) (hts (.fieldLink RX2 21 "SawSums$Matrix" "d" "I") (by decide +kernel)) (fun _ h9 => h9) rfl dX2_companion_13 ?_
    refine lv_i2l hx hb dX2_companion_16 rfl ?_
    refine lv_lmul hx hb dX2_companion_17 ?_
    obtain ⟨rfl, rfl⟩ := Prod.mk.inj (gn_some h)
    exact W.lret hx hb hr (fun t ht _ => ⟨rfl, by rw [ht]; exact hP, hD, hS.F ht⟩) hS.2.2 dX2_companion_18 hlk
theorem in_X2_fewestPowers_X2 : ∀ w ∈ wsX20, w ∈ wsX2_fewestPowers := fun _ h => List.mem_cons_of_mem _ (List.mem_append_right _ h)
def rm_X2_fewestPowers : Room := { frames := 1, cells := 0, slots := 0, locals := 20 }
section
variable {p : Program} {l : Launch} {e : Env} {s : State} {m : MethodId} {args : Array Value} {below : List Frame} {meth : Method} {c : Code} {z : Nat} {K : Ev} {M : MS} {o : Nat → Int64} {g : Gh}
set_option maxRecDepth 100000 in
theorem w_X2_fewestPowers_28 (Cc : Cx p s m args meth c cX2_fewestPowers 3 RX2 wsX2_fewestPowers (some .int)) (hK : va_K K.1 vwCl (tysOf K) s) (hF : SF K s) {r : Int32} {S' : CS} : ∀  (S : CS) (H : Heap) (locs : List Loc), va_P K.1 vwCl (wd K S M o g) H → va_D (inA K) (wd K S M o g) → va_S (inA K) s.heap H locs → G_X2_fewestPowers_28 z S = some (r, S') → ∀ ls, lv_has ls 3 [(0, .ref (K.2.2.1 1))] → W p l e rm_X2_fewestPowers s m args below meth c H locs 0 0 (MQ below (qR K (some (.int r)) S' M o g) args s 0 0 (inA K)) (F0 m 28 ls []) := by
  obtain ⟨hx, hb, hml, hown, hts, hr, hlk, hN⟩ := id Cc
  have hcl : 0 ≤ (rm_X2_fewestPowers).cells := Nat.zero_le _
  have hsl : 0 ≤ (rm_X2_fewestPowers).slots := Nat.zero_le _
  intro S H locs hP hD hS h ls hl
  rw [G_X2_fewestPowers_28] at h
  refine lv_aload_n hx hb dX2_fewestPowers_28 rfl (lv_at hl 0 rfl) ?_
  obtain ⟨r1, S2, qS2, h⟩ := gn_bd2 h
  refine hc_V (rest := []) ⟨hx, hb, hml, hown, hts⟩ hN hF hK hP hD hS (c_X2_trace l z K _ o g  _ r1 S2 qS2) (cwV 0 hts gX2_fewestPowers_X2_trace rfl rfl rfl (by decide +kernel) ⟨(Nat.le_of_ble_eq_true rfl), (Nat.le_of_ble_eq_true rfl)⟩) (va_recv hK hP (ci := 2) (q0 := 1) rfl rfl) rfl hl.1 rfl (Nat.le_of_ble_eq_true rfl) dX2_fewestPowers_29 hcl hsl (fun H locs hP hD hS => ?_)
  have hP : va_P K.1 vwCl (wd K S2 M o g) H := hP
  have hD : va_D (inA K) (wd K S2 M o g) := hD
  refine W.eq (g2 := F0 m 32 ls [.long r1]) rfl ?_
  refine lv_lstore_n (lv' := [(1, .long r1), (0, .ref (K.2.2.1 1))]) hx hb dX2_fewestPowers_32 rfl hl (by decide) rfl (fun ls hl => ?_)
  refine lv_lload_n hx hb dX2_fewestPowers_33 rfl (lv_at hl 0 rfl) ?_
  refine lv_lconst (v := (0 : Int64)) hx hb dX2_fewestPowers_34 (by decide) ?_
  refine ll_ne (tgt := 41) hx hb dX2_fewestPowers_35 dX2_fewestPowers_36 (by decide) (fun c3 => ?_) (fun c3 => ?_)
  · have h := gn_f h c3
    refine lv_lload_n hx hb dX2_fewestPowers_41 rfl (lv_at hl 0 rfl) ?_
    refine lv_lconst (v := (1 : Int64)) hx hb dX2_fewestPowers_42 (by decide) ?_
    refine ll_ne (tgt := 50) hx hb dX2_fewestPowers_43 dX2_fewestPowers_44 (by decide) (fun c4 => ?_) (fun c4 => ?_)
    · have h := gn_f h c4
      refine lv_lload_n hx hb dX2_fewestPowers_50 rfl (lv_at hl 0 rfl) ?_
      refine lv_ldc2 hx hb hown (hts (.constantLong RX2 55 (-1)) (by decide +kernel)) dX2_fewestPowers_51 ?_
      refine ll_ne (tgt := 62) hx hb dX2_fewestPowers_54 dX2_fewestPowers_55 (by decide) (fun c5 => ?_) (fun c5 => ?_)
      · have h := gn_f h c5
        refine lv_iconst (v := (-1 : Int32)) hx hb dX2_fewestPowers_62 (by decide) ?_
        obtain ⟨rfl, rfl⟩ := Prod.mk.inj (gn_some h)
        exact W.iret hx hb hr (fun t ht _ => ⟨rfl, by rw [ht]; exact hP, hD, hS.F ht⟩) hS.2.2 dX2_fewestPowers_63 hlk
      · have h := gn_t h c5
        refine lv_iconst (v := (3 : Int32)) hx hb dX2_fewestPowers_58 (by decide) ?_
        refine lv_goto (tgt := 63) hx hb dX2_fewestPowers_59 (by decide) ?_
        obtain ⟨rfl, rfl⟩ := Prod.mk.inj (gn_some h)
        exact W.iret hx hb hr (fun t ht _ => ⟨rfl, by rw [ht]; exact hP, hD, hS.F ht⟩) hS.2.2 dX2_fewestPowers_63 hlk
    · have h := gn_t h c4
      refine lv_bipush (v := (6 : Int32)) hx hb dX2_fewestPowers_47 (by decide) ?_
      obtain ⟨rfl, rfl⟩ := Prod.mk.inj (gn_some h)
      exact W.iret hx hb hr (fun t ht _ => ⟨rfl, by rw [ht]; exact hP, hD, hS.F ht⟩) hS.2.2 dX2_fewestPowers_49 hlk
  · have h := gn_t h c3
    refine lv_iconst (v := (4 : Int32)) hx hb dX2_fewestPowers_39 (by decide) ?_
    obtain ⟨rfl, rfl⟩ := Prod.mk.inj (gn_some h)
    exact W.iret hx hb hr (fun t ht _ => ⟨rfl, by rw [ht]; exact hP, hD, hS.F ht⟩) hS.2.2 dX2_fewestPowers_40 hlk
end
set_option maxRecDepth 100000 in
theorem c_X2_fewestPowers (l : Launch) (z : Nat) (K : Ev) (M : MS) (o : Nat → Int64) (g : Gh)  (S : CS) (r : Int32) (S' : CS) (h : F_X2_fewestPowers z S = some (r, S')) : Met l yX2_fewestPowers wsX2_fewestPowers rm_X2_fewestPowers (qH K [.ref (K.2.2.1 1)] S M o g) (qR K (some (.int r)) S' M o g) 0 0 (inA K) := by
  refine Met.ofW (cc := cX2_fewestPowers) (maxL := 3) (ret := (some .int)) (by decide) rfl ?_
  intro p e s m args below meth c s₁ B hml hv
  obtain ⟨rfl, hN, hP, hK, hD, hF⟩ := hv
  have hx := B.exec
  have hb := B.bytes
  have hr := B.returns
  have hts := atoms_spec (ws := wsX2_fewestPowers) B.pre
  have hown : s.vm.findClass RX2 = some m.cls := findClass_of_methodNamed B.named
  have hlk := B.notSynchronized
  have hcl : 0 ≤ (rm_X2_fewestPowers).cells := Nat.zero_le _
  have hsl : 0 ≤ (rm_X2_fewestPowers).slots := Nat.zero_le _
  have Cc : Cx p s m _ meth c cX2_fewestPowers 3 RX2 wsX2_fewestPowers (some .int) := ⟨hx, hb, hml, hown, hts, hr, hlk, hN⟩
  have hS : va_S (inA K) s.heap s.heap [] := va_S.rf
  have hl := lv_entry ([.ref (K.2.2.1 1)]) (n := 3) (Nat.le_of_ble_eq_true rfl)
  rw [lg_entry_eq]
  generalize (lg_sl ([.ref (K.2.2.1 1)]) ++ List.replicate (3 - (lg_sl ([.ref (K.2.2.1 1)])).length) Slot.unset).toArray = ls at hl ⊢
  have hl : lv_has ls 3 [(0, .ref (K.2.2.1 1))] := hl
  rw [F_X2_fewestPowers] at h
  refine lv_aload_n hx hb dX2_fewestPowers_0 rfl (lv_at hl 0 rfl) ?_
  refine va_get (D := K.1) (ci := 2) (v := .int (cg_mb S)) (C := RX2) (T := TX2) (N := 4) hx hb hts in_X2_fewestPowers_X2 hown hK hP 1 rfl rfl 1 (by decide) (hts (.fieldLink RX2 15 "SawSums$Matrix" "b" "I") (by decide +kernel)) (fun _ h9 => h9) rfl dX2_fewestPowers_1 ?_
  refine lv_if_ne (tgt := 28) hx hb dX2_fewestPowers_4 (by decide) (fun c1 => ?_) (fun c1 => ?_)
  · have h := gn_f h c1
    exact w_X2_fewestPowers_28 Cc hK hF S _ _ hP hD hS h ls (lv_sub hl [0] rfl)
  · have h := gn_t h c1
    refine lv_aload_n hx hb dX2_fewestPowers_7 rfl (lv_at hl 0 rfl) ?_
    refine va_get (D := K.1) (ci := 2) (v := .int (cg_mc S)) (C := RX2) (T := TX2) (N := 4) hx hb hts in_X2_fewestPowers_X2 hown hK hP 1 rfl rfl 2 (by decide) (hts (.fieldLink RX2 18 "SawSums$Matrix" "c" "I") (by decide +kernel)) (fun _ h9 => h9) rfl dX2_fewestPowers_8 ?_
    refine lv_if_ne (tgt := 28) hx hb dX2_fewestPowers_11 (by decide) (fun c2 => ?_) (fun c2 => ?_)
    · have h := gn_f h c2
      exact w_X2_fewestPowers_28 Cc hK hF S _ _ hP hD hS h ls (lv_sub hl [0] rfl)
    · have h := gn_t h c2
      refine lv_aload_n hx hb dX2_fewestPowers_14 rfl (lv_at hl 0 rfl) ?_
      refine va_get (D := K.1) (ci := 2) (v := .int (cg_ma S)) (C := RX2) (T := TX2) (N := 4) hx hb hts in_X2_fewestPowers_X2 hown hK hP 1 rfl rfl 0 (by decide) (hts (.fieldLink RX2 9 "SawSums$Matrix" "a" "I") (by decide +kernel)) (fun _ h9 => h9) rfl dX2_fewestPowers_15 ?_
      refine lv_iconst (v := (1 : Int32)) hx hb dX2_fewestPowers_18 (by decide) ?_
      refine lv_icmp_ne (tgt := 26) hx hb dX2_fewestPowers_19 (by decide) (fun c3 => ?_) (fun c3 => ?_)
      · have h := gn_f h c3
        refine lv_iconst (v := (2 : Int32)) hx hb dX2_fewestPowers_26 (by decide) ?_
        obtain ⟨rfl, rfl⟩ := Prod.mk.inj (gn_some h)
        exact W.iret hx hb hr (fun t ht _ => ⟨rfl, by rw [ht]; exact hP, hD, hS.F ht⟩) hS.2.2 dX2_fewestPowers_27 hlk
      · have h := gn_t h c3
        refine lv_iconst (v := (1 : Int32)) hx hb dX2_fewestPowers_22 (by decide) ?_
        refine lv_goto (tgt := 27) hx hb dX2_fewestPowers_23 (by decide) ?_
        obtain ⟨rfl, rfl⟩ := Prod.mk.inj (gn_some h)
        exact W.iret hx hb hr (fun t ht _ => ⟨rfl, by rw [ht]; exact hP, hD, hS.F ht⟩) hS.2.2 dX2_fewestPowers_27 hlk
theorem in_X2_partOfWord_X2 : ∀ w ∈ wsX20, w ∈ wsX2_partOfWord := fun _ h => List.mem_cons_of_mem _ (List.mem_append_right _ h)
def rm_X2_partOfWord : Room := { frames := 1, cells := 0, slots := 0, locals := 25 }
section
variable {p : Program} {l : Launch} {e : Env} {s : State} {m : MethodId} {args : Array Value} {below : List Frame} {meth : Method} {c : Code} {z : Nat} {K : Ev} {M : MS} {o : Nat → Int64} {g : Gh}
set_option maxRecDepth 100000 in
theorem w_X2_partOfWord_113 (Cc : Cx p s m args meth c cX2_partOfWord 17 RX2 wsX2_partOfWord (some .long)) (hK : va_K K.1 vwCl (tysOf K) s) (hF : SF K s) {r : Int64} {S' : CS} : ∀ (x1 : Int32) (x4 : Int64) (x8 : Int64) (x10 : Int32) (S : CS) (H : Heap) (locs : List Loc), va_P K.1 vwCl (wd K S M o g) H → va_D (inA K) (wd K S M o g) → va_S (inA K) s.heap H locs → G_X2_partOfWord_113 z x1 x4 x8 x10 S = some (r, S') → ∀ ls, lv_has ls 17 [(1, .int x1), (4, .long x4), (8, .long x8), (10, .int x10)] → W p l e rm_X2_partOfWord s m args below meth c H locs 0 0 (MQ below (qR K (some (.long r)) S' M o g) args s 0 0 (inA K)) (F0 m 113 ls []) := by
  obtain ⟨hx, hb, hml, hown, hts, hr, hlk, hN⟩ := id Cc
  have hcl : 0 ≤ (rm_X2_partOfWord).cells := Nat.zero_le _
  have hsl : 0 ≤ (rm_X2_partOfWord).slots := Nat.zero_le _
  intro x1 x4 x8 x10 S H locs hP hD hS h ls hl
  rw [G_X2_partOfWord_113] at h
  refine lv_iload hx hb dX2_partOfWord_113 (lv_at hl 3 rfl) ?_
  refine lv_iload_n hx hb dX2_partOfWord_115 rfl (lv_at hl 0 rfl) ?_
  refine lv_icmp_ne (tgt := 125) hx hb dX2_partOfWord_116 (by decide) (fun c1 => ?_) (fun c1 => ?_)
  · have h := gn_f h c1
    refine lv_iload_n hx hb dX2_partOfWord_125 rfl (lv_at hl 0 rfl) ?_
    refine lv_iconst (v := (-1 : Int32)) hx hb dX2_partOfWord_126 (by decide) ?_
    refine lv_icmp_ne (tgt := 138) hx hb dX2_partOfWord_127 (by decide) (fun c2 => ?_) (fun c2 => ?_)
    · have h := gn_f h c2
      refine lv_ldc2 hx hb hown (hts (.constantLong RX2 62 (-4000000000000000000)) (by decide +kernel)) dX2_partOfWord_138 ?_
      obtain ⟨rfl, rfl⟩ := Prod.mk.inj (gn_some h)
      exact W.lret hx hb hr (fun t ht _ => ⟨rfl, by rw [ht]; exact hP, hD, hS.F ht⟩) hS.2.2 dX2_partOfWord_141 hlk
    · have h := gn_t h c2
      refine lv_iload hx hb dX2_partOfWord_130 (lv_at hl 3 rfl) ?_
      refine lv_iconst (v := (1 : Int32)) hx hb dX2_partOfWord_132 (by decide) ?_
      refine lv_iadd hx hb dX2_partOfWord_133 ?_
      refine lv_i2l hx hb dX2_partOfWord_134 rfl ?_
      refine lv_goto (tgt := 141) hx hb dX2_partOfWord_135 (by decide) ?_
      obtain ⟨rfl, rfl⟩ := Prod.mk.inj (gn_some h)
      exact W.lret hx hb hr (fun t ht _ => ⟨rfl, by rw [ht]; exact hP, hD, hS.F ht⟩) hS.2.2 dX2_partOfWord_141 hlk
  · have h := gn_t h c1
    refine lv_lload hx hb dX2_partOfWord_119 (lv_at hl 1 rfl) ?_
    refine lv_lload hx hb dX2_partOfWord_121 (lv_at hl 2 rfl) ?_
    refine lv_lmul hx hb dX2_partOfWord_123 ?_
    obtain ⟨rfl, rfl⟩ := Prod.mk.inj (gn_some h)
    exact W.lret hx hb hr (fun t ht _ => ⟨rfl, by rw [ht]; exact hP, hD, hS.F ht⟩) hS.2.2 dX2_partOfWord_124 hlk
set_option maxRecDepth 100000 in
theorem w_X2_partOfWord_30 (Cc : Cx p s m args meth c cX2_partOfWord 17 RX2 wsX2_partOfWord (some .long)) (hK : va_K K.1 vwCl (tysOf K) s) (hF : SF K s) {r : Int64} {S' : CS} (n : Nat) : ∀ (x1 : Int32) (x2 : Int64) (x4 : Int64) (x6 : Int64) (x8 : Int64) (x10 : Int32) (S : CS) (H : Heap) (locs : List Loc), va_P K.1 vwCl (wd K S M o g) H → va_D (inA K) (wd K S M o g) → va_S (inA K) s.heap H locs → G_X2_partOfWord_30 z n x1 x2 x4 x6 x8 x10 S = some (r, S') → ∀ ls, lv_has ls 17 [(1, .int x1), (2, .long x2), (4, .long x4), (6, .long x6), (8, .long x8), (10, .int x10)] → W p l e rm_X2_partOfWord s m args below meth c H locs 0 0 (MQ below (qR K (some (.long r)) S' M o g) args s 0 0 (inA K)) (F0 m 30 ls []) := by
  obtain ⟨hx, hb, hml, hown, hts, hr, hlk, hN⟩ := id Cc
  have hcl : 0 ≤ (rm_X2_partOfWord).cells := Nat.zero_le _
  have hsl : 0 ≤ (rm_X2_partOfWord).slots := Nat.zero_le _
  induction n with
  | zero => intro x1 x2 x4 x6 x8 x10 S H locs hP hD hS h; cases h
  | succ n ih =>
    intro x1 x2 x4 x6 x8 x10 S H locs hP hD hS h ls hl
    rw [G_X2_partOfWord_30] at h
    refine lv_iload hx hb dX2_partOfWord_30 (lv_at hl 5 rfl) ?_
    refine lv_sipush (v := (200 : Int32)) hx hb dX2_partOfWord_32 (by decide) ?_
    refine lv_icmp_ge (tgt := 113) hx hb dX2_partOfWord_35 (by decide) (fun c1 => ?_) (fun c1 => ?_)
    · have h := gn_t h c1
      exact w_X2_partOfWord_113 Cc hK hF x1 x4 x8 x10 S _ _ hP hD hS h ls (lv_sub hl [0, 2, 4, 5] rfl)
    · have h := gn_f h c1
      refine lv_lload hx hb dX2_partOfWord_38 (lv_at hl 3 rfl) ?_
      refine lv_lconst (v := (0 : Int64)) hx hb dX2_partOfWord_40 (by decide) ?_
      refine ll_eq (tgt := 113) hx hb dX2_partOfWord_41 dX2_partOfWord_42 (by decide) (fun c2 => ?_) (fun c2 => ?_)
      · have h := gn_t h c2
        exact w_X2_partOfWord_113 Cc hK hF x1 x4 x8 x10 S _ _ hP hD hS h ls (lv_sub hl [0, 2, 4, 5] rfl)
      · have h := gn_f h c2
        refine lv_ldc2 hx hb hown (hts (.constantLong RX2 57 (2)) (by decide +kernel)) dX2_partOfWord_45 ?_
        refine lv_lload_n hx hb dX2_partOfWord_48 rfl (lv_at hl 1 rfl) ?_
        refine lv_lmul hx hb dX2_partOfWord_49 ?_
        refine lv_lload hx hb dX2_partOfWord_50 (lv_at hl 3 rfl) ?_
        refine lv_ladd hx hb dX2_partOfWord_52 ?_
        refine lv_ldc2 hx hb hown (hts (.constantLong RX2 57 (2)) (by decide +kernel)) dX2_partOfWord_53 ?_
        refine lv_lload hx hb dX2_partOfWord_56 (lv_at hl 3 rfl) ?_
        refine lv_lmul hx hb dX2_partOfWord_58 ?_
        obtain ⟨r3, qr3, h⟩ := gn_bd h
        refine pc_S (rest := []) ⟨hx, hb, hml, hown, hts⟩ hN (c_J9_floorDiv_f86c9 l z _ _ r3 qr3) (va_cwS 2 hts gX2_partOfWord_J9_floorDiv_f86c9 rfl rfl rfl (by decide +kernel) ⟨(Nat.le_of_ble_eq_true rfl), (Nat.le_of_ble_eq_true rfl)⟩) rfl hl.1 rfl (Nat.le_of_ble_eq_true rfl) dX2_partOfWord_59 hcl hsl ?_
        refine lv_lstore (lv' := [(11, .long r3), (1, .int x1), (2, .long x2), (4, .long x4), (6, .long x6), (8, .long x8), (10, .int x10)]) hx hb dX2_partOfWord_62 hl (by decide) rfl (fun ls hl => ?_)
        refine lv_iload hx hb dX2_partOfWord_64 (lv_at hl 6 rfl) ?_
        refine lv_iload_n hx hb dX2_partOfWord_66 rfl (lv_at hl 1 rfl) ?_
        refine lv_icmp_ne (tgt := 73) hx hb dX2_partOfWord_67 (by decide) (fun c4 => ?_) (fun c4 => ?_)
        · have h := gn_f h c4
          refine lv_lload hx hb dX2_partOfWord_73 (lv_at hl 0 rfl) ?_
          refine lv_lload hx hb dX2_partOfWord_75 (lv_at hl 4 rfl) ?_
          refine lv_lmul hx hb dX2_partOfWord_77 ?_
          refine lv_lload_n hx hb dX2_partOfWord_78 rfl (lv_at hl 2 rfl) ?_
          refine lv_lsub hx hb dX2_partOfWord_79 ?_
          obtain ⟨v5, ev5, h⟩ := gn_nm h
          refine ln_l ev5 ?_
          refine lv_lstore (lv' := [(13, .long v5), (11, .long r3), (1, .int x1), (2, .long x2), (4, .long x4), (6, .long x6), (8, .long x8), (10, .int x10)]) hx hb dX2_partOfWord_80 hl (by decide) rfl (fun ls hl => ?_)
          refine lv_lload hx hb dX2_partOfWord_82 (lv_at hl 1 rfl) ?_
          refine lv_lload hx hb dX2_partOfWord_84 (lv_at hl 6 rfl) ?_
          refine lv_lmul hx hb dX2_partOfWord_86 ?_
          refine lv_lload hx hb dX2_partOfWord_87 (lv_at hl 4 rfl) ?_
          refine lv_lsub hx hb dX2_partOfWord_89 ?_
          obtain ⟨v6, ev6, h⟩ := gn_nm h
          refine ln_l ev6 ?_
          refine lv_lstore (lv' := [(15, .long v6), (13, .long v5), (11, .long r3), (1, .int x1), (2, .long x2), (4, .long x4), (6, .long x6), (8, .long x8), (10, .int x10)]) hx hb dX2_partOfWord_90 hl (by decide) rfl (fun ls hl => ?_)
          refine lv_lload hx hb dX2_partOfWord_92 (lv_at hl 6 rfl) ?_
          refine lv_lstore_n (lv' := [(2, .long x6), (15, .long v6), (13, .long v5), (11, .long r3), (1, .int x1), (4, .long x4), (6, .long x6), (8, .long x8), (10, .int x10)]) hx hb dX2_partOfWord_94 rfl hl (by decide) rfl (fun ls hl => ?_)
          refine lv_lload hx hb dX2_partOfWord_95 (lv_at hl 7 rfl) ?_
          refine lv_lstore (lv' := [(4, .long x8), (2, .long x6), (15, .long v6), (13, .long v5), (11, .long r3), (1, .int x1), (6, .long x6), (8, .long x8), (10, .int x10)]) hx hb dX2_partOfWord_97 hl (by decide) rfl (fun ls hl => ?_)
          refine lv_lload hx hb dX2_partOfWord_99 (lv_at hl 3 rfl) ?_
          refine lv_lstore (lv' := [(6, .long v5), (4, .long x8), (2, .long x6), (15, .long v6), (13, .long v5), (11, .long r3), (1, .int x1), (8, .long x8), (10, .int x10)]) hx hb dX2_partOfWord_101 hl (by decide) rfl (fun ls hl => ?_)
          refine lv_lload hx hb dX2_partOfWord_103 (lv_at hl 3 rfl) ?_
          refine lv_lstore (lv' := [(8, .long v6), (6, .long v5), (4, .long x8), (2, .long x6), (15, .long v6), (13, .long v5), (11, .long r3), (1, .int x1), (10, .int x10)]) hx hb dX2_partOfWord_105 hl (by decide) rfl (fun ls hl => ?_)
          obtain ⟨v7, ev7, h⟩ := gn_nm h
          refine lv_iinc (v := v7) (lv' := [(10, .int v7), (8, .long v6), (6, .long v5), (4, .long x8), (2, .long x6), (15, .long v6), (13, .long v5), (11, .long r3), (1, .int x1)]) hx hb dX2_partOfWord_107 hl (k := 8) rfl (by rw [ev7]; rfl) (by decide) rfl (fun ls hl => ?_)
          refine lv_goto (tgt := 30) hx hb dX2_partOfWord_110 (by decide) ?_
          exact ih x1 x6 x8 v5 v6 v7 S _ _ hP hD hS h ls (lv_sub hl [8, 4, 3, 2, 1, 0] rfl)
        · have h := gn_t h c4
          refine lv_lload hx hb dX2_partOfWord_70 (lv_at hl 0 rfl) ?_
          obtain ⟨rfl, rfl⟩ := Prod.mk.inj (gn_some h)
          exact W.lret hx hb hr (fun t ht _ => ⟨rfl, by rw [ht]; exact hP, hD, hS.F ht⟩) hS.2.2 dX2_partOfWord_72 hlk
end
set_option maxRecDepth 100000 in
theorem c_X2_partOfWord (l : Launch) (z : Nat) (K : Ev) (M : MS) (o : Nat → Int64) (g : Gh) (a0 : Int32) (S : CS) (r : Int64) (S' : CS) (h : F_X2_partOfWord z a0 S = some (r, S')) : Met l yX2_partOfWord wsX2_partOfWord rm_X2_partOfWord (qH K [.ref (K.2.2.1 1), .int a0] S M o g) (qR K (some (.long r)) S' M o g) 0 0 (inA K) := by
  refine Met.ofW (cc := cX2_partOfWord) (maxL := 17) (ret := (some .long)) (by decide) rfl ?_
  intro p e s m args below meth c s₁ B hml hv
  obtain ⟨rfl, hN, hP, hK, hD, hF⟩ := hv
  have hx := B.exec
  have hb := B.bytes
  have hr := B.returns
  have hts := atoms_spec (ws := wsX2_partOfWord) B.pre
  have hown : s.vm.findClass RX2 = some m.cls := findClass_of_methodNamed B.named
  have hlk := B.notSynchronized
  have hcl : 0 ≤ (rm_X2_partOfWord).cells := Nat.zero_le _
  have hsl : 0 ≤ (rm_X2_partOfWord).slots := Nat.zero_le _
  have Cc : Cx p s m _ meth c cX2_partOfWord 17 RX2 wsX2_partOfWord (some .long) := ⟨hx, hb, hml, hown, hts, hr, hlk, hN⟩
  have hS : va_S (inA K) s.heap s.heap [] := va_S.rf
  have hl := lv_entry ([.ref (K.2.2.1 1), .int a0]) (n := 17) (Nat.le_of_ble_eq_true rfl)
  rw [lg_entry_eq]
  generalize (lg_sl ([.ref (K.2.2.1 1), .int a0]) ++ List.replicate (17 - (lg_sl ([.ref (K.2.2.1 1), .int a0])).length) Slot.unset).toArray = ls at hl ⊢
  have hl : lv_has ls 17 [(0, .ref (K.2.2.1 1)), (1, .int a0)] := hl
  rw [F_X2_partOfWord] at h
  refine lv_aload_n hx hb dX2_partOfWord_0 rfl (lv_at hl 0 rfl) ?_
  refine va_get (D := K.1) (ci := 2) (v := .int (cg_ma S)) (C := RX2) (T := TX2) (N := 4) hx hb hts in_X2_partOfWord_X2 hown hK hP 1 rfl rfl 0 (by decide) (hts (.fieldLink RX2 9 "SawSums$Matrix" "a" "I") (by decide +kernel)) (fun _ h9 => h9) rfl dX2_partOfWord_1 ?_
  refine lv_i2l hx hb dX2_partOfWord_4 rfl ?_
  obtain ⟨v1, ev1, h⟩ := gn_nm h
  refine ln_l ev1 ?_
  refine lv_lstore_n (lv' := [(2, .long v1), (0, .ref (K.2.2.1 1)), (1, .int a0)]) hx hb dX2_partOfWord_5 rfl hl (by decide) rfl (fun ls hl => ?_)
  refine lv_aload_n hx hb dX2_partOfWord_6 rfl (lv_at hl 1 rfl) ?_
  refine va_get (D := K.1) (ci := 2) (v := .int (cg_mb S)) (C := RX2) (T := TX2) (N := 4) hx hb hts in_X2_partOfWord_X2 hown hK hP 1 rfl rfl 1 (by decide) (hts (.fieldLink RX2 15 "SawSums$Matrix" "b" "I") (by decide +kernel)) (fun _ h9 => h9) rfl dX2_partOfWord_7 ?_
  refine lv_i2l hx hb dX2_partOfWord_10 rfl ?_
  obtain ⟨v2, ev2, h⟩ := gn_nm h
  refine ln_l ev2 ?_
  refine lv_lstore (lv' := [(4, .long v2), (2, .long v1), (0, .ref (K.2.2.1 1)), (1, .int a0)]) hx hb dX2_partOfWord_11 hl (by decide) rfl (fun ls hl => ?_)
  refine lv_aload_n hx hb dX2_partOfWord_13 rfl (lv_at hl 2 rfl) ?_
  refine va_get (D := K.1) (ci := 2) (v := .int (cg_mc S)) (C := RX2) (T := TX2) (N := 4) hx hb hts in_X2_partOfWord_X2 hown hK hP 1 rfl rfl 2 (by decide) (hts (.fieldLink RX2 18 "SawSums$Matrix" "c" "I") (by decide +kernel)) (fun _ h9 => h9) rfl dX2_partOfWord_14 ?_
  refine lv_i2l hx hb dX2_partOfWord_17 rfl ?_
  obtain ⟨v3, ev3, h⟩ := gn_nm h
  refine ln_l ev3 ?_
  refine lv_lstore (lv' := [(6, .long v3), (4, .long v2), (2, .long v1), (0, .ref (K.2.2.1 1)), (1, .int a0)]) hx hb dX2_partOfWord_18 hl (by decide) rfl (fun ls hl => ?_)
  refine lv_aload_n hx hb dX2_partOfWord_20 rfl (lv_at hl 3 rfl) ?_
  refine va_get (D := K.1) (ci := 2) (v := .int (cg_md S)) (C := RX2) (T := TX2) (N := 4) hx hb hts in_X2_partOfWord_X2 hown hK hP 1 rfl rfl 3 (by decide) (hts (.fieldLink RX2 21 "SawSums$Matrix" "d" "I") (by decide +kernel)) (fun _ h9 => h9) rfl dX2_partOfWord_21 ?_
  refine lv_i2l hx hb dX2_partOfWord_24 rfl ?_
  obtain ⟨v4, ev4, h⟩ := gn_nm h
  refine ln_l ev4 ?_
  refine lv_lstore (lv' := [(8, .long v4), (6, .long v3), (4, .long v2), (2, .long v1), (0, .ref (K.2.2.1 1)), (1, .int a0)]) hx hb dX2_partOfWord_25 hl (by decide) rfl (fun ls hl => ?_)
  refine lv_iconst (v := (0 : Int32)) hx hb dX2_partOfWord_27 (by decide) ?_
  refine lv_istore (lv' := [(10, .int (0 : Int32)), (8, .long v4), (6, .long v3), (4, .long v2), (2, .long v1), (0, .ref (K.2.2.1 1)), (1, .int a0)]) hx hb dX2_partOfWord_28 hl (by decide) rfl (fun ls hl => ?_)
  exact w_X2_partOfWord_30 Cc hK hF z a0 v1 v2 v3 v4 (0 : Int32) S _ _ hP hD hS h ls (lv_sub hl [6, 4, 3, 2, 1, 0] rfl)
theorem in_X0_gather_X0 : ∀ w ∈ wsX00, w ∈ wsX0_gather := fun _ h => List.mem_cons_of_mem _ (List.mem_append_right _ h)
def rm_X0_gather : Room := { frames := 3, cells := 0, slots := 0, locals := 86 }
section
variable {p : Program} {l : Launch} {e : Env} {s : State} {m : MethodId} {args : Array Value} {below : List Frame} {meth : Method} {c : Code} {z : Nat} {K : Ev} {M : MS} {o : Nat → Int64} {g : Gh}
set_option maxRecDepth 100000 in
theorem w_X0_gather_7 (Cc : Cx p s m args meth c cX0_gather 3 RX0 wsX0_gather none) (hK : va_K K.1 vwCl (tysOf K) s) (hF : SF K s)  {S' : CS} (n : Nat) : ∀ (x1 : Int32) (x2 : Int32) (S : CS) (H : Heap) (locs : List Loc), va_P K.1 vwCl (wd K S M o g) H → va_D (inA K) (wd K S M o g) → va_S (inA K) s.heap H locs → G_X0_gather_7 z n x1 x2 S = some S' → ∀ ls, lv_has ls 3 [(0, .ref (K.2.2.1 2)), (1, .int x1), (2, .int x2)] → W p l e rm_X0_gather s m args below meth c H locs 0 0 (MQ below (qR K none S' M o g) args s 0 0 (inA K)) (F0 m 7 ls []) := by
  obtain ⟨hx, hb, hml, hown, hts, hr, hlk, hN⟩ := id Cc
  have hcl : 0 ≤ (rm_X0_gather).cells := Nat.zero_le _
  have hsl : 0 ≤ (rm_X0_gather).slots := Nat.zero_le _
  induction n with
  | zero => intro x1 x2 S H locs hP hD hS h; cases h
  | succ n ih =>
    intro x1 x2 S H locs hP hD hS h ls hl
    rw [G_X0_gather_7] at h
    refine lv_iload_n hx hb dX0_gather_7 rfl (lv_at hl 2 rfl) ?_
    refine lv_iload_n hx hb dX0_gather_8 rfl (lv_at hl 1 rfl) ?_
    refine lv_iconst (v := (2 : Int32)) hx hb dX0_gather_9 (by decide) ?_
    refine lv_idiv hx hb dX0_gather_10 (by decide) ?_
    refine lv_icmp_gt (tgt := 100) hx hb dX0_gather_11 (by decide) (fun c1 => ?_) (fun c1 => ?_)
    · have h := gn_t h c1
      obtain rfl := gn_some h
      exact W.vret hx hb hr (fun t ht _ => ⟨rfl, by rw [ht]; exact hP, hD, hS.F ht⟩) hS.2.2 dX0_gather_100 hlk
    · have h := gn_f h c1
      refine lv_aload_n hx hb dX0_gather_14 rfl (lv_at hl 0 rfl) ?_
      refine va_get (D := K.1) (ci := 0) (v := .int (cg_cmany S)) (C := RX0) (T := TX0) (N := 3) hx hb hts in_X0_gather_X0 hown hK hP 2 rfl rfl 2 (by decide) (hts (.fieldLink RX0 19 "SawSums$Classes" "many" "I") (by decide +kernel)) (fun _ h9 => h9) rfl dX0_gather_15 ?_
      refine lv_aload_n hx hb dX0_gather_18 rfl (lv_at hl 0 rfl) ?_
      refine va_get (D := K.1) (ci := 0) (v := .ref (K.2.2.1 3)) (C := RX0) (T := TX0) (N := 3) hx hb hts in_X0_gather_X0 hown hK hP 2 rfl rfl 0 (by decide) (hts (.fieldLink RX0 9 "SawSums$Classes" "numbers" "[I") (by decide +kernel)) (fun _ h9 => h9) rfl dX0_gather_19 ?_
      refine va_alen (v := (500 : Int32)) hx hb hK hP 3 2 rfl rfl rfl dX0_gather_22 ?_
      refine lv_icmp_ge (tgt := 94) hx hb dX0_gather_23 (by decide) (fun c2 => ?_) (fun c2 => ?_)
      · have h := gn_t h c2
        obtain ⟨v3, ev3, h⟩ := gn_nm h
        refine lv_iinc (v := v3) (lv' := [(2, .int v3), (0, .ref (K.2.2.1 2)), (1, .int x1)]) hx hb dX0_gather_94 hl (k := 2) rfl (by rw [ev3]; rfl) (by decide) rfl (fun ls hl => ?_)
        refine lv_goto (tgt := 7) hx hb dX0_gather_97 (by decide) ?_
        exact ih x1 v3 S _ _ hP hD hS h ls (lv_sub hl [1, 2, 0] rfl)
      · have h := gn_f h c2
        refine lv_aload_n hx hb dX0_gather_26 rfl (lv_at hl 0 rfl) ?_
        refine va_get (D := K.1) (ci := 0) (v := .int (cg_cmany S)) (C := RX0) (T := TX0) (N := 3) hx hb hts in_X0_gather_X0 hown hK hP 2 rfl rfl 2 (by decide) (hts (.fieldLink RX0 19 "SawSums$Classes" "many" "I") (by decide +kernel)) (fun _ h9 => h9) rfl dX0_gather_27 ?_
        refine lv_aload_n hx hb dX0_gather_30 rfl (lv_at hl 0 rfl) ?_
        refine va_get (D := K.1) (ci := 0) (v := .ref (K.2.2.1 4)) (C := RX0) (T := TX0) (N := 3) hx hb hts in_X0_gather_X0 hown hK hP 2 rfl rfl 1 (by decide) (hts (.fieldLink RX0 15 "SawSums$Classes" "sizes" "[J") (by decide +kernel)) (fun _ h9 => h9) rfl dX0_gather_31 ?_
        refine va_alen (v := (500 : Int32)) hx hb hK hP 4 0 rfl rfl rfl dX0_gather_34 ?_
        refine lv_icmp_ge (tgt := 94) hx hb dX0_gather_35 (by decide) (fun c4 => ?_) (fun c4 => ?_)
        · have h := gn_t h c4
          obtain ⟨v5, ev5, h⟩ := gn_nm h
          refine lv_iinc (v := v5) (lv' := [(2, .int v5), (0, .ref (K.2.2.1 2)), (1, .int x1)]) hx hb dX0_gather_94 hl (k := 2) rfl (by rw [ev5]; rfl) (by decide) rfl (fun ls hl => ?_)
          refine lv_goto (tgt := 7) hx hb dX0_gather_97 (by decide) ?_
          exact ih x1 v5 S _ _ hP hD hS h ls (lv_sub hl [1, 2, 0] rfl)
        · have h := gn_f h c4
          refine lv_iload_n hx hb dX0_gather_38 rfl (lv_at hl 1 rfl) ?_
          refine lv_iload_n hx hb dX0_gather_39 rfl (lv_at hl 2 rfl) ?_
          obtain ⟨r6, qr6, h⟩ := gn_bd h
          refine pc_S (rest := []) ⟨hx, hb, hml, hown, hts⟩ hN (c_X0_isRing l z _ _ r6 qr6) (va_cwS 2 hts gX0_gather_X0_isRing rfl rfl rfl (by decide +kernel) ⟨(Nat.le_of_ble_eq_true rfl), (Nat.le_of_ble_eq_true rfl)⟩) rfl hl.1 rfl (Nat.le_of_ble_eq_true rfl) dX0_gather_40 hcl hsl ?_
          refine lv_if_eq (tgt := 94) hx hb dX0_gather_43 (by decide) (fun c7 => ?_) (fun c7 => ?_)
          · have h := gn_t h c7
            obtain ⟨v8, ev8, h⟩ := gn_nm h
            refine lv_iinc (v := v8) (lv' := [(2, .int v8), (0, .ref (K.2.2.1 2)), (1, .int x1)]) hx hb dX0_gather_94 hl (k := 2) rfl (by rw [ev8]; rfl) (by decide) rfl (fun ls hl => ?_)
            refine lv_goto (tgt := 7) hx hb dX0_gather_97 (by decide) ?_
            exact ih x1 v8 S _ _ hP hD hS h ls (lv_sub hl [1, 2, 0] rfl)
          · have h := gn_f h c7
            refine lv_iload_n hx hb dX0_gather_46 rfl (lv_at hl 1 rfl) ?_
            refine lv_iload_n hx hb dX0_gather_47 rfl (lv_at hl 2 rfl) ?_
            obtain ⟨r9, qr9, h⟩ := gn_bd h
            refine pc_S (rest := []) ⟨hx, hb, hml, hown, hts⟩ hN (c_X0_leastOf l z _ _ r9 qr9) (va_cwS 2 hts gX0_gather_X0_leastOf rfl rfl rfl (by decide +kernel) ⟨(Nat.le_of_ble_eq_true rfl), (Nat.le_of_ble_eq_true rfl)⟩) rfl hl.1 rfl (Nat.le_of_ble_eq_true rfl) dX0_gather_48 hcl hsl ?_
            refine lv_iload_n hx hb dX0_gather_51 rfl (lv_at hl 2 rfl) ?_
            refine lv_icmp_ne (tgt := 94) hx hb dX0_gather_52 (by decide) (fun c10 => ?_) (fun c10 => ?_)
            · have h := gn_f h c10
              obtain ⟨v11, ev11, h⟩ := gn_nm h
              refine lv_iinc (v := v11) (lv' := [(2, .int v11), (0, .ref (K.2.2.1 2)), (1, .int x1)]) hx hb dX0_gather_94 hl (k := 2) rfl (by rw [ev11]; rfl) (by decide) rfl (fun ls hl => ?_)
              refine lv_goto (tgt := 7) hx hb dX0_gather_97 (by decide) ?_
              exact ih x1 v11 S _ _ hP hD hS h ls (lv_sub hl [1, 2, 0] rfl)
            · have h := gn_t h c10
              refine lv_aload_n hx hb dX0_gather_55 rfl (lv_at hl 0 rfl) ?_
              refine va_get (D := K.1) (ci := 0) (v := .ref (K.2.2.1 3)) (C := RX0) (T := TX0) (N := 3) hx hb hts in_X0_gather_X0 hown hK hP 2 rfl rfl 0 (by decide) (hts (.fieldLink RX0 9 "SawSums$Classes" "numbers" "[I") (by decide +kernel)) (fun _ h9 => h9) rfl dX0_gather_56 ?_
              refine lv_aload_n hx hb dX0_gather_59 rfl (lv_at hl 0 rfl) ?_
              refine va_get (D := K.1) (ci := 0) (v := .int (cg_cmany S)) (C := RX0) (T := TX0) (N := 3) hx hb hts in_X0_gather_X0 hown hK hP 2 rfl rfl 2 (by decide) (hts (.fieldLink RX0 19 "SawSums$Classes" "many" "I") (by decide +kernel)) (fun _ h9 => h9) rfl dX0_gather_60 ?_
              refine lv_iload_n hx hb dX0_gather_63 rfl (lv_at hl 2 rfl) ?_
              obtain ⟨n12, h⟩ := gn_yz h
              obtain ⟨S13, eS13, h⟩ := gn_nm h
              refine va_iast hx hb hK hP hD hS 3 2 rfl rfl (ib_in n12) dX0_gather_64 (fun H locs hP hD hS => ?_)
              have hP : va_P K.1 vwCl (wd K S13 M o g) H := by rw [eS13]; exact hP
              have hD : va_D (inA K) (wd K S13 M o g) := by rw [eS13]; exact hD
              refine lv_aload_n hx hb dX0_gather_65 rfl (lv_at hl 0 rfl) ?_
              refine va_get (D := K.1) (ci := 0) (v := .ref (K.2.2.1 4)) (C := RX0) (T := TX0) (N := 3) hx hb hts in_X0_gather_X0 hown hK hP 2 rfl rfl 1 (by decide) (hts (.fieldLink RX0 15 "SawSums$Classes" "sizes" "[J") (by decide +kernel)) (fun _ h9 => h9) rfl dX0_gather_66 ?_
              refine lv_aload_n hx hb dX0_gather_69 rfl (lv_at hl 0 rfl) ?_
              refine va_get (D := K.1) (ci := 0) (v := .int (cg_cmany S13)) (C := RX0) (T := TX0) (N := 3) hx hb hts in_X0_gather_X0 hown hK hP 2 rfl rfl 2 (by decide) (hts (.fieldLink RX0 19 "SawSums$Classes" "many" "I") (by decide +kernel)) (fun _ h9 => h9) rfl dX0_gather_70 ?_
              refine lv_iload_n hx hb dX0_gather_73 rfl (lv_at hl 2 rfl) ?_
              refine lv_i2l hx hb dX0_gather_74 rfl ?_
              refine lv_iload_n hx hb dX0_gather_75 rfl (lv_at hl 1 rfl) ?_
              refine lv_i2l hx hb dX0_gather_76 rfl ?_
              obtain ⟨r14, qr14, h⟩ := gn_bd h
              refine pc_S (rest := [.int (cg_cmany S13), .ref (K.2.2.1 4)]) ⟨hx, hb, hml, hown, hts⟩ hN (c_X5_twelfths l z _ _ r14 qr14) (va_cwS 2 hts gX0_gather_X5_twelfths rfl rfl rfl (by decide +kernel) ⟨(Nat.le_of_ble_eq_true rfl), (Nat.le_of_ble_eq_true rfl)⟩) rfl hl.1 rfl (Nat.le_of_ble_eq_true rfl) dX0_gather_77 hcl hsl ?_
              refine va_mabs_long hx hb (hml.trans hl.1.symm) hown (hts (.methodLink RX0 59 Lib.MathLoose.abs_long.x) (by decide +kernel)) (hts (.static Lib.MathLoose.abs_long.x) (by decide +kernel)) (hts (.initialized "java/lang/Math") (by decide +kernel)) (hts (.code Lib.MathLoose.abs_long.x Lib.MathLoose.abs_long.code 2 (some .long)) (by decide +kernel)) (Nat.le_of_ble_eq_true rfl) (Nat.le_of_ble_eq_true rfl) hcl hsl dX0_gather_80 ?_
              obtain ⟨n15, h⟩ := gn_yz h
              obtain ⟨S16, eS16, h⟩ := gn_nm h
              refine va_last hx hb hK hP hD hS 4 0 rfl rfl (ib_in n15) dX0_gather_83 (fun H locs hP hD hS => ?_)
              have hP : va_P K.1 vwCl (wd K S16 M o g) H := by rw [eS16]; exact hP
              have hD : va_D (inA K) (wd K S16 M o g) := by rw [eS16]; exact hD
              refine lv_aload_n hx hb dX0_gather_84 rfl (lv_at hl 0 rfl) ?_
              refine lv_dup hx hb dX0_gather_85 rfl ?_
              refine va_get (D := K.1) (ci := 0) (v := .int (cg_cmany S16)) (C := RX0) (T := TX0) (N := 3) hx hb hts in_X0_gather_X0 hown hK hP 2 rfl rfl 2 (by decide) (hts (.fieldLink RX0 19 "SawSums$Classes" "many" "I") (by decide +kernel)) (fun _ h9 => h9) rfl dX0_gather_86 ?_
              refine lv_iconst (v := (1 : Int32)) hx hb dX0_gather_89 (by decide) ?_
              refine lv_iadd hx hb dX0_gather_90 ?_
              obtain ⟨v17, ev17, h⟩ := gn_nm h
              refine ln_i ev17 ?_
              obtain ⟨S18, eS18, h⟩ := gn_nm h
              refine va_put (D := K.1) (ci := 0) (v := .int v17) (ty := .int) (C := RX0) (T := TX0) (N := 3) hx hb hts in_X0_gather_X0 tyX0 tyX0_ok nmX0 hown hK hP hD hS 2 rfl rfl 2 (by decide) (hts (.fieldLink RX0 19 "SawSums$Classes" "many" "I") (by decide +kernel)) (fun _ h9 => h9) rfl (by decide +kernel) rfl rfl (Nat.le_of_ble_eq_true rfl) dX0_gather_91 (fun H locs hP hD hS => ?_)
              have hP : va_P K.1 vwCl (wd K S18 M o g) H := by rw [eS18]; exact hP
              have hD : va_D (inA K) (wd K S18 M o g) := by rw [eS18]; exact hD
              obtain ⟨v19, ev19, h⟩ := gn_nm h
              refine lv_iinc (v := v19) (lv' := [(2, .int v19), (0, .ref (K.2.2.1 2)), (1, .int x1)]) hx hb dX0_gather_94 hl (k := 2) rfl (by rw [ev19]; rfl) (by decide) rfl (fun ls hl => ?_)
              refine lv_goto (tgt := 7) hx hb dX0_gather_97 (by decide) ?_
              exact ih x1 v19 S18 _ _ hP hD hS h ls (lv_sub hl [1, 2, 0] rfl)
end
set_option maxRecDepth 100000 in
theorem c_X0_gather (l : Launch) (z : Nat) (K : Ev) (M : MS) (o : Nat → Int64) (g : Gh) (a0 : Int32) (S : CS)  (S' : CS) (h : F_X0_gather z a0 S = some S') : Met l yX0_gather wsX0_gather rm_X0_gather (qH K [.ref (K.2.2.1 2), .int a0] S M o g) (qR K none S' M o g) 0 0 (inA K) := by
  refine Met.ofW (cc := cX0_gather) (maxL := 3) (ret := none) (by decide) rfl ?_
  intro p e s m args below meth c s₁ B hml hv
  obtain ⟨rfl, hN, hP, hK, hD, hF⟩ := hv
  have hx := B.exec
  have hb := B.bytes
  have hr := B.returns
  have hts := atoms_spec (ws := wsX0_gather) B.pre
  have hown : s.vm.findClass RX0 = some m.cls := findClass_of_methodNamed B.named
  have hlk := B.notSynchronized
  have hcl : 0 ≤ (rm_X0_gather).cells := Nat.zero_le _
  have hsl : 0 ≤ (rm_X0_gather).slots := Nat.zero_le _
  have Cc : Cx p s m _ meth c cX0_gather 3 RX0 wsX0_gather none := ⟨hx, hb, hml, hown, hts, hr, hlk, hN⟩
  have hS : va_S (inA K) s.heap s.heap [] := va_S.rf
  have hl := lv_entry ([.ref (K.2.2.1 2), .int a0]) (n := 3) (Nat.le_of_ble_eq_true rfl)
  rw [lg_entry_eq]
  generalize (lg_sl ([.ref (K.2.2.1 2), .int a0]) ++ List.replicate (3 - (lg_sl ([.ref (K.2.2.1 2), .int a0])).length) Slot.unset).toArray = ls at hl ⊢
  have hl : lv_has ls 3 [(0, .ref (K.2.2.1 2)), (1, .int a0)] := hl
  rw [F_X0_gather] at h
  refine lv_aload_n hx hb dX0_gather_0 rfl (lv_at hl 0 rfl) ?_
  refine lv_iconst (v := (0 : Int32)) hx hb dX0_gather_1 (by decide) ?_
  obtain ⟨S1, eS1, h⟩ := gn_nm h
  refine va_put (D := K.1) (ci := 0) (v := .int (0 : Int32)) (ty := .int) (C := RX0) (T := TX0) (N := 3) hx hb hts in_X0_gather_X0 tyX0 tyX0_ok nmX0 hown hK hP hD hS 2 rfl rfl 2 (by decide) (hts (.fieldLink RX0 19 "SawSums$Classes" "many" "I") (by decide +kernel)) (fun _ h9 => h9) rfl (by decide +kernel) rfl rfl (Nat.le_of_ble_eq_true rfl) dX0_gather_2 (fun H locs hP hD hS => ?_)
  have hP : va_P K.1 vwCl (wd K S1 M o g) H := by rw [eS1]; exact hP
  have hD : va_D (inA K) (wd K S1 M o g) := by rw [eS1]; exact hD
  refine lv_iconst (v := (1 : Int32)) hx hb dX0_gather_5 (by decide) ?_
  refine lv_istore_n (lv' := [(2, .int (1 : Int32)), (0, .ref (K.2.2.1 2)), (1, .int a0)]) hx hb dX0_gather_6 rfl hl (by decide) rfl (fun ls hl => ?_)
  exact w_X0_gather_7 Cc hK hF z a0 (1 : Int32) S1 _ _ hP hD hS h ls (lv_sub hl [1, 2, 0] rfl)
theorem in_X0_numberAt_X0 : ∀ w ∈ wsX00, w ∈ wsX0_numberAt := fun _ h => List.mem_cons_of_mem _ (List.mem_append_right _ h)
def rm_X0_numberAt : Room := { frames := 0, cells := 0, slots := 0, locals := 0 }
section
variable {p : Program} {l : Launch} {e : Env} {s : State} {m : MethodId} {args : Array Value} {below : List Frame} {meth : Method} {c : Code} {z : Nat} {K : Ev} {M : MS} {o : Nat → Int64} {g : Gh}
end
set_option maxRecDepth 100000 in
theorem c_X0_numberAt (l : Launch) (z : Nat) (K : Ev) (M : MS) (o : Nat → Int64) (g : Gh) (a0 : Int32) (S : CS) (r : Int32) (S' : CS) (h : F_X0_numberAt z a0 S = some (r, S')) : Met l yX0_numberAt wsX0_numberAt rm_X0_numberAt (qH K [.ref (K.2.2.1 2), .int a0] S M o g) (qR K (some (.int r)) S' M o g) 0 0 (inA K) := by
  refine Met.ofW (cc := cX0_numberAt) (maxL := 2) (ret := (some .int)) (by decide) rfl ?_
  intro p e s m args below meth c s₁ B hml hv
  obtain ⟨rfl, hN, hP, hK, hD, hF⟩ := hv
  have hx := B.exec
  have hb := B.bytes
  have hr := B.returns
  have hts := atoms_spec (ws := wsX0_numberAt) B.pre
  have hown : s.vm.findClass RX0 = some m.cls := findClass_of_methodNamed B.named
  have hlk := B.notSynchronized
  have hcl : 0 ≤ (rm_X0_numberAt).cells := Nat.zero_le _
  have hsl : 0 ≤ (rm_X0_numberAt).slots := Nat.zero_le _
  have Cc : Cx p s m _ meth c cX0_numberAt 2 RX0 wsX0_numberAt (some .int) := ⟨hx, hb, hml, hown, hts, hr, hlk, hN⟩
  have hS : va_S (inA K) s.heap s.heap [] := va_S.rf
  have hl := lv_entry ([.ref (K.2.2.1 2), .int a0]) (n := 2) (Nat.le_of_ble_eq_true rfl)
  rw [lg_entry_eq]
  generalize (lg_sl ([.ref (K.2.2.1 2), .int a0]) ++ List.replicate (2 - (lg_sl ([.ref (K.2.2.1 2), .int a0])).length) Slot.unset).toArray = ls at hl ⊢
  have hl : lv_has ls 2 [(0, .ref (K.2.2.1 2)), (1, .int a0)] := hl
  rw [F_X0_numberAt] at h
  refine lv_iload_n hx hb dX0_numberAt_0 rfl (lv_at hl 1 rfl) ?_
  refine lv_iconst (v := (-1 : Int32)) hx hb dX0_numberAt_1 (by decide) ?_
  refine lv_icmp_ne (tgt := 10) hx hb dX0_numberAt_2 (by decide) (fun c1 => ?_) (fun c1 => ?_)
  · have h := gn_f h c1
    refine lv_iload_n hx hb dX0_numberAt_10 rfl (lv_at hl 1 rfl) ?_
    refine lv_if_lt (tgt := 40) hx hb dX0_numberAt_11 (by decide) (fun c2 => ?_) (fun c2 => ?_)
    · have h := gn_t h c2
      refine lv_iconst (v := (-1 : Int32)) hx hb dX0_numberAt_40 (by decide) ?_
      obtain ⟨rfl, rfl⟩ := Prod.mk.inj (gn_some h)
      exact W.iret hx hb hr (fun t ht _ => ⟨rfl, by rw [ht]; exact hP, hD, hS.F ht⟩) hS.2.2 dX0_numberAt_41 hlk
    · have h := gn_f h c2
      refine lv_iload_n hx hb dX0_numberAt_14 rfl (lv_at hl 1 rfl) ?_
      refine lv_aload_n hx hb dX0_numberAt_15 rfl (lv_at hl 0 rfl) ?_
      refine va_get (D := K.1) (ci := 0) (v := .int (cg_cmany S)) (C := RX0) (T := TX0) (N := 3) hx hb hts in_X0_numberAt_X0 hown hK hP 2 rfl rfl 2 (by decide) (hts (.fieldLink RX0 19 "SawSums$Classes" "many" "I") (by decide +kernel)) (fun _ h9 => h9) rfl dX0_numberAt_16 ?_
      refine lv_icmp_ge (tgt := 40) hx hb dX0_numberAt_19 (by decide) (fun c3 => ?_) (fun c3 => ?_)
      · have h := gn_t h c3
        refine lv_iconst (v := (-1 : Int32)) hx hb dX0_numberAt_40 (by decide) ?_
        obtain ⟨rfl, rfl⟩ := Prod.mk.inj (gn_some h)
        exact W.iret hx hb hr (fun t ht _ => ⟨rfl, by rw [ht]; exact hP, hD, hS.F ht⟩) hS.2.2 dX0_numberAt_41 hlk
      · have h := gn_f h c3
        refine lv_iload_n hx hb dX0_numberAt_22 rfl (lv_at hl 1 rfl) ?_
        refine lv_aload_n hx hb dX0_numberAt_23 rfl (lv_at hl 0 rfl) ?_
        refine va_get (D := K.1) (ci := 0) (v := .ref (K.2.2.1 3)) (C := RX0) (T := TX0) (N := 3) hx hb hts in_X0_numberAt_X0 hown hK hP 2 rfl rfl 0 (by decide) (hts (.fieldLink RX0 9 "SawSums$Classes" "numbers" "[I") (by decide +kernel)) (fun _ h9 => h9) rfl dX0_numberAt_24 ?_
        refine va_alen (v := (500 : Int32)) hx hb hK hP 3 2 rfl rfl rfl dX0_numberAt_27 ?_
        refine lv_icmp_ge (tgt := 40) hx hb dX0_numberAt_28 (by decide) (fun c4 => ?_) (fun c4 => ?_)
        · have h := gn_t h c4
          refine lv_iconst (v := (-1 : Int32)) hx hb dX0_numberAt_40 (by decide) ?_
          obtain ⟨rfl, rfl⟩ := Prod.mk.inj (gn_some h)
          exact W.iret hx hb hr (fun t ht _ => ⟨rfl, by rw [ht]; exact hP, hD, hS.F ht⟩) hS.2.2 dX0_numberAt_41 hlk
        · have h := gn_f h c4
          refine lv_aload_n hx hb dX0_numberAt_31 rfl (lv_at hl 0 rfl) ?_
          refine va_get (D := K.1) (ci := 0) (v := .ref (K.2.2.1 3)) (C := RX0) (T := TX0) (N := 3) hx hb hts in_X0_numberAt_X0 hown hK hP 2 rfl rfl 0 (by decide) (hts (.fieldLink RX0 9 "SawSums$Classes" "numbers" "[I") (by decide +kernel)) (fun _ h9 => h9) rfl dX0_numberAt_32 ?_
          refine lv_iload_n hx hb dX0_numberAt_35 rfl (lv_at hl 1 rfl) ?_
          obtain ⟨n5, h⟩ := gn_yz h
          refine va_iald hx hb hK hP 3 2 rfl rfl (ib_in n5) dX0_numberAt_36 ?_
          refine lv_goto (tgt := 41) hx hb dX0_numberAt_37 (by decide) ?_
          obtain ⟨rfl, rfl⟩ := Prod.mk.inj (gn_some h)
          exact W.iret hx hb hr (fun t ht _ => ⟨rfl, by rw [ht]; exact hP, hD, hS.F ht⟩) hS.2.2 dX0_numberAt_41 hlk
  · have h := gn_t h c1
    refine lv_aload_n hx hb dX0_numberAt_5 rfl (lv_at hl 0 rfl) ?_
    refine va_get (D := K.1) (ci := 0) (v := .int (cg_cmany S)) (C := RX0) (T := TX0) (N := 3) hx hb hts in_X0_numberAt_X0 hown hK hP 2 rfl rfl 2 (by decide) (hts (.fieldLink RX0 19 "SawSums$Classes" "many" "I") (by decide +kernel)) (fun _ h9 => h9) rfl dX0_numberAt_6 ?_
    obtain ⟨rfl, rfl⟩ := Prod.mk.inj (gn_some h)
    exact W.iret hx hb hr (fun t ht _ => ⟨rfl, by rw [ht]; exact hP, hD, hS.F ht⟩) hS.2.2 dX0_numberAt_9 hlk
theorem in_X0_twinsAt_X0 : ∀ w ∈ wsX00, w ∈ wsX0_twinsAt := fun _ h => List.mem_cons_of_mem _ (List.mem_append_right _ h)
def rm_X0_twinsAt : Room := { frames := 1, cells := 0, slots := 0, locals := 24 }
section
variable {p : Program} {l : Launch} {e : Env} {s : State} {m : MethodId} {args : Array Value} {below : List Frame} {meth : Method} {c : Code} {z : Nat} {K : Ev} {M : MS} {o : Nat → Int64} {g : Gh}
set_option maxRecDepth 100000 in
theorem w_X0_twinsAt_38 (Cc : Cx p s m args meth c cX0_twinsAt 6 RX0 wsX0_twinsAt (some .int)) (hK : va_K K.1 vwCl (tysOf K) s) (hF : SF K s) {r : Int32} {S' : CS} {k26 : Int32 → Int32 → Int32 → Int32 → CS → Option (Int32 × CS)} (hk26 : ∀ (x1 : Int32) (x2 : Int32) (x3 : Int32) (x4 : Int32) (S : CS) (H : Heap) (locs : List Loc), va_P K.1 vwCl (wd K S M o g) H → va_D (inA K) (wd K S M o g) → va_S (inA K) s.heap H locs → k26 x1 x2 x3 x4 S = some (r, S') → ∀ ls, lv_has ls 6 [(0, .ref (K.2.2.1 2)), (1, .int x1), (2, .int x2), (3, .int x3), (4, .int x4)] → W p l e rm_X0_twinsAt s m args below meth c H locs 0 0 (MQ below (qR K (some (.int r)) S' M o g) args s 0 0 (inA K)) (F0 m 26 ls [])) (n : Nat) : ∀ (x1 : Int32) (x2 : Int32) (x3 : Int32) (x4 : Int32) (x5 : Int32) (S : CS) (H : Heap) (locs : List Loc), va_P K.1 vwCl (wd K S M o g) H → va_D (inA K) (wd K S M o g) → va_S (inA K) s.heap H locs → G_X0_twinsAt_38 z k26 n x1 x2 x3 x4 x5 S = some (r, S') → ∀ ls, lv_has ls 6 [(0, .ref (K.2.2.1 2)), (1, .int x1), (2, .int x2), (3, .int x3), (4, .int x4), (5, .int x5)] → W p l e rm_X0_twinsAt s m args below meth c H locs 0 0 (MQ below (qR K (some (.int r)) S' M o g) args s 0 0 (inA K)) (F0 m 38 ls []) := by
  obtain ⟨hx, hb, hml, hown, hts, hr, hlk, hN⟩ := id Cc
  have hcl : 0 ≤ (rm_X0_twinsAt).cells := Nat.zero_le _
  have hsl : 0 ≤ (rm_X0_twinsAt).slots := Nat.zero_le _
  induction n with
  | zero => intro x1 x2 x3 x4 x5 S H locs hP hD hS h; cases h
  | succ n ih =>
    intro x1 x2 x3 x4 x5 S H locs hP hD hS h ls hl
    rw [G_X0_twinsAt_38] at h
    refine lv_iload hx hb dX0_twinsAt_38 (lv_at hl 5 rfl) ?_
    refine lv_iload_n hx hb dX0_twinsAt_40 rfl (lv_at hl 3 rfl) ?_
    refine lv_icmp_ge (tgt := 96) hx hb dX0_twinsAt_41 (by decide) (fun c1 => ?_) (fun c1 => ?_)
    · have h := gn_t h c1
      obtain ⟨v2, ev2, h⟩ := gn_nm h
      refine lv_iinc (v := v2) (lv' := [(4, .int v2), (0, .ref (K.2.2.1 2)), (1, .int x1), (2, .int x2), (3, .int x3), (5, .int x5)]) hx hb dX0_twinsAt_96 hl (k := 4) rfl (by rw [ev2]; rfl) (by decide) rfl (fun ls hl => ?_)
      refine lv_goto (tgt := 26) hx hb dX0_twinsAt_99 (by decide) ?_
      exact hk26 x1 x2 x3 v2 S _ _ hP hD hS h ls (lv_sub hl [1, 2, 3, 4, 0] rfl)
    · have h := gn_f h c1
      refine lv_aload_n hx hb dX0_twinsAt_44 rfl (lv_at hl 0 rfl) ?_
      refine va_get (D := K.1) (ci := 0) (v := .ref (K.2.2.1 4)) (C := RX0) (T := TX0) (N := 3) hx hb hts in_X0_twinsAt_X0 hown hK hP 2 rfl rfl 1 (by decide) (hts (.fieldLink RX0 15 "SawSums$Classes" "sizes" "[J") (by decide +kernel)) (fun _ h9 => h9) rfl dX0_twinsAt_45 ?_
      refine lv_iload hx hb dX0_twinsAt_48 (lv_at hl 4 rfl) ?_
      obtain ⟨n3, h⟩ := gn_yz h
      refine va_lald hx hb hK hP 4 0 rfl rfl (ib_in n3) dX0_twinsAt_50 ?_
      refine lv_aload_n hx hb dX0_twinsAt_51 rfl (lv_at hl 0 rfl) ?_
      refine va_get (D := K.1) (ci := 0) (v := .ref (K.2.2.1 4)) (C := RX0) (T := TX0) (N := 3) hx hb hts in_X0_twinsAt_X0 hown hK hP 2 rfl rfl 1 (by decide) (hts (.fieldLink RX0 15 "SawSums$Classes" "sizes" "[J") (by decide +kernel)) (fun _ h9 => h9) rfl dX0_twinsAt_52 ?_
      refine lv_iload hx hb dX0_twinsAt_55 (lv_at hl 5 rfl) ?_
      obtain ⟨n4, h⟩ := gn_yz h
      refine va_lald hx hb hK hP 4 0 rfl rfl (ib_in n4) dX0_twinsAt_57 ?_
      refine ll_ne (tgt := 90) hx hb dX0_twinsAt_58 dX0_twinsAt_59 (by decide) (fun c5 => ?_) (fun c5 => ?_)
      · have h := gn_f h c5
        obtain ⟨v6, ev6, h⟩ := gn_nm h
        refine lv_iinc (v := v6) (lv' := [(5, .int v6), (0, .ref (K.2.2.1 2)), (1, .int x1), (2, .int x2), (3, .int x3), (4, .int x4)]) hx hb dX0_twinsAt_90 hl (k := 5) rfl (by rw [ev6]; rfl) (by decide) rfl (fun ls hl => ?_)
        refine lv_goto (tgt := 38) hx hb dX0_twinsAt_93 (by decide) ?_
        exact ih x1 x2 x3 x4 v6 S _ _ hP hD hS h ls (lv_sub hl [1, 2, 3, 4, 5, 0] rfl)
      · have h := gn_t h c5
        refine lv_iload_n hx hb dX0_twinsAt_62 rfl (lv_at hl 2 rfl) ?_
        refine lv_iload_n hx hb dX0_twinsAt_63 rfl (lv_at hl 1 rfl) ?_
        refine lv_icmp_ne (tgt := 87) hx hb dX0_twinsAt_64 (by decide) (fun c7 => ?_) (fun c7 => ?_)
        · have h := gn_f h c7
          obtain ⟨v8, ev8, h⟩ := gn_nm h
          refine lv_iinc (v := v8) (lv' := [(2, .int v8), (0, .ref (K.2.2.1 2)), (1, .int x1), (3, .int x3), (4, .int x4), (5, .int x5)]) hx hb dX0_twinsAt_87 hl (k := 2) rfl (by rw [ev8]; rfl) (by decide) rfl (fun ls hl => ?_)
          obtain ⟨v9, ev9, h⟩ := gn_nm h
          refine lv_iinc (v := v9) (lv' := [(5, .int v9), (2, .int v8), (0, .ref (K.2.2.1 2)), (1, .int x1), (3, .int x3), (4, .int x4)]) hx hb dX0_twinsAt_90 hl (k := 5) rfl (by rw [ev9]; rfl) (by decide) rfl (fun ls hl => ?_)
          refine lv_goto (tgt := 38) hx hb dX0_twinsAt_93 (by decide) ?_
          exact ih x1 v8 x3 x4 v9 S _ _ hP hD hS h ls (lv_sub hl [2, 3, 1, 4, 5, 0] rfl)
        · have h := gn_t h c7
          refine lv_sipush (v := (1000 : Int32)) hx hb dX0_twinsAt_67 (by decide) ?_
          refine lv_aload_n hx hb dX0_twinsAt_70 rfl (lv_at hl 0 rfl) ?_
          refine va_get (D := K.1) (ci := 0) (v := .ref (K.2.2.1 3)) (C := RX0) (T := TX0) (N := 3) hx hb hts in_X0_twinsAt_X0 hown hK hP 2 rfl rfl 0 (by decide) (hts (.fieldLink RX0 9 "SawSums$Classes" "numbers" "[I") (by decide +kernel)) (fun _ h9 => h9) rfl dX0_twinsAt_71 ?_
          refine lv_iload hx hb dX0_twinsAt_74 (lv_at hl 4 rfl) ?_
          obtain ⟨n10, h⟩ := gn_yz h
          refine va_iald hx hb hK hP 3 2 rfl rfl (ib_in n10) dX0_twinsAt_76 ?_
          refine lv_imul hx hb dX0_twinsAt_77 ?_
          refine lv_aload_n hx hb dX0_twinsAt_78 rfl (lv_at hl 0 rfl) ?_
          refine va_get (D := K.1) (ci := 0) (v := .ref (K.2.2.1 3)) (C := RX0) (T := TX0) (N := 3) hx hb hts in_X0_twinsAt_X0 hown hK hP 2 rfl rfl 0 (by decide) (hts (.fieldLink RX0 9 "SawSums$Classes" "numbers" "[I") (by decide +kernel)) (fun _ h9 => h9) rfl dX0_twinsAt_79 ?_
          refine lv_iload hx hb dX0_twinsAt_82 (lv_at hl 5 rfl) ?_
          obtain ⟨n11, h⟩ := gn_yz h
          refine va_iald hx hb hK hP 3 2 rfl rfl (ib_in n11) dX0_twinsAt_84 ?_
          refine lv_iadd hx hb dX0_twinsAt_85 ?_
          obtain ⟨rfl, rfl⟩ := Prod.mk.inj (gn_some h)
          exact W.iret hx hb hr (fun t ht _ => ⟨rfl, by rw [ht]; exact hP, hD, hS.F ht⟩) hS.2.2 dX0_twinsAt_86 hlk
set_option maxRecDepth 100000 in
theorem w_X0_twinsAt_26 (Cc : Cx p s m args meth c cX0_twinsAt 6 RX0 wsX0_twinsAt (some .int)) (hK : va_K K.1 vwCl (tysOf K) s) (hF : SF K s) {r : Int32} {S' : CS} (n : Nat) : ∀ (x1 : Int32) (x2 : Int32) (x3 : Int32) (x4 : Int32) (S : CS) (H : Heap) (locs : List Loc), va_P K.1 vwCl (wd K S M o g) H → va_D (inA K) (wd K S M o g) → va_S (inA K) s.heap H locs → G_X0_twinsAt_26 z n x1 x2 x3 x4 S = some (r, S') → ∀ ls, lv_has ls 6 [(0, .ref (K.2.2.1 2)), (1, .int x1), (2, .int x2), (3, .int x3), (4, .int x4)] → W p l e rm_X0_twinsAt s m args below meth c H locs 0 0 (MQ below (qR K (some (.int r)) S' M o g) args s 0 0 (inA K)) (F0 m 26 ls []) := by
  obtain ⟨hx, hb, hml, hown, hts, hr, hlk, hN⟩ := id Cc
  have hcl : 0 ≤ (rm_X0_twinsAt).cells := Nat.zero_le _
  have hsl : 0 ≤ (rm_X0_twinsAt).slots := Nat.zero_le _
  induction n with
  | zero => intro x1 x2 x3 x4 S H locs hP hD hS h; cases h
  | succ n ih =>
    intro x1 x2 x3 x4 S H locs hP hD hS h ls hl
    rw [G_X0_twinsAt_26] at h
    refine lv_iload hx hb dX0_twinsAt_26 (lv_at hl 4 rfl) ?_
    refine lv_iload_n hx hb dX0_twinsAt_28 rfl (lv_at hl 3 rfl) ?_
    refine lv_icmp_ge (tgt := 102) hx hb dX0_twinsAt_29 (by decide) (fun c1 => ?_) (fun c1 => ?_)
    · have h := gn_t h c1
      refine lv_iload_n hx hb dX0_twinsAt_102 rfl (lv_at hl 1 rfl) ?_
      refine lv_iconst (v := (-1 : Int32)) hx hb dX0_twinsAt_103 (by decide) ?_
      refine lv_icmp_ne (tgt := 111) hx hb dX0_twinsAt_104 (by decide) (fun c2 => ?_) (fun c2 => ?_)
      · have h := gn_f h c2
        refine lv_iconst (v := (-1 : Int32)) hx hb dX0_twinsAt_111 (by decide) ?_
        obtain ⟨rfl, rfl⟩ := Prod.mk.inj (gn_some h)
        exact W.iret hx hb hr (fun t ht _ => ⟨rfl, by rw [ht]; exact hP, hD, hS.F ht⟩) hS.2.2 dX0_twinsAt_112 hlk
      · have h := gn_t h c2
        refine lv_iload_n hx hb dX0_twinsAt_107 rfl (lv_at hl 2 rfl) ?_
        refine lv_goto (tgt := 112) hx hb dX0_twinsAt_108 (by decide) ?_
        obtain ⟨rfl, rfl⟩ := Prod.mk.inj (gn_some h)
        exact W.iret hx hb hr (fun t ht _ => ⟨rfl, by rw [ht]; exact hP, hD, hS.F ht⟩) hS.2.2 dX0_twinsAt_112 hlk
    · have h := gn_f h c1
      refine lv_iload hx hb dX0_twinsAt_32 (lv_at hl 4 rfl) ?_
      refine lv_iconst (v := (1 : Int32)) hx hb dX0_twinsAt_34 (by decide) ?_
      refine lv_iadd hx hb dX0_twinsAt_35 ?_
      obtain ⟨v3, ev3, h⟩ := gn_nm h
      refine ln_i ev3 ?_
      refine lv_istore (lv' := [(5, .int v3), (0, .ref (K.2.2.1 2)), (1, .int x1), (2, .int x2), (3, .int x3), (4, .int x4)]) hx hb dX0_twinsAt_36 hl (by decide) rfl (fun ls hl => ?_)
      exact w_X0_twinsAt_38 Cc hK hF ih z x1 x2 x3 x4 v3 S _ _ hP hD hS h ls (lv_sub hl [1, 2, 3, 4, 5, 0] rfl)
end
set_option maxRecDepth 100000 in
theorem c_X0_twinsAt (l : Launch) (z : Nat) (K : Ev) (M : MS) (o : Nat → Int64) (g : Gh) (a0 : Int32) (S : CS) (r : Int32) (S' : CS) (h : F_X0_twinsAt z a0 S = some (r, S')) : Met l yX0_twinsAt wsX0_twinsAt rm_X0_twinsAt (qH K [.ref (K.2.2.1 2), .int a0] S M o g) (qR K (some (.int r)) S' M o g) 0 0 (inA K) := by
  refine Met.ofW (cc := cX0_twinsAt) (maxL := 6) (ret := (some .int)) (by decide) rfl ?_
  intro p e s m args below meth c s₁ B hml hv
  obtain ⟨rfl, hN, hP, hK, hD, hF⟩ := hv
  have hx := B.exec
  have hb := B.bytes
  have hr := B.returns
  have hts := atoms_spec (ws := wsX0_twinsAt) B.pre
  have hown : s.vm.findClass RX0 = some m.cls := findClass_of_methodNamed B.named
  have hlk := B.notSynchronized
  have hcl : 0 ≤ (rm_X0_twinsAt).cells := Nat.zero_le _
  have hsl : 0 ≤ (rm_X0_twinsAt).slots := Nat.zero_le _
  have Cc : Cx p s m _ meth c cX0_twinsAt 6 RX0 wsX0_twinsAt (some .int) := ⟨hx, hb, hml, hown, hts, hr, hlk, hN⟩
  have hS : va_S (inA K) s.heap s.heap [] := va_S.rf
  have hl := lv_entry ([.ref (K.2.2.1 2), .int a0]) (n := 6) (Nat.le_of_ble_eq_true rfl)
  rw [lg_entry_eq]
  generalize (lg_sl ([.ref (K.2.2.1 2), .int a0]) ++ List.replicate (6 - (lg_sl ([.ref (K.2.2.1 2), .int a0])).length) Slot.unset).toArray = ls at hl ⊢
  have hl : lv_has ls 6 [(0, .ref (K.2.2.1 2)), (1, .int a0)] := hl
  rw [F_X0_twinsAt] at h
  refine lv_iconst (v := (0 : Int32)) hx hb dX0_twinsAt_0 (by decide) ?_
  refine lv_istore_n (lv' := [(2, .int (0 : Int32)), (0, .ref (K.2.2.1 2)), (1, .int a0)]) hx hb dX0_twinsAt_1 rfl hl (by decide) rfl (fun ls hl => ?_)
  refine lv_aload_n hx hb dX0_twinsAt_2 rfl (lv_at hl 1 rfl) ?_
  refine va_get (D := K.1) (ci := 0) (v := .int (cg_cmany S)) (C := RX0) (T := TX0) (N := 3) hx hb hts in_X0_twinsAt_X0 hown hK hP 2 rfl rfl 2 (by decide) (hts (.fieldLink RX0 19 "SawSums$Classes" "many" "I") (by decide +kernel)) (fun _ h9 => h9) rfl dX0_twinsAt_3 ?_
  refine lv_aload_n hx hb dX0_twinsAt_6 rfl (lv_at hl 1 rfl) ?_
  refine va_get (D := K.1) (ci := 0) (v := .ref (K.2.2.1 3)) (C := RX0) (T := TX0) (N := 3) hx hb hts in_X0_twinsAt_X0 hown hK hP 2 rfl rfl 0 (by decide) (hts (.fieldLink RX0 9 "SawSums$Classes" "numbers" "[I") (by decide +kernel)) (fun _ h9 => h9) rfl dX0_twinsAt_7 ?_
  refine va_alen (v := (500 : Int32)) hx hb hK hP 3 2 rfl rfl rfl dX0_twinsAt_10 ?_
  refine lv_aload_n hx hb dX0_twinsAt_11 rfl (lv_at hl 1 rfl) ?_
  refine va_get (D := K.1) (ci := 0) (v := .ref (K.2.2.1 4)) (C := RX0) (T := TX0) (N := 3) hx hb hts in_X0_twinsAt_X0 hown hK hP 2 rfl rfl 1 (by decide) (hts (.fieldLink RX0 15 "SawSums$Classes" "sizes" "[J") (by decide +kernel)) (fun _ h9 => h9) rfl dX0_twinsAt_12 ?_
  refine va_alen (v := (500 : Int32)) hx hb hK hP 4 0 rfl rfl rfl dX0_twinsAt_15 ?_
  refine va_mmin hx hb (hml.trans hl.1.symm) hown (hts (.methodLink RX0 46 Lib.Math.min.name) (by decide +kernel)) (hts (.static Lib.Math.min.name) (by decide +kernel)) (hts (.initialized "java/lang/Math") (by decide +kernel)) (hts (.code Lib.Math.min.name Lib.Math.min.code 2 (some .int)) (by decide +kernel)) (Nat.le_of_ble_eq_true rfl) (Nat.le_of_ble_eq_true rfl) hcl hsl dX0_twinsAt_16 ?_
  refine va_mmin hx hb (hml.trans hl.1.symm) hown (hts (.methodLink RX0 46 Lib.Math.min.name) (by decide +kernel)) (hts (.static Lib.Math.min.name) (by decide +kernel)) (hts (.initialized "java/lang/Math") (by decide +kernel)) (hts (.code Lib.Math.min.name Lib.Math.min.code 2 (some .int)) (by decide +kernel)) (Nat.le_of_ble_eq_true rfl) (Nat.le_of_ble_eq_true rfl) hcl hsl dX0_twinsAt_19 ?_
  obtain ⟨v1, ev1, h⟩ := gn_nm h
  refine ln_i ev1 ?_
  refine lv_istore_n (lv' := [(3, .int v1), (2, .int (0 : Int32)), (0, .ref (K.2.2.1 2)), (1, .int a0)]) hx hb dX0_twinsAt_22 rfl hl (by decide) rfl (fun ls hl => ?_)
  refine lv_iconst (v := (0 : Int32)) hx hb dX0_twinsAt_23 (by decide) ?_
  refine lv_istore (lv' := [(4, .int (0 : Int32)), (3, .int v1), (2, .int (0 : Int32)), (0, .ref (K.2.2.1 2)), (1, .int a0)]) hx hb dX0_twinsAt_24 hl (by decide) rfl (fun ls hl => ?_)
  exact w_X0_twinsAt_26 Cc hK hF z a0 (0 : Int32) v1 (0 : Int32) S _ _ hP hD hS h ls (lv_sub hl [3, 4, 2, 1, 0] rfl)

def rm_X6_above : Room := { frames := 2, cells := 0, slots := 0, locals := 69 }
section
variable {p : Program} {l : Launch} {e : Env} {s : State} {m : MethodId} {args : Array Value} {below : List Frame} {meth : Method} {c : Code} {z : Nat} {K : Ev} {M : MS} {o : Nat → Int64} {g : Gh}
set_option maxRecDepth 100000 in
theorem w_X6_above_43 (Cc : Cx p s m args meth c cX6_above 9 RX6 wsX6_above (some .long)) (hK : va_K K.1 vwCl (tysOf K) s) (hF : SF K s) {r : Int64} {S' : CS} (n : Nat) : ∀ (x1 : Int32) (x2 : Int32) (x3 : Int32) (x4 : Int64) (x6 : Int64) (x8 : Int32) (S : CS) (H : Heap) (locs : List Loc), va_P K.1 vwCl (wd K S M o g) H → va_D (inA K) (wd K S M o g) → va_S (inA K) s.heap H locs → G_X6_above_43 z n x1 x2 x3 x4 x6 x8 S = some (r, S') → ∀ ls, lv_has ls 9 [(1, .int x1), (2, .int x2), (3, .int x3), (4, .long x4), (6, .long x6), (8, .int x8)] → W p l e rm_X6_above s m args below meth c H locs 0 0 (MQ below (qR K (some (.long r)) S' M o g) args s 0 0 (inA K)) (F0 m 43 ls []) := by
  obtain ⟨hx, hb, hml, hown, hts, hr, hlk, hN⟩ := id Cc
  have hcl : 0 ≤ (rm_X6_above).cells := Nat.zero_le _
  have hsl : 0 ≤ (rm_X6_above).slots := Nat.zero_le _
  induction n with
  | zero => intro x1 x2 x3 x4 x6 x8 S H locs hP hD hS h; cases h
  | succ n ih =>
    intro x1 x2 x3 x4 x6 x8 S H locs hP hD hS h ls hl
    rw [G_X6_above_43] at h
    refine lv_iload hx hb dX6_above_43 (lv_at hl 5 rfl) ?_
    refine lv_iload_n hx hb dX6_above_45 rfl (lv_at hl 2 rfl) ?_
    refine lv_icmp_gt (tgt := 82) hx hb dX6_above_46 (by decide) (fun c1 => ?_) (fun c1 => ?_)
    · have h := gn_t h c1
      refine lv_lload hx hb dX6_above_82 (lv_at hl 4 rfl) ?_
      obtain ⟨rfl, rfl⟩ := Prod.mk.inj (gn_some h)
      exact W.lret hx hb hr (fun t ht _ => ⟨rfl, by rw [ht]; exact hP, hD, hS.F ht⟩) hS.2.2 dX6_above_84 hlk
    · have h := gn_f h c1
      refine lv_iload_n hx hb dX6_above_49 rfl (lv_at hl 0 rfl) ?_
      refine lv_i2l hx hb dX6_above_50 rfl ?_
      refine lv_iload hx hb dX6_above_51 (lv_at hl 5 rfl) ?_
      refine lv_i2l hx hb dX6_above_53 rfl ?_
      obtain ⟨r2, qr2, h⟩ := gn_bd h
      refine pc_S (rest := []) ⟨hx, hb, hml, hown, hts⟩ hN (c_X5_twelfths l z _ _ r2 qr2) (va_cwS 2 hts gX6_above_X5_twelfths rfl rfl rfl (by decide +kernel) ⟨(Nat.le_of_ble_eq_true rfl), (Nat.le_of_ble_eq_true rfl)⟩) rfl hl.1 rfl (Nat.le_of_ble_eq_true rfl) dX6_above_54 hcl hsl ?_
      refine lv_iload_n hx hb dX6_above_57 rfl (lv_at hl 1 rfl) ?_
      refine lv_i2l hx hb dX6_above_58 rfl ?_
      refine lv_lmul hx hb dX6_above_59 ?_
      refine lv_lload hx hb dX6_above_60 (lv_at hl 3 rfl) ?_
      refine lv_iload hx hb dX6_above_62 (lv_at hl 5 rfl) ?_
      refine lv_i2l hx hb dX6_above_64 rfl ?_
      refine lv_lmul hx hb dX6_above_65 ?_
      refine ll_le (tgt := 76) hx hb dX6_above_66 dX6_above_67 (by decide) (fun c3 => ?_) (fun c3 => ?_)
      · have h := gn_t h c3
        obtain ⟨v4, ev4, h⟩ := gn_nm h
        refine lv_iinc (v := v4) (lv' := [(8, .int v4), (1, .int x1), (2, .int x2), (3, .int x3), (4, .long x4), (6, .long x6)]) hx hb dX6_above_76 hl (k := 5) rfl (by rw [ev4]; rfl) (by decide) rfl (fun ls hl => ?_)
        refine lv_goto (tgt := 43) hx hb dX6_above_79 (by decide) ?_
        exact ih x1 x2 x3 x4 x6 v4 S _ _ hP hD hS h ls (lv_sub hl [1, 2, 3, 4, 5, 0] rfl)
      · have h := gn_f h c3
        refine lv_lload hx hb dX6_above_70 (lv_at hl 4 rfl) ?_
        refine lv_lconst (v := (1 : Int64)) hx hb dX6_above_72 (by decide) ?_
        refine lv_ladd hx hb dX6_above_73 ?_
        obtain ⟨v5, ev5, h⟩ := gn_nm h
        refine ln_l ev5 ?_
        refine lv_lstore (lv' := [(6, .long v5), (1, .int x1), (2, .int x2), (3, .int x3), (4, .long x4), (8, .int x8)]) hx hb dX6_above_74 hl (by decide) rfl (fun ls hl => ?_)
        obtain ⟨v6, ev6, h⟩ := gn_nm h
        refine lv_iinc (v := v6) (lv' := [(8, .int v6), (6, .long v5), (1, .int x1), (2, .int x2), (3, .int x3), (4, .long x4)]) hx hb dX6_above_76 hl (k := 5) rfl (by rw [ev6]; rfl) (by decide) rfl (fun ls hl => ?_)
        refine lv_goto (tgt := 43) hx hb dX6_above_79 (by decide) ?_
        exact ih x1 x2 x3 x4 v5 v6 S _ _ hP hD hS h ls (lv_sub hl [2, 3, 4, 5, 1, 0] rfl)
end
set_option maxRecDepth 100000 in
theorem c_X6_above (l : Launch) (z : Nat) (K : Ev) (M : MS) (o : Nat → Int64) (g : Gh) (a0 : Int32) (a1 : Int32) (a2 : Int32) (S : CS) (r : Int64) (S' : CS) (h : F_X6_above z a0 a1 a2 S = some (r, S')) : Met l yX6_above wsX6_above rm_X6_above (qH K [.ref (K.2.2.1 0), .int a0, .int a1, .int a2] S M o g) (qR K (some (.long r)) S' M o g) 0 0 (inA K) := by
  refine Met.ofW (cc := cX6_above) (maxL := 9) (ret := (some .long)) (by decide) rfl ?_
  intro p e s m args below meth c s₁ B hml hv
  obtain ⟨rfl, hN, hP, hK, hD, hF⟩ := hv
  have hx := B.exec
  have hb := B.bytes
  have hr := B.returns
  have hts := atoms_spec (ws := wsX6_above) B.pre
  have hown : s.vm.findClass RX6 = some m.cls := findClass_of_methodNamed B.named
  have hlk := B.notSynchronized
  have hcl : 0 ≤ (rm_X6_above).cells := Nat.zero_le _
  have hsl : 0 ≤ (rm_X6_above).slots := Nat.zero_le _
  have Cc : Cx p s m _ meth c cX6_above 9 RX6 wsX6_above (some .long) := ⟨hx, hb, hml, hown, hts, hr, hlk, hN⟩
  have hS : va_S (inA K) s.heap s.heap [] := va_S.rf
  have hl := lv_entry ([.ref (K.2.2.1 0), .int a0, .int a1, .int a2]) (n := 9) (Nat.le_of_ble_eq_true rfl)
  rw [lg_entry_eq]
  generalize (lg_sl ([.ref (K.2.2.1 0), .int a0, .int a1, .int a2]) ++ List.replicate (9 - (lg_sl ([.ref (K.2.2.1 0), .int a0, .int a1, .int a2])).length) Slot.unset).toArray = ls at hl ⊢
  have hl : lv_has ls 9 [(0, .ref (K.2.2.1 0)), (1, .int a0), (2, .int a1), (3, .int a2)] := hl
  rw [F_X6_above] at h
  refine lv_iload_n hx hb dX6_above_0 rfl (lv_at hl 2 rfl) ?_
  refine lv_i2l hx hb dX6_above_1 rfl ?_
  refine lv_lconst (v := (1 : Int64)) hx hb dX6_above_2 (by decide) ?_
  refine lv_ldc2 hx hb hown (hts (.constantLong RX6 104 (1000)) (by decide +kernel)) dX6_above_3 ?_
  obtain ⟨r1, qr1, h⟩ := gn_bd h
  refine pc_S (rest := []) ⟨hx, hb, hml, hown, hts⟩ hN (c_X6_lies l z _ _ _ r1 qr1) (va_cwS 3 hts gX6_above_X6_lies rfl rfl rfl (by decide +kernel) ⟨(Nat.le_of_ble_eq_true rfl), (Nat.le_of_ble_eq_true rfl)⟩) rfl hl.1 rfl (Nat.le_of_ble_eq_true rfl) dX6_above_6 hcl hsl ?_
  refine lv_if_eq (tgt := 24) hx hb dX6_above_9 (by decide) (fun c2 => ?_) (fun c2 => ?_)
  · have h := gn_t h c2
    refine lv_ldc2 hx hb hown (hts (.constantLong RX6 67 (-4000000000000000000)) (by decide +kernel)) dX6_above_24 ?_
    obtain ⟨rfl, rfl⟩ := Prod.mk.inj (gn_some h)
    exact W.lret hx hb hr (fun t ht _ => ⟨rfl, by rw [ht]; exact hP, hD, hS.F ht⟩) hS.2.2 dX6_above_27 hlk
  · have h := gn_f h c2
    refine lv_iload_n hx hb dX6_above_12 rfl (lv_at hl 3 rfl) ?_
    refine lv_i2l hx hb dX6_above_13 rfl ?_
    refine lv_lconst (v := (1 : Int64)) hx hb dX6_above_14 (by decide) ?_
    refine lv_ldc2 hx hb hown (hts (.constantLong RX6 104 (1000)) (by decide +kernel)) dX6_above_15 ?_
    obtain ⟨r3, qr3, h⟩ := gn_bd h
    refine pc_S (rest := []) ⟨hx, hb, hml, hown, hts⟩ hN (c_X6_lies l z _ _ _ r3 qr3) (va_cwS 3 hts gX6_above_X6_lies rfl rfl rfl (by decide +kernel) ⟨(Nat.le_of_ble_eq_true rfl), (Nat.le_of_ble_eq_true rfl)⟩) rfl hl.1 rfl (Nat.le_of_ble_eq_true rfl) dX6_above_18 hcl hsl ?_
    refine lv_if_ne (tgt := 28) hx hb dX6_above_21 (by decide) (fun c4 => ?_) (fun c4 => ?_)
    · have h := gn_f h c4
      refine lv_iload_n hx hb dX6_above_28 rfl (lv_at hl 1 rfl) ?_
      refine lv_i2l hx hb dX6_above_29 rfl ?_
      refine lv_iload_n hx hb dX6_above_30 rfl (lv_at hl 2 rfl) ?_
      refine lv_i2l hx hb dX6_above_31 rfl ?_
      obtain ⟨r5, qr5, h⟩ := gn_bd h
      refine pc_S (rest := []) ⟨hx, hb, hml, hown, hts⟩ hN (c_X5_twelfths l z _ _ r5 qr5) (va_cwS 2 hts gX6_above_X5_twelfths rfl rfl rfl (by decide +kernel) ⟨(Nat.le_of_ble_eq_true rfl), (Nat.le_of_ble_eq_true rfl)⟩) rfl hl.1 rfl (Nat.le_of_ble_eq_true rfl) dX6_above_32 hcl hsl ?_
      refine lv_lstore (lv' := [(4, .long r5), (0, .ref (K.2.2.1 0)), (1, .int a0), (2, .int a1), (3, .int a2)]) hx hb dX6_above_35 hl (by decide) rfl (fun ls hl => ?_)
      refine lv_lconst (v := (0 : Int64)) hx hb dX6_above_37 (by decide) ?_
      refine lv_lstore (lv' := [(6, .long (0 : Int64)), (4, .long r5), (0, .ref (K.2.2.1 0)), (1, .int a0), (2, .int a1), (3, .int a2)]) hx hb dX6_above_38 hl (by decide) rfl (fun ls hl => ?_)
      refine lv_iconst (v := (1 : Int32)) hx hb dX6_above_40 (by decide) ?_
      refine lv_istore (lv' := [(8, .int (1 : Int32)), (6, .long (0 : Int64)), (4, .long r5), (0, .ref (K.2.2.1 0)), (1, .int a0), (2, .int a1), (3, .int a2)]) hx hb dX6_above_41 hl (by decide) rfl (fun ls hl => ?_)
      exact w_X6_above_43 Cc hK hF z a0 a1 a2 r5 (0 : Int64) (1 : Int32) S _ _ hP hD hS h ls (lv_sub hl [4, 5, 6, 2, 1, 0] rfl)
    · have h := gn_t h c4
      refine lv_ldc2 hx hb hown (hts (.constantLong RX6 67 (-4000000000000000000)) (by decide +kernel)) dX6_above_24 ?_
      obtain ⟨rfl, rfl⟩ := Prod.mk.inj (gn_some h)
      exact W.lret hx hb hr (fun t ht _ => ⟨rfl, by rw [ht]; exact hP, hD, hS.F ht⟩) hS.2.2 dX6_above_27 hlk

def rm_X6_chain : Room := { frames := 2, cells := 0, slots := 0, locals := 54 }
section
variable {p : Program} {l : Launch} {e : Env} {s : State} {m : MethodId} {args : Array Value} {below : List Frame} {meth : Method} {c : Code} {z : Nat} {K : Ev} {M : MS} {o : Nat → Int64} {g : Gh}
set_option maxRecDepth 100000 in
theorem w_X6_chain_39 (Cc : Cx p s m args meth c cX6_chain 8 RX6 wsX6_chain (some .int)) (hK : va_K K.1 vwCl (tysOf K) s) (hF : SF K s) {r : Int32} {S' : CS} (n : Nat) : ∀ (x3 : Int32) (x4 : Int32) (x5 : Int32) (x6 : Int32) (S : CS) (H : Heap) (locs : List Loc), va_P K.1 vwCl (wd K S M o g) H → va_D (inA K) (wd K S M o g) → va_S (inA K) s.heap H locs → G_X6_chain_39 z n x3 x4 x5 x6 S = some (r, S') → ∀ ls, lv_has ls 8 [(3, .int x3), (4, .int x4), (5, .int x5), (6, .int x6)] → W p l e rm_X6_chain s m args below meth c H locs 0 0 (MQ below (qR K (some (.int r)) S' M o g) args s 0 0 (inA K)) (F0 m 39 ls []) := by
  obtain ⟨hx, hb, hml, hown, hts, hr, hlk, hN⟩ := id Cc
  have hcl : 0 ≤ (rm_X6_chain).cells := Nat.zero_le _
  have hsl : 0 ≤ (rm_X6_chain).slots := Nat.zero_le _
  induction n with
  | zero => intro x3 x4 x5 x6 S H locs hP hD hS h; cases h
  | succ n ih =>
    intro x3 x4 x5 x6 S H locs hP hD hS h ls hl
    rw [G_X6_chain_39] at h
    refine lv_iload hx hb dX6_chain_39 (lv_at hl 3 rfl) ?_
    refine lv_sipush (v := (200 : Int32)) hx hb dX6_chain_41 (by decide) ?_
    refine lv_icmp_ge (tgt := 85) hx hb dX6_chain_44 (by decide) (fun c1 => ?_) (fun c1 => ?_)
    · have h := gn_t h c1
      refine lv_iload_n hx hb dX6_chain_85 rfl (lv_at hl 0 rfl) ?_
      refine lv_iconst (v := (-1 : Int32)) hx hb dX6_chain_86 (by decide) ?_
      refine lv_icmp_ne (tgt := 95) hx hb dX6_chain_87 (by decide) (fun c2 => ?_) (fun c2 => ?_)
      · have h := gn_f h c2
        refine lv_iconst (v := (-1 : Int32)) hx hb dX6_chain_95 (by decide) ?_
        obtain ⟨rfl, rfl⟩ := Prod.mk.inj (gn_some h)
        exact W.iret hx hb hr (fun t ht _ => ⟨rfl, by rw [ht]; exact hP, hD, hS.F ht⟩) hS.2.2 dX6_chain_96 hlk
      · have h := gn_t h c2
        refine lv_iload hx hb dX6_chain_90 (lv_at hl 3 rfl) ?_
        refine lv_goto (tgt := 96) hx hb dX6_chain_92 (by decide) ?_
        obtain ⟨rfl, rfl⟩ := Prod.mk.inj (gn_some h)
        exact W.iret hx hb hr (fun t ht _ => ⟨rfl, by rw [ht]; exact hP, hD, hS.F ht⟩) hS.2.2 dX6_chain_96 hlk
    · have h := gn_f h c1
      refine lv_iload hx hb dX6_chain_47 (lv_at hl 1 rfl) ?_
      refine lv_if_eq (tgt := 85) hx hb dX6_chain_49 (by decide) (fun c3 => ?_) (fun c3 => ?_)
      · have h := gn_t h c3
        refine lv_iload_n hx hb dX6_chain_85 rfl (lv_at hl 0 rfl) ?_
        refine lv_iconst (v := (-1 : Int32)) hx hb dX6_chain_86 (by decide) ?_
        refine lv_icmp_ne (tgt := 95) hx hb dX6_chain_87 (by decide) (fun c4 => ?_) (fun c4 => ?_)
        · have h := gn_f h c4
          refine lv_iconst (v := (-1 : Int32)) hx hb dX6_chain_95 (by decide) ?_
          obtain ⟨rfl, rfl⟩ := Prod.mk.inj (gn_some h)
          exact W.iret hx hb hr (fun t ht _ => ⟨rfl, by rw [ht]; exact hP, hD, hS.F ht⟩) hS.2.2 dX6_chain_96 hlk
        · have h := gn_t h c4
          refine lv_iload hx hb dX6_chain_90 (lv_at hl 3 rfl) ?_
          refine lv_goto (tgt := 96) hx hb dX6_chain_92 (by decide) ?_
          obtain ⟨rfl, rfl⟩ := Prod.mk.inj (gn_some h)
          exact W.iret hx hb hr (fun t ht _ => ⟨rfl, by rw [ht]; exact hP, hD, hS.F ht⟩) hS.2.2 dX6_chain_96 hlk
      · have h := gn_f h c3
        refine lv_iload hx hb dX6_chain_52 (lv_at hl 3 rfl) ?_
        refine lv_iload_n hx hb dX6_chain_54 rfl (lv_at hl 0 rfl) ?_
        refine lv_icmp_ne (tgt := 64) hx hb dX6_chain_55 (by decide) (fun c5 => ?_) (fun c5 => ?_)
        · have h := gn_f h c5
          refine lv_iload hx hb dX6_chain_64 (lv_at hl 2 rfl) ?_
          refine lv_iload hx hb dX6_chain_66 (lv_at hl 1 rfl) ?_
          obtain ⟨n6, h⟩ := gn_nz h
          refine lv_irem hx hb dX6_chain_68 n6 ?_
          obtain ⟨v7, ev7, h⟩ := gn_nm h
          refine ln_i ev7 ?_
          refine lv_istore (lv' := [(7, .int v7), (3, .int x3), (4, .int x4), (5, .int x5), (6, .int x6)]) hx hb dX6_chain_69 hl (by decide) rfl (fun ls hl => ?_)
          refine lv_iload hx hb dX6_chain_71 (lv_at hl 2 rfl) ?_
          refine lv_istore (lv' := [(5, .int x4), (7, .int v7), (3, .int x3), (4, .int x4), (6, .int x6)]) hx hb dX6_chain_73 hl (by decide) rfl (fun ls hl => ?_)
          refine lv_iload hx hb dX6_chain_75 (lv_at hl 1 rfl) ?_
          refine lv_istore (lv' := [(4, .int v7), (5, .int x4), (7, .int v7), (3, .int x3), (6, .int x6)]) hx hb dX6_chain_77 hl (by decide) rfl (fun ls hl => ?_)
          obtain ⟨v8, ev8, h⟩ := gn_nm h
          refine lv_iinc (v := v8) (lv' := [(6, .int v8), (4, .int v7), (5, .int x4), (7, .int v7), (3, .int x3)]) hx hb dX6_chain_79 hl (k := 4) rfl (by rw [ev8]; rfl) (by decide) rfl (fun ls hl => ?_)
          refine lv_goto (tgt := 39) hx hb dX6_chain_82 (by decide) ?_
          exact ih x3 v7 x4 v8 S _ _ hP hD hS h ls (lv_sub hl [4, 1, 2, 0] rfl)
        · have h := gn_t h c5
          refine lv_iload hx hb dX6_chain_58 (lv_at hl 2 rfl) ?_
          refine lv_iload hx hb dX6_chain_60 (lv_at hl 1 rfl) ?_
          obtain ⟨n9, h⟩ := gn_nz h
          refine lv_idiv hx hb dX6_chain_62 n9 ?_
          obtain ⟨rfl, rfl⟩ := Prod.mk.inj (gn_some h)
          exact W.iret hx hb hr (fun t ht _ => ⟨rfl, by rw [ht]; exact hP, hD, hS.F ht⟩) hS.2.2 dX6_chain_63 hlk
end
set_option maxRecDepth 100000 in
theorem c_X6_chain (l : Launch) (z : Nat) (K : Ev) (M : MS) (o : Nat → Int64) (g : Gh) (a0 : Int32) (a1 : Int32) (a2 : Int32) (S : CS) (r : Int32) (S' : CS) (h : F_X6_chain z a0 a1 a2 S = some (r, S')) : Met l yX6_chain wsX6_chain rm_X6_chain (qH K [.ref (K.2.2.1 0), .int a0, .int a1, .int a2] S M o g) (qR K (some (.int r)) S' M o g) 0 0 (inA K) := by
  refine Met.ofW (cc := cX6_chain) (maxL := 8) (ret := (some .int)) (by decide) rfl ?_
  intro p e s m args below meth c s₁ B hml hv
  obtain ⟨rfl, hN, hP, hK, hD, hF⟩ := hv
  have hx := B.exec
  have hb := B.bytes
  have hr := B.returns
  have hts := atoms_spec (ws := wsX6_chain) B.pre
  have hown : s.vm.findClass RX6 = some m.cls := findClass_of_methodNamed B.named
  have hlk := B.notSynchronized
  have hcl : 0 ≤ (rm_X6_chain).cells := Nat.zero_le _
  have hsl : 0 ≤ (rm_X6_chain).slots := Nat.zero_le _
  have Cc : Cx p s m _ meth c cX6_chain 8 RX6 wsX6_chain (some .int) := ⟨hx, hb, hml, hown, hts, hr, hlk, hN⟩
  have hS : va_S (inA K) s.heap s.heap [] := va_S.rf
  have hl := lv_entry ([.ref (K.2.2.1 0), .int a0, .int a1, .int a2]) (n := 8) (Nat.le_of_ble_eq_true rfl)
  rw [lg_entry_eq]
  generalize (lg_sl ([.ref (K.2.2.1 0), .int a0, .int a1, .int a2]) ++ List.replicate (8 - (lg_sl ([.ref (K.2.2.1 0), .int a0, .int a1, .int a2])).length) Slot.unset).toArray = ls at hl ⊢
  have hl : lv_has ls 8 [(0, .ref (K.2.2.1 0)), (1, .int a0), (2, .int a1), (3, .int a2)] := hl
  rw [F_X6_chain] at h
  refine lv_iload_n hx hb dX6_chain_0 rfl (lv_at hl 2 rfl) ?_
  refine lv_i2l hx hb dX6_chain_1 rfl ?_
  refine lv_lconst (v := (1 : Int64)) hx hb dX6_chain_2 (by decide) ?_
  refine lv_ldc2 hx hb hown (hts (.constantLong RX6 61 (1000000000)) (by decide +kernel)) dX6_chain_3 ?_
  obtain ⟨r1, qr1, h⟩ := gn_bd h
  refine pc_S (rest := []) ⟨hx, hb, hml, hown, hts⟩ hN (c_X6_lies l z _ _ _ r1 qr1) (va_cwS 3 hts gX6_chain_X6_lies rfl rfl rfl (by decide +kernel) ⟨(Nat.le_of_ble_eq_true rfl), (Nat.le_of_ble_eq_true rfl)⟩) rfl hl.1 rfl (Nat.le_of_ble_eq_true rfl) dX6_chain_6 hcl hsl ?_
  refine lv_if_eq (tgt := 24) hx hb dX6_chain_9 (by decide) (fun c2 => ?_) (fun c2 => ?_)
  · have h := gn_t h c2
    refine lv_iconst (v := (-1 : Int32)) hx hb dX6_chain_24 (by decide) ?_
    obtain ⟨rfl, rfl⟩ := Prod.mk.inj (gn_some h)
    exact W.iret hx hb hr (fun t ht _ => ⟨rfl, by rw [ht]; exact hP, hD, hS.F ht⟩) hS.2.2 dX6_chain_25 hlk
  · have h := gn_f h c2
    refine lv_iload_n hx hb dX6_chain_12 rfl (lv_at hl 1 rfl) ?_
    refine lv_i2l hx hb dX6_chain_13 rfl ?_
    refine lv_iload_n hx hb dX6_chain_14 rfl (lv_at hl 2 rfl) ?_
    refine lv_i2l hx hb dX6_chain_15 rfl ?_
    obtain ⟨r3, qr3, h⟩ := gn_bd h
    refine pc_S (rest := []) ⟨hx, hb, hml, hown, hts⟩ hN (c_X5_divisor l z _ _ r3 qr3) (va_cwS 2 hts gX6_chain_X5_divisor rfl rfl rfl (by decide +kernel) ⟨(Nat.le_of_ble_eq_true rfl), (Nat.le_of_ble_eq_true rfl)⟩) rfl hl.1 rfl (Nat.le_of_ble_eq_true rfl) dX6_chain_16 hcl hsl ?_
    refine lv_lconst (v := (1 : Int64)) hx hb dX6_chain_19 (by decide) ?_
    refine ll_eq (tgt := 26) hx hb dX6_chain_20 dX6_chain_21 (by decide) (fun c4 => ?_) (fun c4 => ?_)
    · have h := gn_t h c4
      refine lv_iload_n hx hb dX6_chain_26 rfl (lv_at hl 1 rfl) ?_
      refine lv_iload_n hx hb dX6_chain_27 rfl (lv_at hl 2 rfl) ?_
      obtain ⟨r5, qr5, h⟩ := gn_bd h
      refine pc_S (rest := []) ⟨hx, hb, hml, hown, hts⟩ hN (c_J9_floorMod_7cf53 l z _ _ r5 qr5) (va_cwS 2 hts gX6_chain_J9_floorMod_7cf53 rfl rfl rfl (by decide +kernel) ⟨(Nat.le_of_ble_eq_true rfl), (Nat.le_of_ble_eq_true rfl)⟩) rfl hl.1 rfl (Nat.le_of_ble_eq_true rfl) dX6_chain_28 hcl hsl ?_
      refine lv_istore (lv' := [(4, .int r5), (0, .ref (K.2.2.1 0)), (1, .int a0), (2, .int a1), (3, .int a2)]) hx hb dX6_chain_31 hl (by decide) rfl (fun ls hl => ?_)
      refine lv_iload_n hx hb dX6_chain_33 rfl (lv_at hl 3 rfl) ?_
      refine lv_istore (lv' := [(5, .int a1), (4, .int r5), (0, .ref (K.2.2.1 0)), (1, .int a0), (2, .int a1), (3, .int a2)]) hx hb dX6_chain_34 hl (by decide) rfl (fun ls hl => ?_)
      refine lv_iconst (v := (0 : Int32)) hx hb dX6_chain_36 (by decide) ?_
      refine lv_istore (lv' := [(6, .int (0 : Int32)), (5, .int a1), (4, .int r5), (0, .ref (K.2.2.1 0)), (1, .int a0), (2, .int a1), (3, .int a2)]) hx hb dX6_chain_37 hl (by decide) rfl (fun ls hl => ?_)
      exact w_X6_chain_39 Cc hK hF z a2 r5 a1 (0 : Int32) S _ _ hP hD hS h ls (lv_sub hl [6, 2, 1, 0] rfl)
    · have h := gn_f h c4
      refine lv_iconst (v := (-1 : Int32)) hx hb dX6_chain_24 (by decide) ?_
      obtain ⟨rfl, rfl⟩ := Prod.mk.inj (gn_some h)
      exact W.iret hx hb hr (fun t ht _ => ⟨rfl, by rw [ht]; exact hP, hD, hS.F ht⟩) hS.2.2 dX6_chain_25 hlk

def rm_X6_minus : Room := { frames := 2, cells := 0, slots := 0, locals := 54 }
section
variable {p : Program} {l : Launch} {e : Env} {s : State} {m : MethodId} {args : Array Value} {below : List Frame} {meth : Method} {c : Code} {z : Nat} {K : Ev} {M : MS} {o : Nat → Int64} {g : Gh}
set_option maxRecDepth 100000 in
theorem w_X6_minus_39 (Cc : Cx p s m args meth c cX6_minus 9 RX6 wsX6_minus (some .int)) (hK : va_K K.1 vwCl (tysOf K) s) (hF : SF K s) {r : Int32} {S' : CS} (n : Nat) : ∀ (x3 : Int32) (x4 : Int32) (x5 : Int32) (x6 : Int32) (S : CS) (H : Heap) (locs : List Loc), va_P K.1 vwCl (wd K S M o g) H → va_D (inA K) (wd K S M o g) → va_S (inA K) s.heap H locs → G_X6_minus_39 z n x3 x4 x5 x6 S = some (r, S') → ∀ ls, lv_has ls 9 [(3, .int x3), (4, .int x4), (5, .int x5), (6, .int x6)] → W p l e rm_X6_minus s m args below meth c H locs 0 0 (MQ below (qR K (some (.int r)) S' M o g) args s 0 0 (inA K)) (F0 m 39 ls []) := by
  obtain ⟨hx, hb, hml, hown, hts, hr, hlk, hN⟩ := id Cc
  have hcl : 0 ≤ (rm_X6_minus).cells := Nat.zero_le _
  have hsl : 0 ≤ (rm_X6_minus).slots := Nat.zero_le _
  induction n with
  | zero => intro x3 x4 x5 x6 S H locs hP hD hS h; cases h
  | succ n ih =>
    intro x3 x4 x5 x6 S H locs hP hD hS h ls hl
    rw [G_X6_minus_39] at h
    refine lv_iload hx hb dX6_minus_39 (lv_at hl 3 rfl) ?_
    refine lv_sipush (v := (10000 : Int32)) hx hb dX6_minus_41 (by decide) ?_
    refine lv_icmp_ge (tgt := 97) hx hb dX6_minus_44 (by decide) (fun c1 => ?_) (fun c1 => ?_)
    · have h := gn_t h c1
      refine lv_iload_n hx hb dX6_minus_97 rfl (lv_at hl 0 rfl) ?_
      refine lv_iconst (v := (-1 : Int32)) hx hb dX6_minus_98 (by decide) ?_
      refine lv_icmp_ne (tgt := 107) hx hb dX6_minus_99 (by decide) (fun c2 => ?_) (fun c2 => ?_)
      · have h := gn_f h c2
        refine lv_iconst (v := (-1 : Int32)) hx hb dX6_minus_107 (by decide) ?_
        obtain ⟨rfl, rfl⟩ := Prod.mk.inj (gn_some h)
        exact W.iret hx hb hr (fun t ht _ => ⟨rfl, by rw [ht]; exact hP, hD, hS.F ht⟩) hS.2.2 dX6_minus_108 hlk
      · have h := gn_t h c2
        refine lv_iload hx hb dX6_minus_102 (lv_at hl 3 rfl) ?_
        refine lv_goto (tgt := 108) hx hb dX6_minus_104 (by decide) ?_
        obtain ⟨rfl, rfl⟩ := Prod.mk.inj (gn_some h)
        exact W.iret hx hb hr (fun t ht _ => ⟨rfl, by rw [ht]; exact hP, hD, hS.F ht⟩) hS.2.2 dX6_minus_108 hlk
    · have h := gn_f h c1
      refine lv_iload hx hb dX6_minus_47 (lv_at hl 1 rfl) ?_
      refine lv_if_eq (tgt := 97) hx hb dX6_minus_49 (by decide) (fun c3 => ?_) (fun c3 => ?_)
      · have h := gn_t h c3
        refine lv_iload_n hx hb dX6_minus_97 rfl (lv_at hl 0 rfl) ?_
        refine lv_iconst (v := (-1 : Int32)) hx hb dX6_minus_98 (by decide) ?_
        refine lv_icmp_ne (tgt := 107) hx hb dX6_minus_99 (by decide) (fun c4 => ?_) (fun c4 => ?_)
        · have h := gn_f h c4
          refine lv_iconst (v := (-1 : Int32)) hx hb dX6_minus_107 (by decide) ?_
          obtain ⟨rfl, rfl⟩ := Prod.mk.inj (gn_some h)
          exact W.iret hx hb hr (fun t ht _ => ⟨rfl, by rw [ht]; exact hP, hD, hS.F ht⟩) hS.2.2 dX6_minus_108 hlk
        · have h := gn_t h c4
          refine lv_iload hx hb dX6_minus_102 (lv_at hl 3 rfl) ?_
          refine lv_goto (tgt := 108) hx hb dX6_minus_104 (by decide) ?_
          obtain ⟨rfl, rfl⟩ := Prod.mk.inj (gn_some h)
          exact W.iret hx hb hr (fun t ht _ => ⟨rfl, by rw [ht]; exact hP, hD, hS.F ht⟩) hS.2.2 dX6_minus_108 hlk
      · have h := gn_f h c3
        refine lv_iload hx hb dX6_minus_52 (lv_at hl 2 rfl) ?_
        refine lv_iload hx hb dX6_minus_54 (lv_at hl 1 rfl) ?_
        refine lv_iadd hx hb dX6_minus_56 ?_
        refine lv_iconst (v := (1 : Int32)) hx hb dX6_minus_57 (by decide) ?_
        refine lv_isub hx hb dX6_minus_58 ?_
        refine lv_iload hx hb dX6_minus_59 (lv_at hl 1 rfl) ?_
        obtain ⟨n5, h⟩ := gn_nz h
        refine lv_idiv hx hb dX6_minus_61 n5 ?_
        obtain ⟨v6, ev6, h⟩ := gn_nm h
        refine ln_i ev6 ?_
        refine lv_istore (lv' := [(7, .int v6), (3, .int x3), (4, .int x4), (5, .int x5), (6, .int x6)]) hx hb dX6_minus_62 hl (by decide) rfl (fun ls hl => ?_)
        refine lv_iload hx hb dX6_minus_64 (lv_at hl 4 rfl) ?_
        refine lv_iload_n hx hb dX6_minus_66 rfl (lv_at hl 1 rfl) ?_
        refine lv_icmp_ne (tgt := 73) hx hb dX6_minus_67 (by decide) (fun c7 => ?_) (fun c7 => ?_)
        · have h := gn_f h c7
          refine lv_iload hx hb dX6_minus_73 (lv_at hl 0 rfl) ?_
          refine lv_iload hx hb dX6_minus_75 (lv_at hl 2 rfl) ?_
          refine lv_imul hx hb dX6_minus_77 ?_
          refine lv_iload hx hb dX6_minus_78 (lv_at hl 3 rfl) ?_
          refine lv_isub hx hb dX6_minus_80 ?_
          obtain ⟨v8, ev8, h⟩ := gn_nm h
          refine ln_i ev8 ?_
          refine lv_istore (lv' := [(8, .int v8), (7, .int v6), (3, .int x3), (4, .int x4), (5, .int x5), (6, .int x6)]) hx hb dX6_minus_81 hl (by decide) rfl (fun ls hl => ?_)
          refine lv_iload hx hb dX6_minus_83 (lv_at hl 3 rfl) ?_
          refine lv_istore (lv' := [(5, .int x4), (8, .int v8), (7, .int v6), (3, .int x3), (4, .int x4), (6, .int x6)]) hx hb dX6_minus_85 hl (by decide) rfl (fun ls hl => ?_)
          refine lv_iload hx hb dX6_minus_87 (lv_at hl 1 rfl) ?_
          refine lv_istore (lv' := [(4, .int v8), (5, .int x4), (8, .int v8), (7, .int v6), (3, .int x3), (6, .int x6)]) hx hb dX6_minus_89 hl (by decide) rfl (fun ls hl => ?_)
          obtain ⟨v9, ev9, h⟩ := gn_nm h
          refine lv_iinc (v := v9) (lv' := [(6, .int v9), (4, .int v8), (5, .int x4), (8, .int v8), (7, .int v6), (3, .int x3)]) hx hb dX6_minus_91 hl (k := 5) rfl (by rw [ev9]; rfl) (by decide) rfl (fun ls hl => ?_)
          refine lv_goto (tgt := 39) hx hb dX6_minus_94 (by decide) ?_
          exact ih x3 v8 x4 v9 S _ _ hP hD hS h ls (lv_sub hl [5, 1, 2, 0] rfl)
        · have h := gn_t h c7
          refine lv_iload hx hb dX6_minus_70 (lv_at hl 0 rfl) ?_
          obtain ⟨rfl, rfl⟩ := Prod.mk.inj (gn_some h)
          exact W.iret hx hb hr (fun t ht _ => ⟨rfl, by rw [ht]; exact hP, hD, hS.F ht⟩) hS.2.2 dX6_minus_72 hlk
end
set_option maxRecDepth 100000 in
theorem c_X6_minus (l : Launch) (z : Nat) (K : Ev) (M : MS) (o : Nat → Int64) (g : Gh) (a0 : Int32) (a1 : Int32) (a2 : Int32) (S : CS) (r : Int32) (S' : CS) (h : F_X6_minus z a0 a1 a2 S = some (r, S')) : Met l yX6_minus wsX6_minus rm_X6_minus (qH K [.ref (K.2.2.1 0), .int a0, .int a1, .int a2] S M o g) (qR K (some (.int r)) S' M o g) 0 0 (inA K) := by
  refine Met.ofW (cc := cX6_minus) (maxL := 9) (ret := (some .int)) (by decide) rfl ?_
  intro p e s m args below meth c s₁ B hml hv
  obtain ⟨rfl, hN, hP, hK, hD, hF⟩ := hv
  have hx := B.exec
  have hb := B.bytes
  have hr := B.returns
  have hts := atoms_spec (ws := wsX6_minus) B.pre
  have hown : s.vm.findClass RX6 = some m.cls := findClass_of_methodNamed B.named
  have hlk := B.notSynchronized
  have hcl : 0 ≤ (rm_X6_minus).cells := Nat.zero_le _
  have hsl : 0 ≤ (rm_X6_minus).slots := Nat.zero_le _
  have Cc : Cx p s m _ meth c cX6_minus 9 RX6 wsX6_minus (some .int) := ⟨hx, hb, hml, hown, hts, hr, hlk, hN⟩
  have hS : va_S (inA K) s.heap s.heap [] := va_S.rf
  have hl := lv_entry ([.ref (K.2.2.1 0), .int a0, .int a1, .int a2]) (n := 9) (Nat.le_of_ble_eq_true rfl)
  rw [lg_entry_eq]
  generalize (lg_sl ([.ref (K.2.2.1 0), .int a0, .int a1, .int a2]) ++ List.replicate (9 - (lg_sl ([.ref (K.2.2.1 0), .int a0, .int a1, .int a2])).length) Slot.unset).toArray = ls at hl ⊢
  have hl : lv_has ls 9 [(0, .ref (K.2.2.1 0)), (1, .int a0), (2, .int a1), (3, .int a2)] := hl
  rw [F_X6_minus] at h
  refine lv_iload_n hx hb dX6_minus_0 rfl (lv_at hl 2 rfl) ?_
  refine lv_i2l hx hb dX6_minus_1 rfl ?_
  refine lv_lconst (v := (1 : Int64)) hx hb dX6_minus_2 (by decide) ?_
  refine lv_ldc2 hx hb hown (hts (.constantLong RX6 113 (10000)) (by decide +kernel)) dX6_minus_3 ?_
  obtain ⟨r1, qr1, h⟩ := gn_bd h
  refine pc_S (rest := []) ⟨hx, hb, hml, hown, hts⟩ hN (c_X6_lies l z _ _ _ r1 qr1) (va_cwS 3 hts gX6_minus_X6_lies rfl rfl rfl (by decide +kernel) ⟨(Nat.le_of_ble_eq_true rfl), (Nat.le_of_ble_eq_true rfl)⟩) rfl hl.1 rfl (Nat.le_of_ble_eq_true rfl) dX6_minus_6 hcl hsl ?_
  refine lv_if_eq (tgt := 24) hx hb dX6_minus_9 (by decide) (fun c2 => ?_) (fun c2 => ?_)
  · have h := gn_t h c2
    refine lv_iconst (v := (-1 : Int32)) hx hb dX6_minus_24 (by decide) ?_
    obtain ⟨rfl, rfl⟩ := Prod.mk.inj (gn_some h)
    exact W.iret hx hb hr (fun t ht _ => ⟨rfl, by rw [ht]; exact hP, hD, hS.F ht⟩) hS.2.2 dX6_minus_25 hlk
  · have h := gn_f h c2
    refine lv_iload_n hx hb dX6_minus_12 rfl (lv_at hl 1 rfl) ?_
    refine lv_i2l hx hb dX6_minus_13 rfl ?_
    refine lv_iload_n hx hb dX6_minus_14 rfl (lv_at hl 2 rfl) ?_
    refine lv_i2l hx hb dX6_minus_15 rfl ?_
    obtain ⟨r3, qr3, h⟩ := gn_bd h
    refine pc_S (rest := []) ⟨hx, hb, hml, hown, hts⟩ hN (c_X5_divisor l z _ _ r3 qr3) (va_cwS 2 hts gX6_minus_X5_divisor rfl rfl rfl (by decide +kernel) ⟨(Nat.le_of_ble_eq_true rfl), (Nat.le_of_ble_eq_true rfl)⟩) rfl hl.1 rfl (Nat.le_of_ble_eq_true rfl) dX6_minus_16 hcl hsl ?_
    refine lv_lconst (v := (1 : Int64)) hx hb dX6_minus_19 (by decide) ?_
    refine ll_eq (tgt := 26) hx hb dX6_minus_20 dX6_minus_21 (by decide) (fun c4 => ?_) (fun c4 => ?_)
    · have h := gn_t h c4
      refine lv_iload_n hx hb dX6_minus_26 rfl (lv_at hl 1 rfl) ?_
      refine lv_iload_n hx hb dX6_minus_27 rfl (lv_at hl 2 rfl) ?_
      obtain ⟨r5, qr5, h⟩ := gn_bd h
      refine pc_S (rest := []) ⟨hx, hb, hml, hown, hts⟩ hN (c_J9_floorMod_7cf53 l z _ _ r5 qr5) (va_cwS 2 hts gX6_minus_J9_floorMod_7cf53 rfl rfl rfl (by decide +kernel) ⟨(Nat.le_of_ble_eq_true rfl), (Nat.le_of_ble_eq_true rfl)⟩) rfl hl.1 rfl (Nat.le_of_ble_eq_true rfl) dX6_minus_28 hcl hsl ?_
      refine lv_istore (lv' := [(4, .int r5), (0, .ref (K.2.2.1 0)), (1, .int a0), (2, .int a1), (3, .int a2)]) hx hb dX6_minus_31 hl (by decide) rfl (fun ls hl => ?_)
      refine lv_iload_n hx hb dX6_minus_33 rfl (lv_at hl 3 rfl) ?_
      refine lv_istore (lv' := [(5, .int a1), (4, .int r5), (0, .ref (K.2.2.1 0)), (1, .int a0), (2, .int a1), (3, .int a2)]) hx hb dX6_minus_34 hl (by decide) rfl (fun ls hl => ?_)
      refine lv_iconst (v := (0 : Int32)) hx hb dX6_minus_36 (by decide) ?_
      refine lv_istore (lv' := [(6, .int (0 : Int32)), (5, .int a1), (4, .int r5), (0, .ref (K.2.2.1 0)), (1, .int a0), (2, .int a1), (3, .int a2)]) hx hb dX6_minus_37 hl (by decide) rfl (fun ls hl => ?_)
      exact w_X6_minus_39 Cc hK hF z a2 r5 a1 (0 : Int32) S _ _ hP hD hS h ls (lv_sub hl [6, 2, 1, 0] rfl)
    · have h := gn_f h c4
      refine lv_iconst (v := (-1 : Int32)) hx hb dX6_minus_24 (by decide) ?_
      obtain ⟨rfl, rfl⟩ := Prod.mk.inj (gn_some h)
      exact W.iret hx hb hr (fun t ht _ => ⟨rfl, by rw [ht]; exact hP, hD, hS.F ht⟩) hS.2.2 dX6_minus_25 hlk

def rm_X6_alike : Room := { frames := 2, cells := 0, slots := 0, locals := 69 }
section
variable {p : Program} {l : Launch} {e : Env} {s : State} {m : MethodId} {args : Array Value} {below : List Frame} {meth : Method} {c : Code} {z : Nat} {K : Ev} {M : MS} {o : Nat → Int64} {g : Gh}
set_option maxRecDepth 100000 in
theorem w_X6_alike_29 (Cc : Cx p s m args meth c cX6_alike 8 RX6 wsX6_alike (some .int)) (hK : va_K K.1 vwCl (tysOf K) s) (hF : SF K s) {r : Int32} {S' : CS} (n : Nat) : ∀ (x2 : Int32) (x3 : Int32) (x4 : Int64) (x6 : Int32) (x7 : Int32) (S : CS) (H : Heap) (locs : List Loc), va_P K.1 vwCl (wd K S M o g) H → va_D (inA K) (wd K S M o g) → va_S (inA K) s.heap H locs → G_X6_alike_29 z n x2 x3 x4 x6 x7 S = some (r, S') → ∀ ls, lv_has ls 8 [(2, .int x2), (3, .int x3), (4, .long x4), (6, .int x6), (7, .int x7)] → W p l e rm_X6_alike s m args below meth c H locs 0 0 (MQ below (qR K (some (.int r)) S' M o g) args s 0 0 (inA K)) (F0 m 29 ls []) := by
  obtain ⟨hx, hb, hml, hown, hts, hr, hlk, hN⟩ := id Cc
  have hcl : 0 ≤ (rm_X6_alike).cells := Nat.zero_le _
  have hsl : 0 ≤ (rm_X6_alike).slots := Nat.zero_le _
  induction n with
  | zero => intro x2 x3 x4 x6 x7 S H locs hP hD hS h; cases h
  | succ n ih =>
    intro x2 x3 x4 x6 x7 S H locs hP hD hS h ls hl
    rw [G_X6_alike_29] at h
    refine lv_iload hx hb dX6_alike_29 (lv_at hl 4 rfl) ?_
    refine lv_iload_n hx hb dX6_alike_31 rfl (lv_at hl 0 rfl) ?_
    refine lv_icmp_ge (tgt := 80) hx hb dX6_alike_32 (by decide) (fun c1 => ?_) (fun c1 => ?_)
    · have h := gn_t h c1
      refine lv_iload_n hx hb dX6_alike_80 rfl (lv_at hl 1 rfl) ?_
      refine lv_iconst (v := (-1 : Int32)) hx hb dX6_alike_81 (by decide) ?_
      refine lv_icmp_ne (tgt := 90) hx hb dX6_alike_82 (by decide) (fun c2 => ?_) (fun c2 => ?_)
      · have h := gn_f h c2
        refine lv_iconst (v := (-1 : Int32)) hx hb dX6_alike_90 (by decide) ?_
        obtain ⟨rfl, rfl⟩ := Prod.mk.inj (gn_some h)
        exact W.iret hx hb hr (fun t ht _ => ⟨rfl, by rw [ht]; exact hP, hD, hS.F ht⟩) hS.2.2 dX6_alike_91 hlk
      · have h := gn_t h c2
        refine lv_iload hx hb dX6_alike_85 (lv_at hl 3 rfl) ?_
        refine lv_goto (tgt := 91) hx hb dX6_alike_87 (by decide) ?_
        obtain ⟨rfl, rfl⟩ := Prod.mk.inj (gn_some h)
        exact W.iret hx hb hr (fun t ht _ => ⟨rfl, by rw [ht]; exact hP, hD, hS.F ht⟩) hS.2.2 dX6_alike_91 hlk
    · have h := gn_f h c1
      refine lv_iload hx hb dX6_alike_35 (lv_at hl 4 rfl) ?_
      refine lv_i2l hx hb dX6_alike_37 rfl ?_
      refine lv_iload_n hx hb dX6_alike_38 rfl (lv_at hl 0 rfl) ?_
      refine lv_i2l hx hb dX6_alike_39 rfl ?_
      obtain ⟨r3, qr3, h⟩ := gn_bd h
      refine pc_S (rest := []) ⟨hx, hb, hml, hown, hts⟩ hN (c_X5_divisor l z _ _ r3 qr3) (va_cwS 2 hts gX6_alike_X5_divisor rfl rfl rfl (by decide +kernel) ⟨(Nat.le_of_ble_eq_true rfl), (Nat.le_of_ble_eq_true rfl)⟩) rfl hl.1 rfl (Nat.le_of_ble_eq_true rfl) dX6_alike_40 hcl hsl ?_
      refine lv_lconst (v := (1 : Int64)) hx hb dX6_alike_43 (by decide) ?_
      refine ll_ne (tgt := 74) hx hb dX6_alike_44 dX6_alike_45 (by decide) (fun c4 => ?_) (fun c4 => ?_)
      · have h := gn_f h c4
        obtain ⟨v5, ev5, h⟩ := gn_nm h
        refine lv_iinc (v := v5) (lv' := [(7, .int v5), (2, .int x2), (3, .int x3), (4, .long x4), (6, .int x6)]) hx hb dX6_alike_74 hl (k := 4) rfl (by rw [ev5]; rfl) (by decide) rfl (fun ls hl => ?_)
        refine lv_goto (tgt := 29) hx hb dX6_alike_77 (by decide) ?_
        exact ih x2 x3 x4 x6 v5 S _ _ hP hD hS h ls (lv_sub hl [1, 2, 3, 4, 0] rfl)
      · have h := gn_t h c4
        refine lv_iload hx hb dX6_alike_48 (lv_at hl 4 rfl) ?_
        refine lv_i2l hx hb dX6_alike_50 rfl ?_
        refine lv_iload_n hx hb dX6_alike_51 rfl (lv_at hl 0 rfl) ?_
        refine lv_i2l hx hb dX6_alike_52 rfl ?_
        obtain ⟨r6, qr6, h⟩ := gn_bd h
        refine pc_S (rest := []) ⟨hx, hb, hml, hown, hts⟩ hN (c_X5_twelfths l z _ _ r6 qr6) (va_cwS 2 hts gX6_alike_X5_twelfths rfl rfl rfl (by decide +kernel) ⟨(Nat.le_of_ble_eq_true rfl), (Nat.le_of_ble_eq_true rfl)⟩) rfl hl.1 rfl (Nat.le_of_ble_eq_true rfl) dX6_alike_53 hcl hsl ?_
        refine lv_lload hx hb dX6_alike_56 (lv_at hl 2 rfl) ?_
        refine ll_ne (tgt := 74) hx hb dX6_alike_58 dX6_alike_59 (by decide) (fun c7 => ?_) (fun c7 => ?_)
        · have h := gn_f h c7
          obtain ⟨v8, ev8, h⟩ := gn_nm h
          refine lv_iinc (v := v8) (lv' := [(7, .int v8), (2, .int x2), (3, .int x3), (4, .long x4), (6, .int x6)]) hx hb dX6_alike_74 hl (k := 4) rfl (by rw [ev8]; rfl) (by decide) rfl (fun ls hl => ?_)
          refine lv_goto (tgt := 29) hx hb dX6_alike_77 (by decide) ?_
          exact ih x2 x3 x4 x6 v8 S _ _ hP hD hS h ls (lv_sub hl [1, 2, 3, 4, 0] rfl)
        · have h := gn_t h c7
          refine lv_iload hx hb dX6_alike_62 (lv_at hl 3 rfl) ?_
          refine lv_iload_n hx hb dX6_alike_64 rfl (lv_at hl 1 rfl) ?_
          refine lv_icmp_ne (tgt := 71) hx hb dX6_alike_65 (by decide) (fun c9 => ?_) (fun c9 => ?_)
          · have h := gn_f h c9
            obtain ⟨v10, ev10, h⟩ := gn_nm h
            refine lv_iinc (v := v10) (lv' := [(6, .int v10), (2, .int x2), (3, .int x3), (4, .long x4), (7, .int x7)]) hx hb dX6_alike_71 hl (k := 3) rfl (by rw [ev10]; rfl) (by decide) rfl (fun ls hl => ?_)
            obtain ⟨v11, ev11, h⟩ := gn_nm h
            refine lv_iinc (v := v11) (lv' := [(7, .int v11), (6, .int v10), (2, .int x2), (3, .int x3), (4, .long x4)]) hx hb dX6_alike_74 hl (k := 4) rfl (by rw [ev11]; rfl) (by decide) rfl (fun ls hl => ?_)
            refine lv_goto (tgt := 29) hx hb dX6_alike_77 (by decide) ?_
            exact ih x2 x3 x4 v10 v11 S _ _ hP hD hS h ls (lv_sub hl [2, 3, 4, 1, 0] rfl)
          · have h := gn_t h c9
            refine lv_iload hx hb dX6_alike_68 (lv_at hl 4 rfl) ?_
            obtain ⟨rfl, rfl⟩ := Prod.mk.inj (gn_some h)
            exact W.iret hx hb hr (fun t ht _ => ⟨rfl, by rw [ht]; exact hP, hD, hS.F ht⟩) hS.2.2 dX6_alike_70 hlk
end
set_option maxRecDepth 100000 in
theorem c_X6_alike (l : Launch) (z : Nat) (K : Ev) (M : MS) (o : Nat → Int64) (g : Gh) (a0 : Int32) (a1 : Int32) (a2 : Int32) (S : CS) (r : Int32) (S' : CS) (h : F_X6_alike z a0 a1 a2 S = some (r, S')) : Met l yX6_alike wsX6_alike rm_X6_alike (qH K [.ref (K.2.2.1 0), .int a0, .int a1, .int a2] S M o g) (qR K (some (.int r)) S' M o g) 0 0 (inA K) := by
  refine Met.ofW (cc := cX6_alike) (maxL := 8) (ret := (some .int)) (by decide) rfl ?_
  intro p e s m args below meth c s₁ B hml hv
  obtain ⟨rfl, hN, hP, hK, hD, hF⟩ := hv
  have hx := B.exec
  have hb := B.bytes
  have hr := B.returns
  have hts := atoms_spec (ws := wsX6_alike) B.pre
  have hown : s.vm.findClass RX6 = some m.cls := findClass_of_methodNamed B.named
  have hlk := B.notSynchronized
  have hcl : 0 ≤ (rm_X6_alike).cells := Nat.zero_le _
  have hsl : 0 ≤ (rm_X6_alike).slots := Nat.zero_le _
  have Cc : Cx p s m _ meth c cX6_alike 8 RX6 wsX6_alike (some .int) := ⟨hx, hb, hml, hown, hts, hr, hlk, hN⟩
  have hS : va_S (inA K) s.heap s.heap [] := va_S.rf
  have hl := lv_entry ([.ref (K.2.2.1 0), .int a0, .int a1, .int a2]) (n := 8) (Nat.le_of_ble_eq_true rfl)
  rw [lg_entry_eq]
  generalize (lg_sl ([.ref (K.2.2.1 0), .int a0, .int a1, .int a2]) ++ List.replicate (8 - (lg_sl ([.ref (K.2.2.1 0), .int a0, .int a1, .int a2])).length) Slot.unset).toArray = ls at hl ⊢
  have hl : lv_has ls 8 [(0, .ref (K.2.2.1 0)), (1, .int a0), (2, .int a1), (3, .int a2)] := hl
  rw [F_X6_alike] at h
  refine lv_iload_n hx hb dX6_alike_0 rfl (lv_at hl 2 rfl) ?_
  refine lv_i2l hx hb dX6_alike_1 rfl ?_
  refine lv_lconst (v := (1 : Int64)) hx hb dX6_alike_2 (by decide) ?_
  refine lv_ldc2 hx hb hown (hts (.constantLong RX6 115 (500)) (by decide +kernel)) dX6_alike_3 ?_
  obtain ⟨r1, qr1, h⟩ := gn_bd h
  refine pc_S (rest := []) ⟨hx, hb, hml, hown, hts⟩ hN (c_X6_lies l z _ _ _ r1 qr1) (va_cwS 3 hts gX6_alike_X6_lies rfl rfl rfl (by decide +kernel) ⟨(Nat.le_of_ble_eq_true rfl), (Nat.le_of_ble_eq_true rfl)⟩) rfl hl.1 rfl (Nat.le_of_ble_eq_true rfl) dX6_alike_6 hcl hsl ?_
  refine lv_if_ne (tgt := 14) hx hb dX6_alike_9 (by decide) (fun c2 => ?_) (fun c2 => ?_)
  · have h := gn_f h c2
    refine lv_iload_n hx hb dX6_alike_14 rfl (lv_at hl 1 rfl) ?_
    refine lv_i2l hx hb dX6_alike_15 rfl ?_
    refine lv_iload_n hx hb dX6_alike_16 rfl (lv_at hl 2 rfl) ?_
    refine lv_i2l hx hb dX6_alike_17 rfl ?_
    obtain ⟨r3, qr3, h⟩ := gn_bd h
    refine pc_S (rest := []) ⟨hx, hb, hml, hown, hts⟩ hN (c_X5_twelfths l z _ _ r3 qr3) (va_cwS 2 hts gX6_alike_X5_twelfths rfl rfl rfl (by decide +kernel) ⟨(Nat.le_of_ble_eq_true rfl), (Nat.le_of_ble_eq_true rfl)⟩) rfl hl.1 rfl (Nat.le_of_ble_eq_true rfl) dX6_alike_18 hcl hsl ?_
    refine lv_lstore (lv' := [(4, .long r3), (0, .ref (K.2.2.1 0)), (1, .int a0), (2, .int a1), (3, .int a2)]) hx hb dX6_alike_21 hl (by decide) rfl (fun ls hl => ?_)
    refine lv_iconst (v := (0 : Int32)) hx hb dX6_alike_23 (by decide) ?_
    refine lv_istore (lv' := [(6, .int (0 : Int32)), (4, .long r3), (0, .ref (K.2.2.1 0)), (1, .int a0), (2, .int a1), (3, .int a2)]) hx hb dX6_alike_24 hl (by decide) rfl (fun ls hl => ?_)
    refine lv_iconst (v := (0 : Int32)) hx hb dX6_alike_26 (by decide) ?_
    refine lv_istore (lv' := [(7, .int (0 : Int32)), (6, .int (0 : Int32)), (4, .long r3), (0, .ref (K.2.2.1 0)), (1, .int a0), (2, .int a1), (3, .int a2)]) hx hb dX6_alike_27 hl (by decide) rfl (fun ls hl => ?_)
    exact w_X6_alike_29 Cc hK hF z a1 a2 r3 (0 : Int32) (0 : Int32) S _ _ hP hD hS h ls (lv_sub hl [5, 6, 2, 1, 0] rfl)
  · have h := gn_t h c2
    refine lv_iconst (v := (-1 : Int32)) hx hb dX6_alike_12 (by decide) ?_
    obtain ⟨rfl, rfl⟩ := Prod.mk.inj (gn_some h)
    exact W.iret hx hb hr (fun t ht _ => ⟨rfl, by rw [ht]; exact hP, hD, hS.F ht⟩) hS.2.2 dX6_alike_13 hlk
theorem in_X6_unlikeSums_X6 : ∀ w ∈ wsX60, w ∈ wsX6_unlikeSums := fun _ h => List.mem_cons_of_mem _ (List.mem_append_right _ h)
def rm_X6_unlikeSums : Room := { frames := 2, cells := 0, slots := 0, locals := 69 }
section
variable {p : Program} {l : Launch} {e : Env} {s : State} {m : MethodId} {args : Array Value} {below : List Frame} {meth : Method} {c : Code} {z : Nat} {K : Ev} {M : MS} {o : Nat → Int64} {g : Gh}
set_option maxRecDepth 100000 in
theorem w_X6_unlikeSums_4 (Cc : Cx p s m args meth c cX6_unlikeSums 4 RX6 wsX6_unlikeSums (some .int)) (hK : va_K K.1 vwCl (tysOf K) s) (hF : SF K s) {r : Int32} {S' : CS} (n : Nat) : ∀ (x1 : Int32) (x2 : Int32) (x3 : Int32) (S : CS) (H : Heap) (locs : List Loc), va_P K.1 vwCl (wd K S M o g) H → va_D (inA K) (wd K S M o g) → va_S (inA K) s.heap H locs → G_X6_unlikeSums_4 z n x1 x2 x3 S = some (r, S') → ∀ ls, lv_has ls 4 [(0, .ref (K.2.2.1 0)), (1, .int x1), (2, .int x2), (3, .int x3)] → W p l e rm_X6_unlikeSums s m args below meth c H locs 0 0 (MQ below (qR K (some (.int r)) S' M o g) args s 0 0 (inA K)) (F0 m 4 ls []) := by
  obtain ⟨hx, hb, hml, hown, hts, hr, hlk, hN⟩ := id Cc
  have hcl : 0 ≤ (rm_X6_unlikeSums).cells := Nat.zero_le _
  have hsl : 0 ≤ (rm_X6_unlikeSums).slots := Nat.zero_le _
  induction n with
  | zero => intro x1 x2 x3 S H locs hP hD hS h; cases h
  | succ n ih =>
    intro x1 x2 x3 S H locs hP hD hS h ls hl
    rw [G_X6_unlikeSums_4] at h
    refine lv_iload_n hx hb dX6_unlikeSums_4 rfl (lv_at hl 3 rfl) ?_
    refine lv_iload_n hx hb dX6_unlikeSums_5 rfl (lv_at hl 1 rfl) ?_
    refine lv_icmp_ge (tgt := 52) hx hb dX6_unlikeSums_6 (by decide) (fun c1 => ?_) (fun c1 => ?_)
    · have h := gn_t h c1
      refine lv_aload_n hx hb dX6_unlikeSums_52 rfl (lv_at hl 0 rfl) ?_
      refine va_get (D := K.1) (ci := 5) (v := .ref (K.2.2.1 5)) (C := RX6) (T := TX6) (N := 9) hx hb hts in_X6_unlikeSums_X6 hown hK hP 0 rfl rfl 2 (by decide) (hts (.fieldLink RX6 23 "SawSums" "values" "[J") (by decide +kernel)) (fun _ h9 => h9) rfl dX6_unlikeSums_53 ?_
      refine lv_iload_n hx hb dX6_unlikeSums_56 rfl (lv_at hl 2 rfl) ?_
      obtain ⟨r2, S3, qS3, h⟩ := gn_bd2 h
      refine hc_S (rest := []) ⟨hx, hb, hml, hown, hts⟩ hN hF hK hP hD hS (c_X5_unlike l z K _ o g _ _ r2 S3 qS3) (va_cwS 2 hts gX6_unlikeSums_X5_unlike rfl rfl rfl (by decide +kernel) ⟨(Nat.le_of_ble_eq_true rfl), (Nat.le_of_ble_eq_true rfl)⟩) rfl hl.1 rfl (Nat.le_of_ble_eq_true rfl) dX6_unlikeSums_57 hcl hsl (fun H locs hP hD hS => ?_)
      have hP : va_P K.1 vwCl (wd K S3 M o g) H := hP
      have hD : va_D (inA K) (wd K S3 M o g) := hD
      refine W.eq (g2 := F0 m 60 ls [.int r2]) rfl ?_
      obtain ⟨rfl, rfl⟩ := Prod.mk.inj (gn_some h)
      exact W.iret hx hb hr (fun t ht _ => ⟨rfl, by rw [ht]; exact hP, hD, hS.F ht⟩) hS.2.2 dX6_unlikeSums_60 hlk
    · have h := gn_f h c1
      refine lv_iload_n hx hb dX6_unlikeSums_9 rfl (lv_at hl 2 rfl) ?_
      refine lv_aload_n hx hb dX6_unlikeSums_10 rfl (lv_at hl 0 rfl) ?_
      refine va_get (D := K.1) (ci := 5) (v := .ref (K.2.2.1 5)) (C := RX6) (T := TX6) (N := 9) hx hb hts in_X6_unlikeSums_X6 hown hK hP 0 rfl rfl 2 (by decide) (hts (.fieldLink RX6 23 "SawSums" "values" "[J") (by decide +kernel)) (fun _ h9 => h9) rfl dX6_unlikeSums_11 ?_
      refine va_alen (v := (500 : Int32)) hx hb hK hP 5 0 rfl rfl rfl dX6_unlikeSums_14 ?_
      refine lv_icmp_ge (tgt := 46) hx hb dX6_unlikeSums_15 (by decide) (fun c4 => ?_) (fun c4 => ?_)
      · have h := gn_t h c4
        obtain ⟨v5, ev5, h⟩ := gn_nm h
        refine lv_iinc (v := v5) (lv' := [(3, .int v5), (0, .ref (K.2.2.1 0)), (1, .int x1), (2, .int x2)]) hx hb dX6_unlikeSums_46 hl (k := 3) rfl (by rw [ev5]; rfl) (by decide) rfl (fun ls hl => ?_)
        refine lv_goto (tgt := 4) hx hb dX6_unlikeSums_49 (by decide) ?_
        exact ih x1 x2 v5 S _ _ hP hD hS h ls (lv_sub hl [1, 2, 3, 0] rfl)
      · have h := gn_f h c4
        refine lv_iload_n hx hb dX6_unlikeSums_18 rfl (lv_at hl 3 rfl) ?_
        refine lv_i2l hx hb dX6_unlikeSums_19 rfl ?_
        refine lv_iload_n hx hb dX6_unlikeSums_20 rfl (lv_at hl 1 rfl) ?_
        refine lv_i2l hx hb dX6_unlikeSums_21 rfl ?_
        obtain ⟨r6, qr6, h⟩ := gn_bd h
        refine pc_S (rest := []) ⟨hx, hb, hml, hown, hts⟩ hN (c_X5_divisor l z _ _ r6 qr6) (va_cwS 2 hts gX6_unlikeSums_X5_divisor rfl rfl rfl (by decide +kernel) ⟨(Nat.le_of_ble_eq_true rfl), (Nat.le_of_ble_eq_true rfl)⟩) rfl hl.1 rfl (Nat.le_of_ble_eq_true rfl) dX6_unlikeSums_22 hcl hsl ?_
        refine lv_lconst (v := (1 : Int64)) hx hb dX6_unlikeSums_25 (by decide) ?_
        refine ll_ne (tgt := 46) hx hb dX6_unlikeSums_26 dX6_unlikeSums_27 (by decide) (fun c7 => ?_) (fun c7 => ?_)
        · have h := gn_f h c7
          obtain ⟨v8, ev8, h⟩ := gn_nm h
          refine lv_iinc (v := v8) (lv' := [(3, .int v8), (0, .ref (K.2.2.1 0)), (1, .int x1), (2, .int x2)]) hx hb dX6_unlikeSums_46 hl (k := 3) rfl (by rw [ev8]; rfl) (by decide) rfl (fun ls hl => ?_)
          refine lv_goto (tgt := 4) hx hb dX6_unlikeSums_49 (by decide) ?_
          exact ih x1 x2 v8 S _ _ hP hD hS h ls (lv_sub hl [1, 2, 3, 0] rfl)
        · have h := gn_t h c7
          refine lv_aload_n hx hb dX6_unlikeSums_30 rfl (lv_at hl 0 rfl) ?_
          refine va_get (D := K.1) (ci := 5) (v := .ref (K.2.2.1 5)) (C := RX6) (T := TX6) (N := 9) hx hb hts in_X6_unlikeSums_X6 hown hK hP 0 rfl rfl 2 (by decide) (hts (.fieldLink RX6 23 "SawSums" "values" "[J") (by decide +kernel)) (fun _ h9 => h9) rfl dX6_unlikeSums_31 ?_
          refine lv_iload_n hx hb dX6_unlikeSums_34 rfl (lv_at hl 2 rfl) ?_
          refine lv_iload_n hx hb dX6_unlikeSums_35 rfl (lv_at hl 3 rfl) ?_
          refine lv_i2l hx hb dX6_unlikeSums_36 rfl ?_
          refine lv_iload_n hx hb dX6_unlikeSums_37 rfl (lv_at hl 1 rfl) ?_
          refine lv_i2l hx hb dX6_unlikeSums_38 rfl ?_
          obtain ⟨r9, qr9, h⟩ := gn_bd h
          refine pc_S (rest := [.int x2, .ref (K.2.2.1 5)]) ⟨hx, hb, hml, hown, hts⟩ hN (c_X5_twelfths l z _ _ r9 qr9) (va_cwS 2 hts gX6_unlikeSums_X5_twelfths rfl rfl rfl (by decide +kernel) ⟨(Nat.le_of_ble_eq_true rfl), (Nat.le_of_ble_eq_true rfl)⟩) rfl hl.1 rfl (Nat.le_of_ble_eq_true rfl) dX6_unlikeSums_39 hcl hsl ?_
          obtain ⟨n10, h⟩ := gn_yz h
          obtain ⟨S11, eS11, h⟩ := gn_nm h
          refine va_last hx hb hK hP hD hS 5 0 rfl rfl (ib_in n10) dX6_unlikeSums_42 (fun H locs hP hD hS => ?_)
          have hP : va_P K.1 vwCl (wd K S11 M o g) H := by rw [eS11]; exact hP
          have hD : va_D (inA K) (wd K S11 M o g) := by rw [eS11]; exact hD
          obtain ⟨v12, ev12, h⟩ := gn_nm h
          refine lv_iinc (v := v12) (lv' := [(2, .int v12), (0, .ref (K.2.2.1 0)), (1, .int x1), (3, .int x3)]) hx hb dX6_unlikeSums_43 hl (k := 2) rfl (by rw [ev12]; rfl) (by decide) rfl (fun ls hl => ?_)
          obtain ⟨v13, ev13, h⟩ := gn_nm h
          refine lv_iinc (v := v13) (lv' := [(3, .int v13), (2, .int v12), (0, .ref (K.2.2.1 0)), (1, .int x1)]) hx hb dX6_unlikeSums_46 hl (k := 3) rfl (by rw [ev13]; rfl) (by decide) rfl (fun ls hl => ?_)
          refine lv_goto (tgt := 4) hx hb dX6_unlikeSums_49 (by decide) ?_
          exact ih x1 v12 v13 S11 _ _ hP hD hS h ls (lv_sub hl [2, 3, 1, 0] rfl)
end
set_option maxRecDepth 100000 in
theorem c_X6_unlikeSums (l : Launch) (z : Nat) (K : Ev) (M : MS) (o : Nat → Int64) (g : Gh) (a0 : Int32) (S : CS) (r : Int32) (S' : CS) (h : F_X6_unlikeSums z a0 S = some (r, S')) : Met l yX6_unlikeSums wsX6_unlikeSums rm_X6_unlikeSums (qH K [.ref (K.2.2.1 0), .int a0] S M o g) (qR K (some (.int r)) S' M o g) 0 0 (inA K) := by
  refine Met.ofW (cc := cX6_unlikeSums) (maxL := 4) (ret := (some .int)) (by decide) rfl ?_
  intro p e s m args below meth c s₁ B hml hv
  obtain ⟨rfl, hN, hP, hK, hD, hF⟩ := hv
  have hx := B.exec
  have hb := B.bytes
  have hr := B.returns
  have hts := atoms_spec (ws := wsX6_unlikeSums) B.pre
  have hown : s.vm.findClass RX6 = some m.cls := findClass_of_methodNamed B.named
  have hlk := B.notSynchronized
  have hcl : 0 ≤ (rm_X6_unlikeSums).cells := Nat.zero_le _
  have hsl : 0 ≤ (rm_X6_unlikeSums).slots := Nat.zero_le _
  have Cc : Cx p s m _ meth c cX6_unlikeSums 4 RX6 wsX6_unlikeSums (some .int) := ⟨hx, hb, hml, hown, hts, hr, hlk, hN⟩
  have hS : va_S (inA K) s.heap s.heap [] := va_S.rf
  have hl := lv_entry ([.ref (K.2.2.1 0), .int a0]) (n := 4) (Nat.le_of_ble_eq_true rfl)
  rw [lg_entry_eq]
  generalize (lg_sl ([.ref (K.2.2.1 0), .int a0]) ++ List.replicate (4 - (lg_sl ([.ref (K.2.2.1 0), .int a0])).length) Slot.unset).toArray = ls at hl ⊢
  have hl : lv_has ls 4 [(0, .ref (K.2.2.1 0)), (1, .int a0)] := hl
  rw [F_X6_unlikeSums] at h
  refine lv_iconst (v := (0 : Int32)) hx hb dX6_unlikeSums_0 (by decide) ?_
  refine lv_istore_n (lv' := [(2, .int (0 : Int32)), (0, .ref (K.2.2.1 0)), (1, .int a0)]) hx hb dX6_unlikeSums_1 rfl hl (by decide) rfl (fun ls hl => ?_)
  refine lv_iconst (v := (0 : Int32)) hx hb dX6_unlikeSums_2 (by decide) ?_
  refine lv_istore_n (lv' := [(3, .int (0 : Int32)), (2, .int (0 : Int32)), (0, .ref (K.2.2.1 0)), (1, .int a0)]) hx hb dX6_unlikeSums_3 rfl hl (by decide) rfl (fun ls hl => ?_)
  exact w_X6_unlikeSums_4 Cc hK hF z a0 (0 : Int32) (0 : Int32) S _ _ hP hD hS h ls (lv_sub hl [2, 3, 1, 0] rfl)

def rm_X6_sorts : Room := { frames := 3, cells := 0, slots := 0, locals := 95 }
section
variable {p : Program} {l : Launch} {e : Env} {s : State} {m : MethodId} {args : Array Value} {below : List Frame} {meth : Method} {c : Code} {z : Nat} {K : Ev} {M : MS} {o : Nat → Int64} {g : Gh}
end
set_option maxRecDepth 100000 in
theorem c_X6_sorts (l : Launch) (z : Nat) (K : Ev) (M : MS) (o : Nat → Int64) (g : Gh) (a0 : Int32) (a1 : Int32) (S : CS) (r : Int32) (S' : CS) (h : F_X6_sorts z a0 a1 S = some (r, S')) : Met l yX6_sorts wsX6_sorts rm_X6_sorts (qH K [.ref (K.2.2.1 0), .int a0, .int a1] S M o g) (qR K (some (.int r)) S' M o g) 0 0 (inA K) := by
  refine Met.ofW (cc := cX6_sorts) (maxL := 3) (ret := (some .int)) (by decide) rfl ?_
  intro p e s m args below meth c s₁ B hml hv
  obtain ⟨rfl, hN, hP, hK, hD, hF⟩ := hv
  have hx := B.exec
  have hb := B.bytes
  have hr := B.returns
  have hts := atoms_spec (ws := wsX6_sorts) B.pre
  have hown : s.vm.findClass RX6 = some m.cls := findClass_of_methodNamed B.named
  have hlk := B.notSynchronized
  have hcl : 0 ≤ (rm_X6_sorts).cells := Nat.zero_le _
  have hsl : 0 ≤ (rm_X6_sorts).slots := Nat.zero_le _
  have Cc : Cx p s m _ meth c cX6_sorts 3 RX6 wsX6_sorts (some .int) := ⟨hx, hb, hml, hown, hts, hr, hlk, hN⟩
  have hS : va_S (inA K) s.heap s.heap [] := va_S.rf
  have hl := lv_entry ([.ref (K.2.2.1 0), .int a0, .int a1]) (n := 3) (Nat.le_of_ble_eq_true rfl)
  rw [lg_entry_eq]
  generalize (lg_sl ([.ref (K.2.2.1 0), .int a0, .int a1]) ++ List.replicate (3 - (lg_sl ([.ref (K.2.2.1 0), .int a0, .int a1])).length) Slot.unset).toArray = ls at hl ⊢
  have hl : lv_has ls 3 [(0, .ref (K.2.2.1 0)), (1, .int a0), (2, .int a1)] := hl
  rw [F_X6_sorts] at h
  refine lv_iload_n hx hb dX6_sorts_0 rfl (lv_at hl 1 rfl) ?_
  refine lv_i2l hx hb dX6_sorts_1 rfl ?_
  refine lv_lconst (v := (1 : Int64)) hx hb dX6_sorts_2 (by decide) ?_
  refine lv_ldc2 hx hb hown (hts (.constantLong RX6 115 (500)) (by decide +kernel)) dX6_sorts_3 ?_
  obtain ⟨r1, qr1, h⟩ := gn_bd h
  refine pc_S (rest := []) ⟨hx, hb, hml, hown, hts⟩ hN (c_X6_lies l z _ _ _ r1 qr1) (va_cwS 3 hts gX6_sorts_X6_lies rfl rfl rfl (by decide +kernel) ⟨(Nat.le_of_ble_eq_true rfl), (Nat.le_of_ble_eq_true rfl)⟩) rfl hl.1 rfl (Nat.le_of_ble_eq_true rfl) dX6_sorts_6 hcl hsl ?_
  refine lv_if_ne (tgt := 14) hx hb dX6_sorts_9 (by decide) (fun c2 => ?_) (fun c2 => ?_)
  · have h := gn_f h c2
    refine lv_iload_n hx hb dX6_sorts_14 rfl (lv_at hl 2 rfl) ?_
    by_cases c3 : a1 = (0 : Int32)
    · have h := gn_t h c3
      refine lv_lookup (off := 25) (tgt := 40) hx hb dX6_sorts_15 (by decide) (by rw [c3]; rfl) (by decide) ?_
      refine lv_aload_n hx hb dX6_sorts_40 rfl (lv_at hl 0 rfl) ?_
      refine lv_iload_n hx hb dX6_sorts_41 rfl (lv_at hl 1 rfl) ?_
      obtain ⟨r4, S5, qS5, h⟩ := gn_bd2 h
      refine hc_V (rest := []) ⟨hx, hb, hml, hown, hts⟩ hN hF hK hP hD hS (c_X6_unlikeSums l z K _ o g _ _ r4 S5 qS5) (cwV 1 hts gX6_sorts_X6_unlikeSums rfl rfl rfl (by decide +kernel) ⟨(Nat.le_of_ble_eq_true rfl), (Nat.le_of_ble_eq_true rfl)⟩) (va_recv hK hP (ci := 5) (q0 := 0) rfl rfl) rfl hl.1 rfl (Nat.le_of_ble_eq_true rfl) dX6_sorts_42 hcl hsl (fun H locs hP hD hS => ?_)
      have hP : va_P K.1 vwCl (wd K S5 M o g) H := hP
      have hD : va_D (inA K) (wd K S5 M o g) := hD
      refine W.eq (g2 := F0 m 45 ls [.int r4]) rfl ?_
      obtain ⟨rfl, rfl⟩ := Prod.mk.inj (gn_some h)
      exact W.iret hx hb hr (fun t ht _ => ⟨rfl, by rw [ht]; exact hP, hD, hS.F ht⟩) hS.2.2 dX6_sorts_45 hlk
    have h := gn_f h c3
    by_cases c6 : a1 = (1 : Int32)
    · have h := gn_t h c6
      refine lv_lookup (off := 31) (tgt := 46) hx hb dX6_sorts_15 (by decide) (by rw [c6]; rfl) (by decide) ?_
      refine lv_iload_n hx hb dX6_sorts_46 rfl (lv_at hl 1 rfl) ?_
      obtain ⟨r7, qr7, h⟩ := gn_bd h
      refine pc_S (rest := []) ⟨hx, hb, hml, hown, hts⟩ hN (c_X6_firstWithGreatestSum l z _ r7 qr7) (va_cwS 1 hts gX6_sorts_X6_firstWithGreatestSum rfl rfl rfl (by decide +kernel) ⟨(Nat.le_of_ble_eq_true rfl), (Nat.le_of_ble_eq_true rfl)⟩) rfl hl.1 rfl (Nat.le_of_ble_eq_true rfl) dX6_sorts_47 hcl hsl ?_
      obtain ⟨rfl, rfl⟩ := Prod.mk.inj (gn_some h)
      exact W.iret hx hb hr (fun t ht _ => ⟨rfl, by rw [ht]; exact hP, hD, hS.F ht⟩) hS.2.2 dX6_sorts_50 hlk
    have h := gn_f h c6
    refine lv_lookup (off := 36) (tgt := 51) hx hb dX6_sorts_15 (by decide) ((lv_osw c3 (by decide)).trans ((lv_osw c6 (by decide)).trans rfl)) (by decide) ?_
    refine lv_iconst (v := (-1 : Int32)) hx hb dX6_sorts_51 (by decide) ?_
    obtain ⟨rfl, rfl⟩ := Prod.mk.inj (gn_some h)
    exact W.iret hx hb hr (fun t ht _ => ⟨rfl, by rw [ht]; exact hP, hD, hS.F ht⟩) hS.2.2 dX6_sorts_52 hlk
  · have h := gn_t h c2
    refine lv_iconst (v := (-1 : Int32)) hx hb dX6_sorts_12 (by decide) ?_
    obtain ⟨rfl, rfl⟩ := Prod.mk.inj (gn_some h)
    exact W.iret hx hb hr (fun t ht _ => ⟨rfl, by rw [ht]; exact hP, hD, hS.F ht⟩) hS.2.2 dX6_sorts_13 hlk

def rm_X6_steps : Room := { frames := 2, cells := 0, slots := 0, locals := 67 }
section
variable {p : Program} {l : Launch} {e : Env} {s : State} {m : MethodId} {args : Array Value} {below : List Frame} {meth : Method} {c : Code} {z : Nat} {K : Ev} {M : MS} {o : Nat → Int64} {g : Gh}
end
set_option maxRecDepth 100000 in
theorem c_X6_steps (l : Launch) (z : Nat) (K : Ev) (M : MS) (o : Nat → Int64) (g : Gh) (a0 : Int32) (a1 : Int32) (a2 : Int32) (a3 : Int32) (S : CS) (r : Int64) (S' : CS) (h : F_X6_steps z a0 a1 a2 a3 S = some (r, S')) : Met l yX6_steps wsX6_steps rm_X6_steps (qH K [.ref (K.2.2.1 0), .int a0, .int a1, .int a2, .int a3] S M o g) (qR K (some (.long r)) S' M o g) 0 0 (inA K) := by
  refine Met.ofW (cc := cX6_steps) (maxL := 5) (ret := (some .long)) (by decide) rfl ?_
  intro p e s m args below meth c s₁ B hml hv
  obtain ⟨rfl, hN, hP, hK, hD, hF⟩ := hv
  have hx := B.exec
  have hb := B.bytes
  have hr := B.returns
  have hts := atoms_spec (ws := wsX6_steps) B.pre
  have hown : s.vm.findClass RX6 = some m.cls := findClass_of_methodNamed B.named
  have hlk := B.notSynchronized
  have hcl : 0 ≤ (rm_X6_steps).cells := Nat.zero_le _
  have hsl : 0 ≤ (rm_X6_steps).slots := Nat.zero_le _
  have Cc : Cx p s m _ meth c cX6_steps 5 RX6 wsX6_steps (some .long) := ⟨hx, hb, hml, hown, hts, hr, hlk, hN⟩
  have hS : va_S (inA K) s.heap s.heap [] := va_S.rf
  have hl := lv_entry ([.ref (K.2.2.1 0), .int a0, .int a1, .int a2, .int a3]) (n := 5) (Nat.le_of_ble_eq_true rfl)
  rw [lg_entry_eq]
  generalize (lg_sl ([.ref (K.2.2.1 0), .int a0, .int a1, .int a2, .int a3]) ++ List.replicate (5 - (lg_sl ([.ref (K.2.2.1 0), .int a0, .int a1, .int a2, .int a3])).length) Slot.unset).toArray = ls at hl ⊢
  have hl : lv_has ls 5 [(0, .ref (K.2.2.1 0)), (1, .int a0), (2, .int a1), (3, .int a2), (4, .int a3)] := hl
  rw [F_X6_steps] at h
  refine lv_iload_n hx hb dX6_steps_0 rfl (lv_at hl 1 rfl) ?_
  refine lv_i2l hx hb dX6_steps_1 rfl ?_
  refine lv_ldc2 hx hb hown (hts (.constantLong RX6 127 (-1000000)) (by decide +kernel)) dX6_steps_2 ?_
  refine lv_ldc2 hx hb hown (hts (.constantLong RX6 129 (1000000)) (by decide +kernel)) dX6_steps_5 ?_
  obtain ⟨r1, qr1, h⟩ := gn_bd h
  refine pc_S (rest := []) ⟨hx, hb, hml, hown, hts⟩ hN (c_X6_lies l z _ _ _ r1 qr1) (va_cwS 3 hts gX6_steps_X6_lies rfl rfl rfl (by decide +kernel) ⟨(Nat.le_of_ble_eq_true rfl), (Nat.le_of_ble_eq_true rfl)⟩) rfl hl.1 rfl (Nat.le_of_ble_eq_true rfl) dX6_steps_8 hcl hsl ?_
  refine lv_if_eq (tgt := 53) hx hb dX6_steps_11 (by decide) (fun c2 => ?_) (fun c2 => ?_)
  · have h := gn_t h c2
    refine lv_ldc2 hx hb hown (hts (.constantLong RX6 67 (-4000000000000000000)) (by decide +kernel)) dX6_steps_53 ?_
    obtain ⟨rfl, rfl⟩ := Prod.mk.inj (gn_some h)
    exact W.lret hx hb hr (fun t ht _ => ⟨rfl, by rw [ht]; exact hP, hD, hS.F ht⟩) hS.2.2 dX6_steps_56 hlk
  · have h := gn_f h c2
    refine lv_iload_n hx hb dX6_steps_14 rfl (lv_at hl 2 rfl) ?_
    refine lv_i2l hx hb dX6_steps_15 rfl ?_
    refine lv_ldc2 hx hb hown (hts (.constantLong RX6 127 (-1000000)) (by decide +kernel)) dX6_steps_16 ?_
    refine lv_ldc2 hx hb hown (hts (.constantLong RX6 129 (1000000)) (by decide +kernel)) dX6_steps_19 ?_
    obtain ⟨r3, qr3, h⟩ := gn_bd h
    refine pc_S (rest := []) ⟨hx, hb, hml, hown, hts⟩ hN (c_X6_lies l z _ _ _ r3 qr3) (va_cwS 3 hts gX6_steps_X6_lies rfl rfl rfl (by decide +kernel) ⟨(Nat.le_of_ble_eq_true rfl), (Nat.le_of_ble_eq_true rfl)⟩) rfl hl.1 rfl (Nat.le_of_ble_eq_true rfl) dX6_steps_22 hcl hsl ?_
    refine lv_if_eq (tgt := 53) hx hb dX6_steps_25 (by decide) (fun c4 => ?_) (fun c4 => ?_)
    · have h := gn_t h c4
      refine lv_ldc2 hx hb hown (hts (.constantLong RX6 67 (-4000000000000000000)) (by decide +kernel)) dX6_steps_53 ?_
      obtain ⟨rfl, rfl⟩ := Prod.mk.inj (gn_some h)
      exact W.lret hx hb hr (fun t ht _ => ⟨rfl, by rw [ht]; exact hP, hD, hS.F ht⟩) hS.2.2 dX6_steps_56 hlk
    · have h := gn_f h c4
      refine lv_iload_n hx hb dX6_steps_28 rfl (lv_at hl 3 rfl) ?_
      refine lv_i2l hx hb dX6_steps_29 rfl ?_
      refine lv_lconst (v := (1 : Int64)) hx hb dX6_steps_30 (by decide) ?_
      refine lv_ldc2 hx hb hown (hts (.constantLong RX6 129 (1000000)) (by decide +kernel)) dX6_steps_31 ?_
      obtain ⟨r5, qr5, h⟩ := gn_bd h
      refine pc_S (rest := []) ⟨hx, hb, hml, hown, hts⟩ hN (c_X6_lies l z _ _ _ r5 qr5) (va_cwS 3 hts gX6_steps_X6_lies rfl rfl rfl (by decide +kernel) ⟨(Nat.le_of_ble_eq_true rfl), (Nat.le_of_ble_eq_true rfl)⟩) rfl hl.1 rfl (Nat.le_of_ble_eq_true rfl) dX6_steps_34 hcl hsl ?_
      refine lv_if_eq (tgt := 53) hx hb dX6_steps_37 (by decide) (fun c6 => ?_) (fun c6 => ?_)
      · have h := gn_t h c6
        refine lv_ldc2 hx hb hown (hts (.constantLong RX6 67 (-4000000000000000000)) (by decide +kernel)) dX6_steps_53 ?_
        obtain ⟨rfl, rfl⟩ := Prod.mk.inj (gn_some h)
        exact W.lret hx hb hr (fun t ht _ => ⟨rfl, by rw [ht]; exact hP, hD, hS.F ht⟩) hS.2.2 dX6_steps_56 hlk
      · have h := gn_f h c6
        refine lv_iload hx hb dX6_steps_40 (lv_at hl 4 rfl) ?_
        refine lv_i2l hx hb dX6_steps_42 rfl ?_
        refine lv_lconst (v := (0 : Int64)) hx hb dX6_steps_43 (by decide) ?_
        refine lv_ldc2 hx hb hown (hts (.constantLong RX6 131 (100000)) (by decide +kernel)) dX6_steps_44 ?_
        obtain ⟨r7, qr7, h⟩ := gn_bd h
        refine pc_S (rest := []) ⟨hx, hb, hml, hown, hts⟩ hN (c_X6_lies l z _ _ _ r7 qr7) (va_cwS 3 hts gX6_steps_X6_lies rfl rfl rfl (by decide +kernel) ⟨(Nat.le_of_ble_eq_true rfl), (Nat.le_of_ble_eq_true rfl)⟩) rfl hl.1 rfl (Nat.le_of_ble_eq_true rfl) dX6_steps_47 hcl hsl ?_
        refine lv_if_ne (tgt := 57) hx hb dX6_steps_50 (by decide) (fun c8 => ?_) (fun c8 => ?_)
        · have h := gn_f h c8
          refine lv_iload_n hx hb dX6_steps_57 rfl (lv_at hl 1 rfl) ?_
          refine lv_i2l hx hb dX6_steps_58 rfl ?_
          refine lv_iload_n hx hb dX6_steps_59 rfl (lv_at hl 2 rfl) ?_
          refine lv_i2l hx hb dX6_steps_60 rfl ?_
          refine lv_iload_n hx hb dX6_steps_61 rfl (lv_at hl 3 rfl) ?_
          refine lv_i2l hx hb dX6_steps_62 rfl ?_
          refine lv_iload hx hb dX6_steps_63 (lv_at hl 4 rfl) ?_
          refine lv_i2l hx hb dX6_steps_65 rfl ?_
          obtain ⟨r9, qr9, h⟩ := gn_bd h
          refine pc_S (rest := []) ⟨hx, hb, hml, hown, hts⟩ hN (c_X5_floorSum l z _ _ _ _ r9 qr9) (va_cwS 4 hts gX6_steps_X5_floorSum rfl rfl rfl (by decide +kernel) ⟨(Nat.le_of_ble_eq_true rfl), (Nat.le_of_ble_eq_true rfl)⟩) rfl hl.1 rfl (Nat.le_of_ble_eq_true rfl) dX6_steps_66 hcl hsl ?_
          obtain ⟨rfl, rfl⟩ := Prod.mk.inj (gn_some h)
          exact W.lret hx hb hr (fun t ht _ => ⟨rfl, by rw [ht]; exact hP, hD, hS.F ht⟩) hS.2.2 dX6_steps_69 hlk
        · have h := gn_t h c8
          refine lv_ldc2 hx hb hown (hts (.constantLong RX6 67 (-4000000000000000000)) (by decide +kernel)) dX6_steps_53 ?_
          obtain ⟨rfl, rfl⟩ := Prod.mk.inj (gn_some h)
          exact W.lret hx hb hr (fun t ht _ => ⟨rfl, by rw [ht]; exact hP, hD, hS.F ht⟩) hS.2.2 dX6_steps_56 hlk

def rm_X6_triangle : Room := { frames := 3, cells := 0, slots := 0, locals := 94 }
section
variable {p : Program} {l : Launch} {e : Env} {s : State} {m : MethodId} {args : Array Value} {below : List Frame} {meth : Method} {c : Code} {z : Nat} {K : Ev} {M : MS} {o : Nat → Int64} {g : Gh}
end
set_option maxRecDepth 100000 in
theorem c_X6_triangle (l : Launch) (z : Nat) (K : Ev) (M : MS) (o : Nat → Int64) (g : Gh) (a0 : Int32) (a1 : Int32) (a2 : Int32) (S : CS) (r : Int64) (S' : CS) (h : F_X6_triangle z a0 a1 a2 S = some (r, S')) : Met l yX6_triangle wsX6_triangle rm_X6_triangle (qH K [.ref (K.2.2.1 0), .int a0, .int a1, .int a2] S M o g) (qR K (some (.long r)) S' M o g) 0 0 (inA K) := by
  refine Met.ofW (cc := cX6_triangle) (maxL := 4) (ret := (some .long)) (by decide) rfl ?_
  intro p e s m args below meth c s₁ B hml hv
  obtain ⟨rfl, hN, hP, hK, hD, hF⟩ := hv
  have hx := B.exec
  have hb := B.bytes
  have hr := B.returns
  have hts := atoms_spec (ws := wsX6_triangle) B.pre
  have hown : s.vm.findClass RX6 = some m.cls := findClass_of_methodNamed B.named
  have hlk := B.notSynchronized
  have hcl : 0 ≤ (rm_X6_triangle).cells := Nat.zero_le _
  have hsl : 0 ≤ (rm_X6_triangle).slots := Nat.zero_le _
  have Cc : Cx p s m _ meth c cX6_triangle 4 RX6 wsX6_triangle (some .long) := ⟨hx, hb, hml, hown, hts, hr, hlk, hN⟩
  have hS : va_S (inA K) s.heap s.heap [] := va_S.rf
  have hl := lv_entry ([.ref (K.2.2.1 0), .int a0, .int a1, .int a2]) (n := 4) (Nat.le_of_ble_eq_true rfl)
  rw [lg_entry_eq]
  generalize (lg_sl ([.ref (K.2.2.1 0), .int a0, .int a1, .int a2]) ++ List.replicate (4 - (lg_sl ([.ref (K.2.2.1 0), .int a0, .int a1, .int a2])).length) Slot.unset).toArray = ls at hl ⊢
  have hl : lv_has ls 4 [(0, .ref (K.2.2.1 0)), (1, .int a0), (2, .int a1), (3, .int a2)] := hl
  rw [F_X6_triangle] at h
  refine lv_iload_n hx hb dX6_triangle_0 rfl (lv_at hl 1 rfl) ?_
  refine lv_iload_n hx hb dX6_triangle_1 rfl (lv_at hl 2 rfl) ?_
  refine lv_iload_n hx hb dX6_triangle_2 rfl (lv_at hl 3 rfl) ?_
  obtain ⟨r1, qr1, h⟩ := gn_bd h
  refine pc_S (rest := []) ⟨hx, hb, hml, hown, hts⟩ hN (c_X6_isTriangle l z _ _ _ r1 qr1) (va_cwS 3 hts gX6_triangle_X6_isTriangle rfl rfl rfl (by decide +kernel) ⟨(Nat.le_of_ble_eq_true rfl), (Nat.le_of_ble_eq_true rfl)⟩) rfl hl.1 rfl (Nat.le_of_ble_eq_true rfl) dX6_triangle_3 hcl hsl ?_
  refine lv_if_eq (tgt := 21) hx hb dX6_triangle_6 (by decide) (fun c2 => ?_) (fun c2 => ?_)
  · have h := gn_t h c2
    refine lv_ldc2 hx hb hown (hts (.constantLong RX6 67 (-4000000000000000000)) (by decide +kernel)) dX6_triangle_21 ?_
    obtain ⟨rfl, rfl⟩ := Prod.mk.inj (gn_some h)
    exact W.lret hx hb hr (fun t ht _ => ⟨rfl, by rw [ht]; exact hP, hD, hS.F ht⟩) hS.2.2 dX6_triangle_24 hlk
  · have h := gn_f h c2
    refine lv_iload_n hx hb dX6_triangle_9 rfl (lv_at hl 1 rfl) ?_
    refine lv_i2l hx hb dX6_triangle_10 rfl ?_
    refine lv_iload_n hx hb dX6_triangle_11 rfl (lv_at hl 2 rfl) ?_
    refine lv_i2l hx hb dX6_triangle_12 rfl ?_
    refine lv_iload_n hx hb dX6_triangle_13 rfl (lv_at hl 3 rfl) ?_
    refine lv_i2l hx hb dX6_triangle_14 rfl ?_
    obtain ⟨r3, qr3, h⟩ := gn_bd h
    refine pc_S (rest := []) ⟨hx, hb, hml, hown, hts⟩ hN (c_X5_pointsBelow l z _ _ _ r3 qr3) (va_cwS 3 hts gX6_triangle_X5_pointsBelow rfl rfl rfl (by decide +kernel) ⟨(Nat.le_of_ble_eq_true rfl), (Nat.le_of_ble_eq_true rfl)⟩) rfl hl.1 rfl (Nat.le_of_ble_eq_true rfl) dX6_triangle_15 hcl hsl ?_
    refine lv_goto (tgt := 24) hx hb dX6_triangle_18 (by decide) ?_
    obtain ⟨rfl, rfl⟩ := Prod.mk.inj (gn_some h)
    exact W.lret hx hb hr (fun t ht _ => ⟨rfl, by rw [ht]; exact hP, hD, hS.F ht⟩) hS.2.2 dX6_triangle_24 hlk

def rm_X6_inside : Room := { frames := 3, cells := 0, slots := 0, locals := 94 }
section
variable {p : Program} {l : Launch} {e : Env} {s : State} {m : MethodId} {args : Array Value} {below : List Frame} {meth : Method} {c : Code} {z : Nat} {K : Ev} {M : MS} {o : Nat → Int64} {g : Gh}
end
set_option maxRecDepth 100000 in
theorem c_X6_inside (l : Launch) (z : Nat) (K : Ev) (M : MS) (o : Nat → Int64) (g : Gh) (a0 : Int32) (a1 : Int32) (a2 : Int32) (S : CS) (r : Int64) (S' : CS) (h : F_X6_inside z a0 a1 a2 S = some (r, S')) : Met l yX6_inside wsX6_inside rm_X6_inside (qH K [.ref (K.2.2.1 0), .int a0, .int a1, .int a2] S M o g) (qR K (some (.long r)) S' M o g) 0 0 (inA K) := by
  refine Met.ofW (cc := cX6_inside) (maxL := 4) (ret := (some .long)) (by decide) rfl ?_
  intro p e s m args below meth c s₁ B hml hv
  obtain ⟨rfl, hN, hP, hK, hD, hF⟩ := hv
  have hx := B.exec
  have hb := B.bytes
  have hr := B.returns
  have hts := atoms_spec (ws := wsX6_inside) B.pre
  have hown : s.vm.findClass RX6 = some m.cls := findClass_of_methodNamed B.named
  have hlk := B.notSynchronized
  have hcl : 0 ≤ (rm_X6_inside).cells := Nat.zero_le _
  have hsl : 0 ≤ (rm_X6_inside).slots := Nat.zero_le _
  have Cc : Cx p s m _ meth c cX6_inside 4 RX6 wsX6_inside (some .long) := ⟨hx, hb, hml, hown, hts, hr, hlk, hN⟩
  have hS : va_S (inA K) s.heap s.heap [] := va_S.rf
  have hl := lv_entry ([.ref (K.2.2.1 0), .int a0, .int a1, .int a2]) (n := 4) (Nat.le_of_ble_eq_true rfl)
  rw [lg_entry_eq]
  generalize (lg_sl ([.ref (K.2.2.1 0), .int a0, .int a1, .int a2]) ++ List.replicate (4 - (lg_sl ([.ref (K.2.2.1 0), .int a0, .int a1, .int a2])).length) Slot.unset).toArray = ls at hl ⊢
  have hl : lv_has ls 4 [(0, .ref (K.2.2.1 0)), (1, .int a0), (2, .int a1), (3, .int a2)] := hl
  rw [F_X6_inside] at h
  refine lv_iload_n hx hb dX6_inside_0 rfl (lv_at hl 1 rfl) ?_
  refine lv_iload_n hx hb dX6_inside_1 rfl (lv_at hl 2 rfl) ?_
  refine lv_iload_n hx hb dX6_inside_2 rfl (lv_at hl 3 rfl) ?_
  obtain ⟨r1, qr1, h⟩ := gn_bd h
  refine pc_S (rest := []) ⟨hx, hb, hml, hown, hts⟩ hN (c_X6_isTriangle l z _ _ _ r1 qr1) (va_cwS 3 hts gX6_inside_X6_isTriangle rfl rfl rfl (by decide +kernel) ⟨(Nat.le_of_ble_eq_true rfl), (Nat.le_of_ble_eq_true rfl)⟩) rfl hl.1 rfl (Nat.le_of_ble_eq_true rfl) dX6_inside_3 hcl hsl ?_
  refine lv_if_eq (tgt := 29) hx hb dX6_inside_6 (by decide) (fun c2 => ?_) (fun c2 => ?_)
  · have h := gn_t h c2
    refine lv_ldc2 hx hb hown (hts (.constantLong RX6 67 (-4000000000000000000)) (by decide +kernel)) dX6_inside_29 ?_
    obtain ⟨rfl, rfl⟩ := Prod.mk.inj (gn_some h)
    exact W.lret hx hb hr (fun t ht _ => ⟨rfl, by rw [ht]; exact hP, hD, hS.F ht⟩) hS.2.2 dX6_inside_32 hlk
  · have h := gn_f h c2
    refine lv_iload_n hx hb dX6_inside_9 rfl (lv_at hl 1 rfl) ?_
    refine lv_i2l hx hb dX6_inside_10 rfl ?_
    refine lv_iload_n hx hb dX6_inside_11 rfl (lv_at hl 2 rfl) ?_
    refine lv_i2l hx hb dX6_inside_12 rfl ?_
    refine lv_iload_n hx hb dX6_inside_13 rfl (lv_at hl 3 rfl) ?_
    refine lv_i2l hx hb dX6_inside_14 rfl ?_
    refine lv_lconst (v := (1 : Int64)) hx hb dX6_inside_15 (by decide) ?_
    refine lv_lsub hx hb dX6_inside_16 ?_
    refine lv_iload_n hx hb dX6_inside_17 rfl (lv_at hl 1 rfl) ?_
    refine lv_i2l hx hb dX6_inside_18 rfl ?_
    refine lv_lsub hx hb dX6_inside_19 ?_
    refine lv_iload_n hx hb dX6_inside_20 rfl (lv_at hl 2 rfl) ?_
    refine lv_i2l hx hb dX6_inside_21 rfl ?_
    refine lv_lsub hx hb dX6_inside_22 ?_
    obtain ⟨r3, qr3, h⟩ := gn_bd h
    refine pc_S (rest := []) ⟨hx, hb, hml, hown, hts⟩ hN (c_X5_pointsBelow l z _ _ _ r3 qr3) (va_cwS 3 hts gX6_inside_X5_pointsBelow rfl rfl rfl (by decide +kernel) ⟨(Nat.le_of_ble_eq_true rfl), (Nat.le_of_ble_eq_true rfl)⟩) rfl hl.1 rfl (Nat.le_of_ble_eq_true rfl) dX6_inside_23 hcl hsl ?_
    refine lv_goto (tgt := 32) hx hb dX6_inside_26 (by decide) ?_
    obtain ⟨rfl, rfl⟩ := Prod.mk.inj (gn_some h)
    exact W.lret hx hb hr (fun t ht _ => ⟨rfl, by rw [ht]; exact hP, hD, hS.F ht⟩) hS.2.2 dX6_inside_32 hlk

def rm_X6_pyramid : Room := { frames := 3, cells := 0, slots := 0, locals := 94 }
section
variable {p : Program} {l : Launch} {e : Env} {s : State} {m : MethodId} {args : Array Value} {below : List Frame} {meth : Method} {c : Code} {z : Nat} {K : Ev} {M : MS} {o : Nat → Int64} {g : Gh}
set_option maxRecDepth 100000 in
theorem w_X6_pyramid_46 (Cc : Cx p s m args meth c cX6_pyramid 7 RX6 wsX6_pyramid (some .long)) (hK : va_K K.1 vwCl (tysOf K) s) (hF : SF K s) {r : Int64} {S' : CS} (n : Nat) : ∀ (x1 : Int32) (x2 : Int32) (x3 : Int32) (x4 : Int64) (x6 : Int32) (S : CS) (H : Heap) (locs : List Loc), va_P K.1 vwCl (wd K S M o g) H → va_D (inA K) (wd K S M o g) → va_S (inA K) s.heap H locs → G_X6_pyramid_46 z n x1 x2 x3 x4 x6 S = some (r, S') → ∀ ls, lv_has ls 7 [(1, .int x1), (2, .int x2), (3, .int x3), (4, .long x4), (6, .int x6)] → W p l e rm_X6_pyramid s m args below meth c H locs 0 0 (MQ below (qR K (some (.long r)) S' M o g) args s 0 0 (inA K)) (F0 m 46 ls []) := by
  obtain ⟨hx, hb, hml, hown, hts, hr, hlk, hN⟩ := id Cc
  have hcl : 0 ≤ (rm_X6_pyramid).cells := Nat.zero_le _
  have hsl : 0 ≤ (rm_X6_pyramid).slots := Nat.zero_le _
  induction n with
  | zero => intro x1 x2 x3 x4 x6 S H locs hP hD hS h; cases h
  | succ n ih =>
    intro x1 x2 x3 x4 x6 S H locs hP hD hS h ls hl
    rw [G_X6_pyramid_46] at h
    refine lv_iload hx hb dX6_pyramid_46 (lv_at hl 4 rfl) ?_
    refine lv_iload_n hx hb dX6_pyramid_48 rfl (lv_at hl 0 rfl) ?_
    refine lv_icmp_gt (tgt := 85) hx hb dX6_pyramid_49 (by decide) (fun c1 => ?_) (fun c1 => ?_)
    · have h := gn_t h c1
      refine lv_lload hx hb dX6_pyramid_85 (lv_at hl 3 rfl) ?_
      obtain ⟨rfl, rfl⟩ := Prod.mk.inj (gn_some h)
      exact W.lret hx hb hr (fun t ht _ => ⟨rfl, by rw [ht]; exact hP, hD, hS.F ht⟩) hS.2.2 dX6_pyramid_87 hlk
    · have h := gn_f h c1
      refine lv_lload hx hb dX6_pyramid_52 (lv_at hl 3 rfl) ?_
      refine lv_iload_n hx hb dX6_pyramid_54 rfl (lv_at hl 0 rfl) ?_
      refine lv_i2l hx hb dX6_pyramid_55 rfl ?_
      refine lv_iload_n hx hb dX6_pyramid_56 rfl (lv_at hl 2 rfl) ?_
      refine lv_i2l hx hb dX6_pyramid_57 rfl ?_
      refine lv_lmul hx hb dX6_pyramid_58 ?_
      refine lv_iload_n hx hb dX6_pyramid_59 rfl (lv_at hl 0 rfl) ?_
      refine lv_i2l hx hb dX6_pyramid_60 rfl ?_
      refine lv_iload_n hx hb dX6_pyramid_61 rfl (lv_at hl 1 rfl) ?_
      refine lv_i2l hx hb dX6_pyramid_62 rfl ?_
      refine lv_lmul hx hb dX6_pyramid_63 ?_
      refine lv_iload hx hb dX6_pyramid_64 (lv_at hl 4 rfl) ?_
      refine lv_i2l hx hb dX6_pyramid_66 rfl ?_
      refine lv_iload_n hx hb dX6_pyramid_67 rfl (lv_at hl 1 rfl) ?_
      refine lv_i2l hx hb dX6_pyramid_68 rfl ?_
      refine lv_lmul hx hb dX6_pyramid_69 ?_
      refine lv_iload_n hx hb dX6_pyramid_70 rfl (lv_at hl 2 rfl) ?_
      refine lv_i2l hx hb dX6_pyramid_71 rfl ?_
      refine lv_lmul hx hb dX6_pyramid_72 ?_
      obtain ⟨r2, qr2, h⟩ := gn_bd h
      refine pc_S (rest := [.long x4]) ⟨hx, hb, hml, hown, hts⟩ hN (c_X5_pointsBelow l z _ _ _ r2 qr2) (va_cwS 3 hts gX6_pyramid_X5_pointsBelow rfl rfl rfl (by decide +kernel) ⟨(Nat.le_of_ble_eq_true rfl), (Nat.le_of_ble_eq_true rfl)⟩) rfl hl.1 rfl (Nat.le_of_ble_eq_true rfl) dX6_pyramid_73 hcl hsl ?_
      refine lv_ladd hx hb dX6_pyramid_76 ?_
      obtain ⟨v3, ev3, h⟩ := gn_nm h
      refine ln_l ev3 ?_
      refine lv_lstore (lv' := [(4, .long v3), (1, .int x1), (2, .int x2), (3, .int x3), (6, .int x6)]) hx hb dX6_pyramid_77 hl (by decide) rfl (fun ls hl => ?_)
      obtain ⟨v4, ev4, h⟩ := gn_nm h
      refine lv_iinc (v := v4) (lv' := [(6, .int v4), (4, .long v3), (1, .int x1), (2, .int x2), (3, .int x3)]) hx hb dX6_pyramid_79 hl (k := 4) rfl (by rw [ev4]; rfl) (by decide) rfl (fun ls hl => ?_)
      refine lv_goto (tgt := 46) hx hb dX6_pyramid_82 (by decide) ?_
      exact ih x1 x2 x3 v3 v4 S _ _ hP hD hS h ls (lv_sub hl [2, 3, 4, 1, 0] rfl)
end
set_option maxRecDepth 100000 in
theorem c_X6_pyramid (l : Launch) (z : Nat) (K : Ev) (M : MS) (o : Nat → Int64) (g : Gh) (a0 : Int32) (a1 : Int32) (a2 : Int32) (S : CS) (r : Int64) (S' : CS) (h : F_X6_pyramid z a0 a1 a2 S = some (r, S')) : Met l yX6_pyramid wsX6_pyramid rm_X6_pyramid (qH K [.ref (K.2.2.1 0), .int a0, .int a1, .int a2] S M o g) (qR K (some (.long r)) S' M o g) 0 0 (inA K) := by
  refine Met.ofW (cc := cX6_pyramid) (maxL := 7) (ret := (some .long)) (by decide) rfl ?_
  intro p e s m args below meth c s₁ B hml hv
  obtain ⟨rfl, hN, hP, hK, hD, hF⟩ := hv
  have hx := B.exec
  have hb := B.bytes
  have hr := B.returns
  have hts := atoms_spec (ws := wsX6_pyramid) B.pre
  have hown : s.vm.findClass RX6 = some m.cls := findClass_of_methodNamed B.named
  have hlk := B.notSynchronized
  have hcl : 0 ≤ (rm_X6_pyramid).cells := Nat.zero_le _
  have hsl : 0 ≤ (rm_X6_pyramid).slots := Nat.zero_le _
  have Cc : Cx p s m _ meth c cX6_pyramid 7 RX6 wsX6_pyramid (some .long) := ⟨hx, hb, hml, hown, hts, hr, hlk, hN⟩
  have hS : va_S (inA K) s.heap s.heap [] := va_S.rf
  have hl := lv_entry ([.ref (K.2.2.1 0), .int a0, .int a1, .int a2]) (n := 7) (Nat.le_of_ble_eq_true rfl)
  rw [lg_entry_eq]
  generalize (lg_sl ([.ref (K.2.2.1 0), .int a0, .int a1, .int a2]) ++ List.replicate (7 - (lg_sl ([.ref (K.2.2.1 0), .int a0, .int a1, .int a2])).length) Slot.unset).toArray = ls at hl ⊢
  have hl : lv_has ls 7 [(0, .ref (K.2.2.1 0)), (1, .int a0), (2, .int a1), (3, .int a2)] := hl
  rw [F_X6_pyramid] at h
  refine lv_iload_n hx hb dX6_pyramid_0 rfl (lv_at hl 1 rfl) ?_
  refine lv_i2l hx hb dX6_pyramid_1 rfl ?_
  refine lv_lconst (v := (1 : Int64)) hx hb dX6_pyramid_2 (by decide) ?_
  refine lv_ldc2 hx hb hown (hts (.constantLong RX6 144 (300)) (by decide +kernel)) dX6_pyramid_3 ?_
  obtain ⟨r1, qr1, h⟩ := gn_bd h
  refine pc_S (rest := []) ⟨hx, hb, hml, hown, hts⟩ hN (c_X6_lies l z _ _ _ r1 qr1) (va_cwS 3 hts gX6_pyramid_X6_lies rfl rfl rfl (by decide +kernel) ⟨(Nat.le_of_ble_eq_true rfl), (Nat.le_of_ble_eq_true rfl)⟩) rfl hl.1 rfl (Nat.le_of_ble_eq_true rfl) dX6_pyramid_6 hcl hsl ?_
  refine lv_if_eq (tgt := 36) hx hb dX6_pyramid_9 (by decide) (fun c2 => ?_) (fun c2 => ?_)
  · have h := gn_t h c2
    refine lv_ldc2 hx hb hown (hts (.constantLong RX6 67 (-4000000000000000000)) (by decide +kernel)) dX6_pyramid_36 ?_
    obtain ⟨rfl, rfl⟩ := Prod.mk.inj (gn_some h)
    exact W.lret hx hb hr (fun t ht _ => ⟨rfl, by rw [ht]; exact hP, hD, hS.F ht⟩) hS.2.2 dX6_pyramid_39 hlk
  · have h := gn_f h c2
    refine lv_iload_n hx hb dX6_pyramid_12 rfl (lv_at hl 2 rfl) ?_
    refine lv_i2l hx hb dX6_pyramid_13 rfl ?_
    refine lv_lconst (v := (1 : Int64)) hx hb dX6_pyramid_14 (by decide) ?_
    refine lv_ldc2 hx hb hown (hts (.constantLong RX6 144 (300)) (by decide +kernel)) dX6_pyramid_15 ?_
    obtain ⟨r3, qr3, h⟩ := gn_bd h
    refine pc_S (rest := []) ⟨hx, hb, hml, hown, hts⟩ hN (c_X6_lies l z _ _ _ r3 qr3) (va_cwS 3 hts gX6_pyramid_X6_lies rfl rfl rfl (by decide +kernel) ⟨(Nat.le_of_ble_eq_true rfl), (Nat.le_of_ble_eq_true rfl)⟩) rfl hl.1 rfl (Nat.le_of_ble_eq_true rfl) dX6_pyramid_18 hcl hsl ?_
    refine lv_if_eq (tgt := 36) hx hb dX6_pyramid_21 (by decide) (fun c4 => ?_) (fun c4 => ?_)
    · have h := gn_t h c4
      refine lv_ldc2 hx hb hown (hts (.constantLong RX6 67 (-4000000000000000000)) (by decide +kernel)) dX6_pyramid_36 ?_
      obtain ⟨rfl, rfl⟩ := Prod.mk.inj (gn_some h)
      exact W.lret hx hb hr (fun t ht _ => ⟨rfl, by rw [ht]; exact hP, hD, hS.F ht⟩) hS.2.2 dX6_pyramid_39 hlk
    · have h := gn_f h c4
      refine lv_iload_n hx hb dX6_pyramid_24 rfl (lv_at hl 3 rfl) ?_
      refine lv_i2l hx hb dX6_pyramid_25 rfl ?_
      refine lv_lconst (v := (1 : Int64)) hx hb dX6_pyramid_26 (by decide) ?_
      refine lv_ldc2 hx hb hown (hts (.constantLong RX6 144 (300)) (by decide +kernel)) dX6_pyramid_27 ?_
      obtain ⟨r5, qr5, h⟩ := gn_bd h
      refine pc_S (rest := []) ⟨hx, hb, hml, hown, hts⟩ hN (c_X6_lies l z _ _ _ r5 qr5) (va_cwS 3 hts gX6_pyramid_X6_lies rfl rfl rfl (by decide +kernel) ⟨(Nat.le_of_ble_eq_true rfl), (Nat.le_of_ble_eq_true rfl)⟩) rfl hl.1 rfl (Nat.le_of_ble_eq_true rfl) dX6_pyramid_30 hcl hsl ?_
      refine lv_if_ne (tgt := 40) hx hb dX6_pyramid_33 (by decide) (fun c6 => ?_) (fun c6 => ?_)
      · have h := gn_f h c6
        refine lv_lconst (v := (0 : Int64)) hx hb dX6_pyramid_40 (by decide) ?_
        refine lv_lstore (lv' := [(4, .long (0 : Int64)), (0, .ref (K.2.2.1 0)), (1, .int a0), (2, .int a1), (3, .int a2)]) hx hb dX6_pyramid_41 hl (by decide) rfl (fun ls hl => ?_)
        refine lv_iconst (v := (0 : Int32)) hx hb dX6_pyramid_43 (by decide) ?_
        refine lv_istore (lv' := [(6, .int (0 : Int32)), (4, .long (0 : Int64)), (0, .ref (K.2.2.1 0)), (1, .int a0), (2, .int a1), (3, .int a2)]) hx hb dX6_pyramid_44 hl (by decide) rfl (fun ls hl => ?_)
        exact w_X6_pyramid_46 Cc hK hF z a0 a1 a2 (0 : Int64) (0 : Int32) S _ _ hP hD hS h ls (lv_sub hl [3, 4, 5, 1, 0] rfl)
      · have h := gn_t h c6
        refine lv_ldc2 hx hb hown (hts (.constantLong RX6 67 (-4000000000000000000)) (by decide +kernel)) dX6_pyramid_36 ?_
        obtain ⟨rfl, rfl⟩ := Prod.mk.inj (gn_some h)
        exact W.lret hx hb hr (fun t ht _ => ⟨rfl, by rw [ht]; exact hP, hD, hS.F ht⟩) hS.2.2 dX6_pyramid_39 hlk
