def rm_X7_sum_ (d : Nat) : Room := { frames := 10 * d + 10, cells := 0, slots := 0, locals := 400 * d + 400 }
theorem in_X7_laysWord_X7 : ∀ w ∈ wsX70, w ∈ wsX7_laysWord := fun _ h => List.mem_cons_of_mem _ (List.mem_append_right _ h)
def rm_X7_laysWord (d : Nat) : Room := { frames := 10 * d + 11, cells := 0, slots := 0, locals := 400 * d + 440 }
section
variable {p : Program} {l : Launch} {e : Env} {s : State} {m : MethodId} {args : Array Value} {below : List Frame} {meth : Method} {c : Code} {z : Nat} {K : Ev} {C : CS} {o : Nat → Int64} {g : Gh}
set_option maxRecDepth 100000 in
theorem w_X7_laysWord_202 (Cc : Cx p s m args meth c cX7_laysWord 7 RX7 wsX7_laysWord none) (hK : va_K K.1 vwCl (tysOf K) s) (hF : SF K s) {fs : MS → Option MS} {d : Nat} (hfs : ∀ S S', fs S = some S' → Met l yX7_sum_ wsX7_sum_ (rm_X7_sum_ d) (qH K [.ref (K.2.2.1 12)] C S o g) (qR K none C S' o g) 0 0 (inA K))  {S' : MS} : ∀ (x1 : Int32) (x3 : Int64) (x5 : Int64) (S : MS) (H : Heap) (locs : List Loc), va_P K.1 vwCl (wd K C S o g) H → va_D (inA K) (wd K C S o g) → va_S (inA K) s.heap H locs → G_X7_laysWord_202 z fs x1 x3 x5 S = some S' → ∀ ls, lv_has ls 7 [(0, .ref (K.2.2.1 12)), (1, .int x1), (3, .long x3), (5, .long x5)] → W p l e (rm_X7_laysWord d) s m args below meth c H locs 0 0 (MQ below (qR K none C S' o g) args s 0 0 (inA K)) (F0 m 202 ls []) := by
  obtain ⟨hx, hb, hml, hown, hts, hr, hlk, hN⟩ := id Cc
  have hcl : 0 ≤ ((rm_X7_laysWord d)).cells := Nat.zero_le _
  have hsl : 0 ≤ ((rm_X7_laysWord d)).slots := Nat.zero_le _
  intro x1 x3 x5 S H locs hP hD hS h ls hl
  rw [G_X7_laysWord_202] at h
  refine lv_aload_n hx hb dX7_laysWord_202 rfl (lv_at hl 0 rfl) ?_
  obtain ⟨S1, qS1, h⟩ := gn_bd h
  refine hc_V (rest := []) ⟨hx, hb, hml, hown, hts⟩ hN hF hK hP hD hS (c_X7_closes l z K _ o g  _  S1 qS1) (cwV 0 hts gX7_laysWord_X7_closes rfl rfl rfl (by decide +kernel) ⟨(show 2 + 1 ≤ 10 * d + 11 by omega), (show 8 + (1 + 11) + 43 ≤ 400 * d + 440 by omega)⟩) (va_recv hK hP (ci := 6) (q0 := 12) rfl rfl) rfl hl.1 rfl (Nat.le_of_ble_eq_true rfl) dX7_laysWord_203 hcl hsl (fun H locs hP hD hS => ?_)
  have hP : va_P K.1 vwCl (wd K C S1 o g) H := hP
  have hD : va_D (inA K) (wd K C S1 o g) := hD
  refine W.eq (g2 := F0 m 206 ls []) rfl ?_
  refine lv_aload_n hx hb dX7_laysWord_206 rfl (lv_at hl 0 rfl) ?_
  refine va_get (D := K.1) (ci := 6) (v := .int (mg_fault S1)) (C := RX7) (T := TX7) (N := 24) hx hb hts in_X7_laysWord_X7 hown hK hP 12 rfl rfl 13 (by decide) (hts (.fieldLink RX7 191 "SawSumsModel" "fault" "I") (by decide +kernel)) (fun _ h9 => h9) rfl dX7_laysWord_207 ?_
  refine lv_if_eq (tgt := 214) hx hb dX7_laysWord_210 (by decide) (fun c2 => ?_) (fun c2 => ?_)
  · have h := gn_t h c2
    refine lv_aload_n hx hb dX7_laysWord_214 rfl (lv_at hl 0 rfl) ?_
    refine lv_dup hx hb dX7_laysWord_215 rfl ?_
    refine va_get (D := K.1) (ci := 6) (v := .int (mg_oftenNow S1)) (C := RX7) (T := TX7) (N := 24) hx hb hts in_X7_laysWord_X7 hown hK hP 12 rfl rfl 18 (by decide) (hts (.fieldLink RX7 247 "SawSumsModel" "oftenNow" "I") (by decide +kernel)) (fun _ h9 => h9) rfl dX7_laysWord_216 ?_
    refine lv_iconst (v := (1 : Int32)) hx hb dX7_laysWord_219 (by decide) ?_
    refine lv_iadd hx hb dX7_laysWord_220 ?_
    obtain ⟨v3, ev3, h⟩ := gn_nm h
    refine ln_i ev3 ?_
    obtain ⟨S4, eS4, h⟩ := gn_nm h
    refine va_put (D := K.1) (ci := 6) (v := .int v3) (ty := .int) (C := RX7) (T := TX7) (N := 24) hx hb hts in_X7_laysWord_X7 tyX7 tyX7_ok nmX7 hown hK hP hD hS 12 rfl rfl 18 (by decide) (hts (.fieldLink RX7 247 "SawSumsModel" "oftenNow" "I") (by decide +kernel)) (fun _ h9 => h9) rfl (by decide +kernel) rfl rfl (Nat.le_of_ble_eq_true rfl) dX7_laysWord_221 (fun H locs hP hD hS => ?_)
    have hP : va_P K.1 vwCl (wd K C S4 o g) H := by rw [eS4]; exact hP
    have hD : va_D (inA K) (wd K C S4 o g) := by rw [eS4]; exact hD
    refine lv_aload_n hx hb dX7_laysWord_224 rfl (lv_at hl 0 rfl) ?_
    refine lv_lload_n hx hb dX7_laysWord_225 rfl (lv_at hl 2 rfl) ?_
    refine lv_lload hx hb dX7_laysWord_226 (lv_at hl 3 rfl) ?_
    obtain ⟨S5, qS5, h⟩ := gn_bd h
    refine hc_V (rest := []) ⟨hx, hb, hml, hown, hts⟩ hN hF hK hP hD hS (c_X7_laysSum l z K _ o g _ _ _  S5 qS5) (cwV 2 hts gX7_laysWord_X7_laysSum rfl rfl rfl (by decide +kernel) ⟨(show 3 + 1 ≤ 10 * d + 11 by omega), (show 8 + (7 + 11) + 89 ≤ 400 * d + 440 by omega)⟩) (va_recv hK hP (ci := 6) (q0 := 12) rfl rfl) rfl hl.1 rfl (Nat.le_of_ble_eq_true rfl) dX7_laysWord_228 hcl hsl (fun H locs hP hD hS => ?_)
    have hP : va_P K.1 vwCl (wd K C S5 o g) H := hP
    have hD : va_D (inA K) (wd K C S5 o g) := hD
    refine W.eq (g2 := F0 m 231 ls []) rfl ?_
    refine lv_aload_n hx hb dX7_laysWord_231 rfl (lv_at hl 0 rfl) ?_
    refine lv_iload_n hx hb dX7_laysWord_232 rfl (lv_at hl 1 rfl) ?_
    obtain ⟨S6, qS6, h⟩ := gn_bd h
    refine hc_V (rest := []) ⟨hx, hb, hml, hown, hts⟩ hN hF hK hP hD hS (c_X7_piles l z K _ o g _ _  S6 qS6) (cwV 1 hts gX7_laysWord_X7_piles rfl rfl rfl (by decide +kernel) ⟨(show 1 + 1 ≤ 10 * d + 11 by omega), (show 8 + (3 + 11) + 21 ≤ 400 * d + 440 by omega)⟩) (va_recv hK hP (ci := 6) (q0 := 12) rfl rfl) rfl hl.1 rfl (Nat.le_of_ble_eq_true rfl) dX7_laysWord_233 hcl hsl (fun H locs hP hD hS => ?_)
    have hP : va_P K.1 vwCl (wd K C S6 o g) H := hP
    have hD : va_D (inA K) (wd K C S6 o g) := hD
    refine W.eq (g2 := F0 m 236 ls []) rfl ?_
    refine lv_goto (tgt := 269) hx hb dX7_laysWord_236 (by decide) ?_
    obtain rfl := gn_some h
    exact W.vret hx hb hr (fun t ht _ => ⟨rfl, by rw [ht]; exact hP, hD, hS.F ht⟩) hS.2.2 dX7_laysWord_269 hlk
  · have h := gn_f h c2
    obtain rfl := gn_some h
    exact W.vret hx hb hr (fun t ht _ => ⟨rfl, by rw [ht]; exact hP, hD, hS.F ht⟩) hS.2.2 dX7_laysWord_213 hlk
set_option maxRecDepth 100000 in
theorem w_X7_laysWord_85 (Cc : Cx p s m args meth c cX7_laysWord 7 RX7 wsX7_laysWord none) (hK : va_K K.1 vwCl (tysOf K) s) (hF : SF K s) {fs : MS → Option MS} {d : Nat} (hfs : ∀ S S', fs S = some S' → Met l yX7_sum_ wsX7_sum_ (rm_X7_sum_ d) (qH K [.ref (K.2.2.1 12)] C S o g) (qR K none C S' o g) 0 0 (inA K))  {S' : MS} : ∀ (x1 : Int32) (x2 : Int32) (S : MS) (H : Heap) (locs : List Loc), va_P K.1 vwCl (wd K C S o g) H → va_D (inA K) (wd K C S o g) → va_S (inA K) s.heap H locs → G_X7_laysWord_85 z fs x1 x2 S = some S' → ∀ ls, lv_has ls 7 [(0, .ref (K.2.2.1 12)), (1, .int x1), (2, .int x2)] → W p l e (rm_X7_laysWord d) s m args below meth c H locs 0 0 (MQ below (qR K none C S' o g) args s 0 0 (inA K)) (F0 m 85 ls []) := by
  obtain ⟨hx, hb, hml, hown, hts, hr, hlk, hN⟩ := id Cc
  have hcl : 0 ≤ ((rm_X7_laysWord d)).cells := Nat.zero_le _
  have hsl : 0 ≤ ((rm_X7_laysWord d)).slots := Nat.zero_le _
  intro x1 x2 S H locs hP hD hS h ls hl
  rw [G_X7_laysWord_85] at h
  refine lv_iload_n hx hb dX7_laysWord_85 rfl (lv_at hl 2 rfl) ?_
  refine lv_sipush (v := (19511 : Int32)) hx hb dX7_laysWord_86 (by decide) ?_
  refine lv_icmp_ne (tgt := 152) hx hb dX7_laysWord_89 (by decide) (fun c1 => ?_) (fun c1 => ?_)
  · have h := gn_f h c1
    refine lv_iload_n hx hb dX7_laysWord_152 rfl (lv_at hl 2 rfl) ?_
    refine lv_bipush (v := (19 : Int32)) hx hb dX7_laysWord_153 (by decide) ?_
    refine lv_icmp_ne (tgt := 239) hx hb dX7_laysWord_155 (by decide) (fun c2 => ?_) (fun c2 => ?_)
    · have h := gn_f h c2
      refine lv_iload_n hx hb dX7_laysWord_239 rfl (lv_at hl 2 rfl) ?_
      refine lv_sipush (v := (16649 : Int32)) hx hb dX7_laysWord_240 (by decide) ?_
      refine lv_icmp_ne (tgt := 263) hx hb dX7_laysWord_243 (by decide) (fun c3 => ?_) (fun c3 => ?_)
      · have h := gn_f h c3
        refine lv_aload_n hx hb dX7_laysWord_263 rfl (lv_at hl 0 rfl) ?_
        refine lv_iconst (v := (1 : Int32)) hx hb dX7_laysWord_264 (by decide) ?_
        refine lv_iload_n hx hb dX7_laysWord_265 rfl (lv_at hl 1 rfl) ?_
        obtain ⟨S4, qS4, h⟩ := gn_bd h
        refine hc_V (rest := []) ⟨hx, hb, hml, hown, hts⟩ hN hF hK hP hD hS (c_X7_fails l z K _ o g _ _ _  S4 qS4) (cwV 2 hts gX7_laysWord_X7_fails rfl rfl rfl (by decide +kernel) ⟨(show 0 + 1 ≤ 10 * d + 11 by omega), (show 8 + (3 + 11) + 0 ≤ 400 * d + 440 by omega)⟩) (va_recv hK hP (ci := 6) (q0 := 12) rfl rfl) rfl hl.1 rfl (Nat.le_of_ble_eq_true rfl) dX7_laysWord_266 hcl hsl (fun H locs hP hD hS => ?_)
        have hP : va_P K.1 vwCl (wd K C S4 o g) H := hP
        have hD : va_D (inA K) (wd K C S4 o g) := hD
        refine W.eq (g2 := F0 m 269 ls []) rfl ?_
        obtain rfl := gn_some h
        exact W.vret hx hb hr (fun t ht _ => ⟨rfl, by rw [ht]; exact hP, hD, hS.F ht⟩) hS.2.2 dX7_laysWord_269 hlk
      · have h := gn_t h c3
        refine lv_aload_n hx hb dX7_laysWord_246 rfl (lv_at hl 0 rfl) ?_
        refine lv_aload_n hx hb dX7_laysWord_247 rfl (lv_at hl 0 rfl) ?_
        obtain ⟨r5, S6, qS6, h⟩ := gn_bd2 h
        refine hc_V (rest := [.ref (K.2.2.1 12)]) ⟨hx, hb, hml, hown, hts⟩ hN hF hK hP hD hS (c_X7_phi l z K _ o g  _ r5 S6 qS6) (cwV 0 hts gX7_laysWord_X7_phi rfl rfl rfl (by decide +kernel) ⟨(show 3 + 1 ≤ 10 * d + 11 by omega), (show 8 + (1 + 11) + 89 ≤ 400 * d + 440 by omega)⟩) (va_recv hK hP (ci := 6) (q0 := 12) rfl rfl) rfl hl.1 rfl (Nat.le_of_ble_eq_true rfl) dX7_laysWord_248 hcl hsl (fun H locs hP hD hS => ?_)
        have hP : va_P K.1 vwCl (wd K C S6 o g) H := hP
        have hD : va_D (inA K) (wd K C S6 o g) := hD
        refine W.eq (g2 := F0 m 251 ls [.long r5, .ref (K.2.2.1 12)]) rfl ?_
        refine lv_lconst (v := (1 : Int64)) hx hb dX7_laysWord_251 (by decide) ?_
        obtain ⟨S7, qS7, h⟩ := gn_bd h
        refine hc_V (rest := []) ⟨hx, hb, hml, hown, hts⟩ hN hF hK hP hD hS (c_X7_lays l z K _ o g _ _ _  S7 qS7) (cwV 2 hts gX7_laysWord_X7_lays rfl rfl rfl (by decide +kernel) ⟨(show 2 + 1 ≤ 10 * d + 11 by omega), (show 8 + (7 + 11) + 50 ≤ 400 * d + 440 by omega)⟩) (va_recv hK hP (ci := 6) (q0 := 12) rfl rfl) rfl hl.1 rfl (Nat.le_of_ble_eq_true rfl) dX7_laysWord_252 hcl hsl (fun H locs hP hD hS => ?_)
        have hP : va_P K.1 vwCl (wd K C S7 o g) H := hP
        have hD : va_D (inA K) (wd K C S7 o g) := hD
        refine W.eq (g2 := F0 m 255 ls []) rfl ?_
        refine lv_aload_n hx hb dX7_laysWord_255 rfl (lv_at hl 0 rfl) ?_
        refine lv_iload_n hx hb dX7_laysWord_256 rfl (lv_at hl 1 rfl) ?_
        obtain ⟨S8, qS8, h⟩ := gn_bd h
        refine hc_V (rest := []) ⟨hx, hb, hml, hown, hts⟩ hN hF hK hP hD hS (c_X7_piles l z K _ o g _ _  S8 qS8) (cwV 1 hts gX7_laysWord_X7_piles rfl rfl rfl (by decide +kernel) ⟨(show 1 + 1 ≤ 10 * d + 11 by omega), (show 8 + (3 + 11) + 21 ≤ 400 * d + 440 by omega)⟩) (va_recv hK hP (ci := 6) (q0 := 12) rfl rfl) rfl hl.1 rfl (Nat.le_of_ble_eq_true rfl) dX7_laysWord_257 hcl hsl (fun H locs hP hD hS => ?_)
        have hP : va_P K.1 vwCl (wd K C S8 o g) H := hP
        have hD : va_D (inA K) (wd K C S8 o g) := hD
        refine W.eq (g2 := F0 m 260 ls []) rfl ?_
        refine lv_goto (tgt := 269) hx hb dX7_laysWord_260 (by decide) ?_
        obtain rfl := gn_some h
        exact W.vret hx hb hr (fun t ht _ => ⟨rfl, by rw [ht]; exact hP, hD, hS.F ht⟩) hS.2.2 dX7_laysWord_269 hlk
    · have h := gn_t h c2
      refine lv_aload_n hx hb dX7_laysWord_158 rfl (lv_at hl 0 rfl) ?_
      obtain ⟨S9, qS9, h⟩ := gn_bd h
      refine hc_V (rest := []) ⟨hx, hb, hml, hown, hts⟩ hN hF hK hP hD hS (c_X7_opens l z K _ o g  _  S9 qS9) (cwV 0 hts gX7_laysWord_X7_opens rfl rfl rfl (by decide +kernel) ⟨(show 1 + 1 ≤ 10 * d + 11 by omega), (show 8 + (1 + 11) + 22 ≤ 400 * d + 440 by omega)⟩) (va_recv hK hP (ci := 6) (q0 := 12) rfl rfl) rfl hl.1 rfl (Nat.le_of_ble_eq_true rfl) dX7_laysWord_159 hcl hsl (fun H locs hP hD hS => ?_)
      have hP : va_P K.1 vwCl (wd K C S9 o g) H := hP
      have hD : va_D (inA K) (wd K C S9 o g) := hD
      refine W.eq (g2 := F0 m 162 ls []) rfl ?_
      refine lv_aload_n hx hb dX7_laysWord_162 rfl (lv_at hl 0 rfl) ?_
      obtain ⟨r10, S11, qS11, h⟩ := gn_bd2 h
      refine hc_V (rest := []) ⟨hx, hb, hml, hown, hts⟩ hN hF hK hP hD hS (c_X7_whole l z K _ o g  _ r10 S11 qS11) (cwV 0 hts gX7_laysWord_X7_whole rfl rfl rfl (by decide +kernel) ⟨(show 2 + 1 ≤ 10 * d + 11 by omega), (show 8 + (4 + 11) + 47 ≤ 400 * d + 440 by omega)⟩) (va_recv hK hP (ci := 6) (q0 := 12) rfl rfl) rfl hl.1 rfl (Nat.le_of_ble_eq_true rfl) dX7_laysWord_163 hcl hsl (fun H locs hP hD hS => ?_)
      have hP : va_P K.1 vwCl (wd K C S11 o g) H := hP
      have hD : va_D (inA K) (wd K C S11 o g) := hD
      refine W.eq (g2 := F0 m 166 ls [.long r10]) rfl ?_
      refine lv_lstore_n (lv' := [(3, .long r10), (0, .ref (K.2.2.1 12)), (1, .int x1), (2, .int x2)]) hx hb dX7_laysWord_166 rfl hl (by decide) rfl (fun ls hl => ?_)
      refine lv_aload_n hx hb dX7_laysWord_167 rfl (lv_at hl 1 rfl) ?_
      refine lv_bipush (v := (44 : Int32)) hx hb dX7_laysWord_168 (by decide) ?_
      obtain ⟨S12, qS12, h⟩ := gn_bd h
      refine hc_V (rest := []) ⟨hx, hb, hml, hown, hts⟩ hN hF hK hP hD hS (c_X7_sign l z K _ o g _ _  S12 qS12) (cwV 1 hts gX7_laysWord_X7_sign rfl rfl rfl (by decide +kernel) ⟨(show 1 + 1 ≤ 10 * d + 11 by omega), (show 8 + (2 + 11) + 22 ≤ 400 * d + 440 by omega)⟩) (va_recv hK hP (ci := 6) (q0 := 12) rfl rfl) rfl hl.1 rfl (Nat.le_of_ble_eq_true rfl) dX7_laysWord_170 hcl hsl (fun H locs hP hD hS => ?_)
      have hP : va_P K.1 vwCl (wd K C S12 o g) H := hP
      have hD : va_D (inA K) (wd K C S12 o g) := hD
      refine W.eq (g2 := F0 m 173 ls []) rfl ?_
      refine lv_aload_n hx hb dX7_laysWord_173 rfl (lv_at hl 1 rfl) ?_
      obtain ⟨r13, S14, qS14, h⟩ := gn_bd2 h
      refine hc_V (rest := []) ⟨hx, hb, hml, hown, hts⟩ hN hF hK hP hD hS (c_X7_whole l z K _ o g  _ r13 S14 qS14) (cwV 0 hts gX7_laysWord_X7_whole rfl rfl rfl (by decide +kernel) ⟨(show 2 + 1 ≤ 10 * d + 11 by omega), (show 8 + (4 + 11) + 47 ≤ 400 * d + 440 by omega)⟩) (va_recv hK hP (ci := 6) (q0 := 12) rfl rfl) rfl hl.1 rfl (Nat.le_of_ble_eq_true rfl) dX7_laysWord_174 hcl hsl (fun H locs hP hD hS => ?_)
      have hP : va_P K.1 vwCl (wd K C S14 o g) H := hP
      have hD : va_D (inA K) (wd K C S14 o g) := hD
      refine W.eq (g2 := F0 m 177 ls [.long r13]) rfl ?_
      refine lv_lstore (lv' := [(5, .long r13), (3, .long r10), (0, .ref (K.2.2.1 12)), (1, .int x1), (2, .int x2)]) hx hb dX7_laysWord_177 hl (by decide) rfl (fun ls hl => ?_)
      refine lv_aload_n hx hb dX7_laysWord_179 rfl (lv_at hl 2 rfl) ?_
      refine va_get (D := K.1) (ci := 6) (v := .int (mg_fault S14)) (C := RX7) (T := TX7) (N := 24) hx hb hts in_X7_laysWord_X7 hown hK hP 12 rfl rfl 13 (by decide) (hts (.fieldLink RX7 191 "SawSumsModel" "fault" "I") (by decide +kernel)) (fun _ h9 => h9) rfl dX7_laysWord_180 ?_
      refine lv_if_ne (tgt := 202) hx hb dX7_laysWord_183 (by decide) (fun c15 => ?_) (fun c15 => ?_)
      · have h := gn_f h c15
        exact w_X7_laysWord_202 Cc hK hF hfs x1 r10 r13 S14 _ _ hP hD hS h ls (lv_sub hl [2, 3, 1, 0] rfl)
      · have h := gn_t h c15
        refine lv_lload hx hb dX7_laysWord_186 (lv_at hl 0 rfl) ?_
        refine lv_lconst (v := (0 : Int64)) hx hb dX7_laysWord_188 (by decide) ?_
        refine ll_gt (tgt := 202) hx hb dX7_laysWord_189 dX7_laysWord_190 (by decide) (fun c16 => ?_) (fun c16 => ?_)
        · have h := gn_t h c16
          exact w_X7_laysWord_202 Cc hK hF hfs x1 r10 r13 S14 _ _ hP hD hS h ls (lv_sub hl [2, 3, 1, 0] rfl)
        · have h := gn_f h c16
          refine lv_aload_n hx hb dX7_laysWord_193 rfl (lv_at hl 2 rfl) ?_
          refine lv_iconst (v := (2 : Int32)) hx hb dX7_laysWord_194 (by decide) ?_
          refine lv_aload_n hx hb dX7_laysWord_195 rfl (lv_at hl 2 rfl) ?_
          refine va_get (D := K.1) (ci := 6) (v := .int (mg_from S14)) (C := RX7) (T := TX7) (N := 24) hx hb hts in_X7_laysWord_X7 hown hK hP 12 rfl rfl 12 (by decide) (hts (.fieldLink RX7 204 "SawSumsModel" "from" "I") (by decide +kernel)) (fun _ h9 => h9) rfl dX7_laysWord_196 ?_
          obtain ⟨S17, qS17, h⟩ := gn_bd h
          refine hc_V (rest := []) ⟨hx, hb, hml, hown, hts⟩ hN hF hK hP hD hS (c_X7_fails l z K _ o g _ _ _  S17 qS17) (cwV 2 hts gX7_laysWord_X7_fails rfl rfl rfl (by decide +kernel) ⟨(show 0 + 1 ≤ 10 * d + 11 by omega), (show 8 + (3 + 11) + 0 ≤ 400 * d + 440 by omega)⟩) (va_recv hK hP (ci := 6) (q0 := 12) rfl rfl) rfl hl.1 rfl (Nat.le_of_ble_eq_true rfl) dX7_laysWord_199 hcl hsl (fun H locs hP hD hS => ?_)
          have hP : va_P K.1 vwCl (wd K C S17 o g) H := hP
          have hD : va_D (inA K) (wd K C S17 o g) := hD
          refine W.eq (g2 := F0 m 202 ls []) rfl ?_
          exact w_X7_laysWord_202 Cc hK hF hfs x1 r10 r13 S17 _ _ hP hD hS h ls (lv_sub hl [2, 3, 1, 0] rfl)
  · have h := gn_t h c1
    refine lv_aload_n hx hb dX7_laysWord_92 rfl (lv_at hl 0 rfl) ?_
    obtain ⟨S18, qS18, h⟩ := gn_bd h
    refine hc_V (rest := []) ⟨hx, hb, hml, hown, hts⟩ hN hF hK hP hD hS (c_X7_opens l z K _ o g  _  S18 qS18) (cwV 0 hts gX7_laysWord_X7_opens rfl rfl rfl (by decide +kernel) ⟨(show 1 + 1 ≤ 10 * d + 11 by omega), (show 8 + (1 + 11) + 22 ≤ 400 * d + 440 by omega)⟩) (va_recv hK hP (ci := 6) (q0 := 12) rfl rfl) rfl hl.1 rfl (Nat.le_of_ble_eq_true rfl) dX7_laysWord_93 hcl hsl (fun H locs hP hD hS => ?_)
    have hP : va_P K.1 vwCl (wd K C S18 o g) H := hP
    have hD : va_D (inA K) (wd K C S18 o g) := hD
    refine W.eq (g2 := F0 m 96 ls []) rfl ?_
    refine lv_aload_n hx hb dX7_laysWord_96 rfl (lv_at hl 0 rfl) ?_
    obtain ⟨S19, qS19, h⟩ := gn_bd h
    refine hc_V (rest := []) ⟨hx, hb, hml, hown, hts⟩ hN hF hK hP hD hS (hfs _ S19 qS19) (cwV 0 hts gX7_laysWord_X7_sum_ rfl rfl rfl (by decide +kernel) ⟨(show (10 * d + 10) + 1 ≤ 10 * d + 11 by omega), (show 8 + (3 + 11) + (400 * d + 400) ≤ 400 * d + 440 by omega)⟩) (va_recv hK hP (ci := 6) (q0 := 12) rfl rfl) rfl hl.1 rfl (Nat.le_of_ble_eq_true rfl) dX7_laysWord_97 hcl hsl (fun H locs hP hD hS => ?_)
    have hP : va_P K.1 vwCl (wd K C S19 o g) H := hP
    have hD : va_D (inA K) (wd K C S19 o g) := hD
    refine W.eq (g2 := F0 m 100 ls []) rfl ?_
    refine lv_aload_n hx hb dX7_laysWord_100 rfl (lv_at hl 0 rfl) ?_
    obtain ⟨S20, qS20, h⟩ := gn_bd h
    refine hc_V (rest := []) ⟨hx, hb, hml, hown, hts⟩ hN hF hK hP hD hS (c_X7_closes l z K _ o g  _  S20 qS20) (cwV 0 hts gX7_laysWord_X7_closes rfl rfl rfl (by decide +kernel) ⟨(show 2 + 1 ≤ 10 * d + 11 by omega), (show 8 + (1 + 11) + 43 ≤ 400 * d + 440 by omega)⟩) (va_recv hK hP (ci := 6) (q0 := 12) rfl rfl) rfl hl.1 rfl (Nat.le_of_ble_eq_true rfl) dX7_laysWord_101 hcl hsl (fun H locs hP hD hS => ?_)
    have hP : va_P K.1 vwCl (wd K C S20 o g) H := hP
    have hD : va_D (inA K) (wd K C S20 o g) := hD
    refine W.eq (g2 := F0 m 104 ls []) rfl ?_
    refine lv_aload_n hx hb dX7_laysWord_104 rfl (lv_at hl 0 rfl) ?_
    refine va_get (D := K.1) (ci := 6) (v := .int (mg_fault S20)) (C := RX7) (T := TX7) (N := 24) hx hb hts in_X7_laysWord_X7 hown hK hP 12 rfl rfl 13 (by decide) (hts (.fieldLink RX7 191 "SawSumsModel" "fault" "I") (by decide +kernel)) (fun _ h9 => h9) rfl dX7_laysWord_105 ?_
    refine lv_if_eq (tgt := 112) hx hb dX7_laysWord_108 (by decide) (fun c21 => ?_) (fun c21 => ?_)
    · have h := gn_t h c21
      refine lv_aload_n hx hb dX7_laysWord_112 rfl (lv_at hl 0 rfl) ?_
      refine lv_dup hx hb dX7_laysWord_113 rfl ?_
      refine va_get (D := K.1) (ci := 6) (v := .int (mg_piled S20)) (C := RX7) (T := TX7) (N := 24) hx hb hts in_X7_laysWord_X7 hown hK hP 12 rfl rfl 19 (by decide) (hts (.fieldLink RX7 197 "SawSumsModel" "piled" "I") (by decide +kernel)) (fun _ h9 => h9) rfl dX7_laysWord_114 ?_
      refine lv_iconst (v := (1 : Int32)) hx hb dX7_laysWord_117 (by decide) ?_
      refine lv_isub hx hb dX7_laysWord_118 ?_
      obtain ⟨v22, ev22, h⟩ := gn_nm h
      refine ln_i ev22 ?_
      obtain ⟨S23, eS23, h⟩ := gn_nm h
      refine va_put (D := K.1) (ci := 6) (v := .int v22) (ty := .int) (C := RX7) (T := TX7) (N := 24) hx hb hts in_X7_laysWord_X7 tyX7 tyX7_ok nmX7 hown hK hP hD hS 12 rfl rfl 19 (by decide) (hts (.fieldLink RX7 197 "SawSumsModel" "piled" "I") (by decide +kernel)) (fun _ h9 => h9) rfl (by decide +kernel) rfl rfl (Nat.le_of_ble_eq_true rfl) dX7_laysWord_119 (fun H locs hP hD hS => ?_)
      have hP : va_P K.1 vwCl (wd K C S23 o g) H := by rw [eS23]; exact hP
      have hD : va_D (inA K) (wd K C S23 o g) := by rw [eS23]; exact hD
      refine lv_aload_n hx hb dX7_laysWord_122 rfl (lv_at hl 0 rfl) ?_
      refine lv_aload_n hx hb dX7_laysWord_123 rfl (lv_at hl 0 rfl) ?_
      refine va_get (D := K.1) (ci := 6) (v := .ref (K.2.2.1 15)) (C := RX7) (T := TX7) (N := 24) hx hb hts in_X7_laysWord_X7 hown hK hP 12 rfl rfl 20 (by decide) (hts (.fieldLink RX7 17 "SawSumsModel" "tops" "[J") (by decide +kernel)) (fun _ h9 => h9) rfl dX7_laysWord_124 ?_
      refine lv_aload_n hx hb dX7_laysWord_127 rfl (lv_at hl 0 rfl) ?_
      refine va_get (D := K.1) (ci := 6) (v := .int (mg_piled S23)) (C := RX7) (T := TX7) (N := 24) hx hb hts in_X7_laysWord_X7 hown hK hP 12 rfl rfl 19 (by decide) (hts (.fieldLink RX7 197 "SawSumsModel" "piled" "I") (by decide +kernel)) (fun _ h9 => h9) rfl dX7_laysWord_128 ?_
      obtain ⟨n24, h⟩ := gn_yz h
      refine va_lald hx hb hK hP 15 0 rfl rfl (ib_in n24) dX7_laysWord_131 ?_
      refine lv_aload_n hx hb dX7_laysWord_132 rfl (lv_at hl 0 rfl) ?_
      refine va_get (D := K.1) (ci := 6) (v := .ref (K.2.2.1 16)) (C := RX7) (T := TX7) (N := 24) hx hb hts in_X7_laysWord_X7 hown hK hP 12 rfl rfl 21 (by decide) (hts (.fieldLink RX7 20 "SawSumsModel" "bottoms" "[J") (by decide +kernel)) (fun _ h9 => h9) rfl dX7_laysWord_133 ?_
      refine lv_aload_n hx hb dX7_laysWord_136 rfl (lv_at hl 0 rfl) ?_
      refine va_get (D := K.1) (ci := 6) (v := .int (mg_piled S23)) (C := RX7) (T := TX7) (N := 24) hx hb hts in_X7_laysWord_X7 hown hK hP 12 rfl rfl 19 (by decide) (hts (.fieldLink RX7 197 "SawSumsModel" "piled" "I") (by decide +kernel)) (fun _ h9 => h9) rfl dX7_laysWord_137 ?_
      obtain ⟨n25, h⟩ := gn_yz h
      refine va_lald hx hb hK hP 16 0 rfl rfl (ib_in n25) dX7_laysWord_140 ?_
      obtain ⟨S26, qS26, h⟩ := gn_bd h
      refine hc_V (rest := []) ⟨hx, hb, hml, hown, hts⟩ hN hF hK hP hD hS (c_X7_laysSaw l z K _ o g _ _ _  S26 qS26) (cwV 2 hts gX7_laysWord_X7_laysSaw rfl rfl rfl (by decide +kernel) ⟨(show 3 + 1 ≤ 10 * d + 11 by omega), (show 8 + (7 + 11) + 76 ≤ 400 * d + 440 by omega)⟩) (va_recv hK hP (ci := 6) (q0 := 12) rfl rfl) rfl hl.1 rfl (Nat.le_of_ble_eq_true rfl) dX7_laysWord_141 hcl hsl (fun H locs hP hD hS => ?_)
      have hP : va_P K.1 vwCl (wd K C S26 o g) H := hP
      have hD : va_D (inA K) (wd K C S26 o g) := hD
      refine W.eq (g2 := F0 m 144 ls []) rfl ?_
      refine lv_aload_n hx hb dX7_laysWord_144 rfl (lv_at hl 0 rfl) ?_
      refine lv_iload_n hx hb dX7_laysWord_145 rfl (lv_at hl 1 rfl) ?_
      obtain ⟨S27, qS27, h⟩ := gn_bd h
      refine hc_V (rest := []) ⟨hx, hb, hml, hown, hts⟩ hN hF hK hP hD hS (c_X7_piles l z K _ o g _ _  S27 qS27) (cwV 1 hts gX7_laysWord_X7_piles rfl rfl rfl (by decide +kernel) ⟨(show 1 + 1 ≤ 10 * d + 11 by omega), (show 8 + (3 + 11) + 21 ≤ 400 * d + 440 by omega)⟩) (va_recv hK hP (ci := 6) (q0 := 12) rfl rfl) rfl hl.1 rfl (Nat.le_of_ble_eq_true rfl) dX7_laysWord_146 hcl hsl (fun H locs hP hD hS => ?_)
      have hP : va_P K.1 vwCl (wd K C S27 o g) H := hP
      have hD : va_D (inA K) (wd K C S27 o g) := hD
      refine W.eq (g2 := F0 m 149 ls []) rfl ?_
      refine lv_goto (tgt := 269) hx hb dX7_laysWord_149 (by decide) ?_
      obtain rfl := gn_some h
      exact W.vret hx hb hr (fun t ht _ => ⟨rfl, by rw [ht]; exact hP, hD, hS.F ht⟩) hS.2.2 dX7_laysWord_269 hlk
    · have h := gn_f h c21
      obtain rfl := gn_some h
      exact W.vret hx hb hr (fun t ht _ => ⟨rfl, by rw [ht]; exact hP, hD, hS.F ht⟩) hS.2.2 dX7_laysWord_111 hlk
set_option maxRecDepth 100000 in
theorem w_X7_laysWord_7 (Cc : Cx p s m args meth c cX7_laysWord 7 RX7 wsX7_laysWord none) (hK : va_K K.1 vwCl (tysOf K) s) (hF : SF K s) {fs : MS → Option MS} {d : Nat} (hfs : ∀ S S', fs S = some S' → Met l yX7_sum_ wsX7_sum_ (rm_X7_sum_ d) (qH K [.ref (K.2.2.1 12)] C S o g) (qR K none C S' o g) 0 0 (inA K))  {S' : MS} (n : Nat) : ∀ (x1 : Int32) (x2 : Int32) (S : MS) (H : Heap) (locs : List Loc), va_P K.1 vwCl (wd K C S o g) H → va_D (inA K) (wd K C S o g) → va_S (inA K) s.heap H locs → G_X7_laysWord_7 z fs n x1 x2 S = some S' → ∀ ls, lv_has ls 7 [(0, .ref (K.2.2.1 12)), (1, .int x1), (2, .int x2)] → W p l e (rm_X7_laysWord d) s m args below meth c H locs 0 0 (MQ below (qR K none C S' o g) args s 0 0 (inA K)) (F0 m 7 ls []) := by
  obtain ⟨hx, hb, hml, hown, hts, hr, hlk, hN⟩ := id Cc
  have hcl : 0 ≤ ((rm_X7_laysWord d)).cells := Nat.zero_le _
  have hsl : 0 ≤ ((rm_X7_laysWord d)).slots := Nat.zero_le _
  induction n with
  | zero => intro x1 x2 S H locs hP hD hS h; cases h
  | succ n ih =>
    intro x1 x2 S H locs hP hD hS h ls hl
    rw [G_X7_laysWord_7] at h
    refine lv_aload_n hx hb dX7_laysWord_7 rfl (lv_at hl 0 rfl) ?_
    refine va_get (D := K.1) (ci := 6) (v := .int (mg_at S)) (C := RX7) (T := TX7) (N := 24) hx hb hts in_X7_laysWord_X7 hown hK hP 12 rfl rfl 11 (by decide) (hts (.fieldLink RX7 185 "SawSumsModel" "at" "I") (by decide +kernel)) (fun _ h9 => h9) rfl dX7_laysWord_8 ?_
    refine lv_aload_n hx hb dX7_laysWord_11 rfl (lv_at hl 0 rfl) ?_
    refine va_get (D := K.1) (ci := 6) (v := .int (mg_length S)) (C := RX7) (T := TX7) (N := 24) hx hb hts in_X7_laysWord_X7 hown hK hP 12 rfl rfl 10 (by decide) (hts (.fieldLink RX7 188 "SawSumsModel" "length" "I") (by decide +kernel)) (fun _ h9 => h9) rfl dX7_laysWord_12 ?_
    refine lv_icmp_ge (tgt := 85) hx hb dX7_laysWord_15 (by decide) (fun c1 => ?_) (fun c1 => ?_)
    · have h := gn_t h c1
      exact w_X7_laysWord_85 Cc hK hF hfs x1 x2 S _ _ hP hD hS h ls (lv_sub hl [0, 1, 2] rfl)
    · have h := gn_f h c1
      refine lv_aload_n hx hb dX7_laysWord_18 rfl (lv_at hl 0 rfl) ?_
      refine va_get (D := K.1) (ci := 6) (v := .ref (K.2.2.1 14)) (C := RX7) (T := TX7) (N := 24) hx hb hts in_X7_laysWord_X7 hown hK hP 12 rfl rfl 8 (by decide) (hts (.fieldLink RX7 13 "SawSumsModel" "tape" "[B") (by decide +kernel)) (fun _ h9 => h9) rfl dX7_laysWord_19 ?_
      refine lv_aload_n hx hb dX7_laysWord_22 rfl (lv_at hl 0 rfl) ?_
      refine va_get (D := K.1) (ci := 6) (v := .int (mg_at S)) (C := RX7) (T := TX7) (N := 24) hx hb hts in_X7_laysWord_X7 hown hK hP 12 rfl rfl 11 (by decide) (hts (.fieldLink RX7 185 "SawSumsModel" "at" "I") (by decide +kernel)) (fun _ h9 => h9) rfl dX7_laysWord_23 ?_
      obtain ⟨n2, h⟩ := gn_yz h
      refine va_bald hx hb hK hP 14 1 rfl rfl (ib_in n2) dX7_laysWord_26 ?_
      refine lv_i2l hx hb dX7_laysWord_27 rfl ?_
      refine lv_ldc2 hx hb hown (hts (.constantLong RX7 231 (97)) (by decide +kernel)) dX7_laysWord_28 ?_
      refine lv_ldc2 hx hb hown (hts (.constantLong RX7 233 (122)) (by decide +kernel)) dX7_laysWord_31 ?_
      obtain ⟨r3, qr3, h⟩ := gn_bd h
      refine pc_S (rest := []) ⟨hx, hb, hml, hown, hts⟩ hN (c_X7_isIn l z _ _ _ r3 qr3) (va_cwS 3 hts gX7_laysWord_X7_isIn rfl rfl rfl (by decide +kernel) ⟨(show 0 + 1 ≤ 10 * d + 11 by omega), (show 8 + (6 + 11) + 0 ≤ 400 * d + 440 by omega)⟩) rfl hl.1 rfl (Nat.le_of_ble_eq_true rfl) dX7_laysWord_34 hcl hsl ?_
      refine lv_if_eq (tgt := 85) hx hb dX7_laysWord_37 (by decide) (fun c4 => ?_) (fun c4 => ?_)
      · have h := gn_t h c4
        exact w_X7_laysWord_85 Cc hK hF hfs x1 x2 S _ _ hP hD hS h ls (lv_sub hl [0, 1, 2] rfl)
      · have h := gn_f h c4
        refine lv_aload_n hx hb dX7_laysWord_40 rfl (lv_at hl 0 rfl) ?_
        refine va_get (D := K.1) (ci := 6) (v := .int (mg_at S)) (C := RX7) (T := TX7) (N := 24) hx hb hts in_X7_laysWord_X7 hown hK hP 12 rfl rfl 11 (by decide) (hts (.fieldLink RX7 185 "SawSumsModel" "at" "I") (by decide +kernel)) (fun _ h9 => h9) rfl dX7_laysWord_41 ?_
        refine lv_iload_n hx hb dX7_laysWord_44 rfl (lv_at hl 1 rfl) ?_
        refine lv_isub hx hb dX7_laysWord_45 ?_
        refine lv_iconst (v := (4 : Int32)) hx hb dX7_laysWord_46 (by decide) ?_
        refine lv_icmp_ge (tgt := 70) hx hb dX7_laysWord_47 (by decide) (fun c5 => ?_) (fun c5 => ?_)
        · have h := gn_t h c5
          refine lv_iconst (v := (0 : Int32)) hx hb dX7_laysWord_70 (by decide) ?_
          refine lv_istore_n (lv' := [(2, .int (0 : Int32)), (0, .ref (K.2.2.1 12)), (1, .int x1)]) hx hb dX7_laysWord_71 rfl hl (by decide) rfl (fun ls hl => ?_)
          refine lv_aload_n hx hb dX7_laysWord_72 rfl (lv_at hl 1 rfl) ?_
          refine lv_dup hx hb dX7_laysWord_73 rfl ?_
          refine va_get (D := K.1) (ci := 6) (v := .int (mg_at S)) (C := RX7) (T := TX7) (N := 24) hx hb hts in_X7_laysWord_X7 hown hK hP 12 rfl rfl 11 (by decide) (hts (.fieldLink RX7 185 "SawSumsModel" "at" "I") (by decide +kernel)) (fun _ h9 => h9) rfl dX7_laysWord_74 ?_
          refine lv_iconst (v := (1 : Int32)) hx hb dX7_laysWord_77 (by decide) ?_
          refine lv_iadd hx hb dX7_laysWord_78 ?_
          obtain ⟨v6, ev6, h⟩ := gn_nm h
          refine ln_i ev6 ?_
          obtain ⟨S7, eS7, h⟩ := gn_nm h
          refine va_put (D := K.1) (ci := 6) (v := .int v6) (ty := .int) (C := RX7) (T := TX7) (N := 24) hx hb hts in_X7_laysWord_X7 tyX7 tyX7_ok nmX7 hown hK hP hD hS 12 rfl rfl 11 (by decide) (hts (.fieldLink RX7 185 "SawSumsModel" "at" "I") (by decide +kernel)) (fun _ h9 => h9) rfl (by decide +kernel) rfl rfl (Nat.le_of_ble_eq_true rfl) dX7_laysWord_79 (fun H locs hP hD hS => ?_)
          have hP : va_P K.1 vwCl (wd K C S7 o g) H := by rw [eS7]; exact hP
          have hD : va_D (inA K) (wd K C S7 o g) := by rw [eS7]; exact hD
          refine lv_goto (tgt := 7) hx hb dX7_laysWord_82 (by decide) ?_
          exact ih x1 (0 : Int32) S7 _ _ hP hD hS h ls (lv_sub hl [1, 2, 0] rfl)
        · have h := gn_f h c5
          refine lv_bipush (v := (32 : Int32)) hx hb dX7_laysWord_50 (by decide) ?_
          refine lv_iload_n hx hb dX7_laysWord_52 rfl (lv_at hl 2 rfl) ?_
          refine lv_imul hx hb dX7_laysWord_53 ?_
          refine lv_aload_n hx hb dX7_laysWord_54 rfl (lv_at hl 0 rfl) ?_
          refine va_get (D := K.1) (ci := 6) (v := .ref (K.2.2.1 14)) (C := RX7) (T := TX7) (N := 24) hx hb hts in_X7_laysWord_X7 hown hK hP 12 rfl rfl 8 (by decide) (hts (.fieldLink RX7 13 "SawSumsModel" "tape" "[B") (by decide +kernel)) (fun _ h9 => h9) rfl dX7_laysWord_55 ?_
          refine lv_aload_n hx hb dX7_laysWord_58 rfl (lv_at hl 0 rfl) ?_
          refine va_get (D := K.1) (ci := 6) (v := .int (mg_at S)) (C := RX7) (T := TX7) (N := 24) hx hb hts in_X7_laysWord_X7 hown hK hP 12 rfl rfl 11 (by decide) (hts (.fieldLink RX7 185 "SawSumsModel" "at" "I") (by decide +kernel)) (fun _ h9 => h9) rfl dX7_laysWord_59 ?_
          obtain ⟨n8, h⟩ := gn_yz h
          refine va_bald hx hb hK hP 14 1 rfl rfl (ib_in n8) dX7_laysWord_62 ?_
          refine lv_iadd hx hb dX7_laysWord_63 ?_
          refine lv_bipush (v := (96 : Int32)) hx hb dX7_laysWord_64 (by decide) ?_
          refine lv_isub hx hb dX7_laysWord_66 ?_
          refine lv_goto (tgt := 71) hx hb dX7_laysWord_67 (by decide) ?_
          obtain ⟨v9, ev9, h⟩ := gn_nm h
          refine ln_i ev9 ?_
          refine lv_istore_n (lv' := [(2, .int v9), (0, .ref (K.2.2.1 12)), (1, .int x1)]) hx hb dX7_laysWord_71 rfl hl (by decide) rfl (fun ls hl => ?_)
          refine lv_aload_n hx hb dX7_laysWord_72 rfl (lv_at hl 1 rfl) ?_
          refine lv_dup hx hb dX7_laysWord_73 rfl ?_
          refine va_get (D := K.1) (ci := 6) (v := .int (mg_at S)) (C := RX7) (T := TX7) (N := 24) hx hb hts in_X7_laysWord_X7 hown hK hP 12 rfl rfl 11 (by decide) (hts (.fieldLink RX7 185 "SawSumsModel" "at" "I") (by decide +kernel)) (fun _ h9 => h9) rfl dX7_laysWord_74 ?_
          refine lv_iconst (v := (1 : Int32)) hx hb dX7_laysWord_77 (by decide) ?_
          refine lv_iadd hx hb dX7_laysWord_78 ?_
          obtain ⟨v10, ev10, h⟩ := gn_nm h
          refine ln_i ev10 ?_
          obtain ⟨S11, eS11, h⟩ := gn_nm h
          refine va_put (D := K.1) (ci := 6) (v := .int v10) (ty := .int) (C := RX7) (T := TX7) (N := 24) hx hb hts in_X7_laysWord_X7 tyX7 tyX7_ok nmX7 hown hK hP hD hS 12 rfl rfl 11 (by decide) (hts (.fieldLink RX7 185 "SawSumsModel" "at" "I") (by decide +kernel)) (fun _ h9 => h9) rfl (by decide +kernel) rfl rfl (Nat.le_of_ble_eq_true rfl) dX7_laysWord_79 (fun H locs hP hD hS => ?_)
          have hP : va_P K.1 vwCl (wd K C S11 o g) H := by rw [eS11]; exact hP
          have hD : va_D (inA K) (wd K C S11 o g) := by rw [eS11]; exact hD
          refine lv_goto (tgt := 7) hx hb dX7_laysWord_82 (by decide) ?_
          exact ih x1 v9 S11 _ _ hP hD hS h ls (lv_sub hl [1, 2, 0] rfl)
end
set_option maxRecDepth 100000 in
theorem c_X7_laysWord (l : Launch) (z : Nat) (K : Ev) (C : CS) (o : Nat → Int64) (g : Gh) (fs : MS → Option MS) (d : Nat) (hfs : ∀ S S', fs S = some S' → Met l yX7_sum_ wsX7_sum_ (rm_X7_sum_ d) (qH K [.ref (K.2.2.1 12)] C S o g) (qR K none C S' o g) 0 0 (inA K))  (S : MS)  (S' : MS) (h : F_X7_laysWord z fs S = some S') : Met l yX7_laysWord wsX7_laysWord (rm_X7_laysWord d) (qH K [.ref (K.2.2.1 12)] C S o g) (qR K none C S' o g) 0 0 (inA K) := by
  refine Met.ofW (cc := cX7_laysWord) (maxL := 7) (ret := none) (by decide) rfl ?_
  intro p e s m args below meth c s₁ B hml hv
  obtain ⟨rfl, hN, hP, hK, hD, hF⟩ := hv
  have hx := B.exec
  have hb := B.bytes
  have hr := B.returns
  have hts := atoms_spec (ws := wsX7_laysWord) B.pre
  have hown : s.vm.findClass RX7 = some m.cls := findClass_of_methodNamed B.named
  have hlk := B.notSynchronized
  have hcl : 0 ≤ ((rm_X7_laysWord d)).cells := Nat.zero_le _
  have hsl : 0 ≤ ((rm_X7_laysWord d)).slots := Nat.zero_le _
  have Cc : Cx p s m _ meth c cX7_laysWord 7 RX7 wsX7_laysWord none := ⟨hx, hb, hml, hown, hts, hr, hlk, hN⟩
  have hS : va_S (inA K) s.heap s.heap [] := va_S.rf
  have hl := lv_entry ([.ref (K.2.2.1 12)]) (n := 7) (Nat.le_of_ble_eq_true rfl)
  rw [lg_entry_eq]
  generalize (lg_sl ([.ref (K.2.2.1 12)]) ++ List.replicate (7 - (lg_sl ([.ref (K.2.2.1 12)])).length) Slot.unset).toArray = ls at hl ⊢
  have hl : lv_has ls 7 [(0, .ref (K.2.2.1 12))] := hl
  rw [F_X7_laysWord] at h
  refine lv_aload_n hx hb dX7_laysWord_0 rfl (lv_at hl 0 rfl) ?_
  refine va_get (D := K.1) (ci := 6) (v := .int (mg_at S)) (C := RX7) (T := TX7) (N := 24) hx hb hts in_X7_laysWord_X7 hown hK hP 12 rfl rfl 11 (by decide) (hts (.fieldLink RX7 185 "SawSumsModel" "at" "I") (by decide +kernel)) (fun _ h9 => h9) rfl dX7_laysWord_1 ?_
  obtain ⟨v1, ev1, h⟩ := gn_nm h
  refine ln_i ev1 ?_
  refine lv_istore_n (lv' := [(1, .int v1), (0, .ref (K.2.2.1 12))]) hx hb dX7_laysWord_4 rfl hl (by decide) rfl (fun ls hl => ?_)
  refine lv_iconst (v := (0 : Int32)) hx hb dX7_laysWord_5 (by decide) ?_
  refine lv_istore_n (lv' := [(2, .int (0 : Int32)), (1, .int v1), (0, .ref (K.2.2.1 12))]) hx hb dX7_laysWord_6 rfl hl (by decide) rfl (fun ls hl => ?_)
  exact w_X7_laysWord_7 Cc hK hF hfs z v1 (0 : Int32) S _ _ hP hD hS h ls (lv_sub hl [2, 1, 0] rfl)
theorem in_X7_unit_X7 : ∀ w ∈ wsX70, w ∈ wsX7_unit := fun _ h => List.mem_cons_of_mem _ (List.mem_append_right _ h)
def rm_X7_unit (d : Nat) : Room := { frames := 10 * d + 12, cells := 0, slots := 0, locals := 400 * d + 480 }
section
variable {p : Program} {l : Launch} {e : Env} {s : State} {m : MethodId} {args : Array Value} {below : List Frame} {meth : Method} {c : Code} {z : Nat} {K : Ev} {C : CS} {o : Nat → Int64} {g : Gh}
end
set_option maxRecDepth 100000 in
theorem c_X7_unit (l : Launch) (z : Nat) (K : Ev) (C : CS) (o : Nat → Int64) (g : Gh) (fs : MS → Option MS) (d : Nat) (hfs : ∀ S S', fs S = some S' → Met l yX7_sum_ wsX7_sum_ (rm_X7_sum_ d) (qH K [.ref (K.2.2.1 12)] C S o g) (qR K none C S' o g) 0 0 (inA K))  (S : MS)  (S' : MS) (h : F_X7_unit z fs S = some S') : Met l yX7_unit wsX7_unit (rm_X7_unit d) (qH K [.ref (K.2.2.1 12)] C S o g) (qR K none C S' o g) 0 0 (inA K) := by
  refine Met.ofW (cc := cX7_unit) (maxL := 2) (ret := none) (by decide) rfl ?_
  intro p e s m args below meth c s₁ B hml hv
  obtain ⟨rfl, hN, hP, hK, hD, hF⟩ := hv
  have hx := B.exec
  have hb := B.bytes
  have hr := B.returns
  have hts := atoms_spec (ws := wsX7_unit) B.pre
  have hown : s.vm.findClass RX7 = some m.cls := findClass_of_methodNamed B.named
  have hlk := B.notSynchronized
  have hcl : 0 ≤ ((rm_X7_unit d)).cells := Nat.zero_le _
  have hsl : 0 ≤ ((rm_X7_unit d)).slots := Nat.zero_le _
  have Cc : Cx p s m _ meth c cX7_unit 2 RX7 wsX7_unit none := ⟨hx, hb, hml, hown, hts, hr, hlk, hN⟩
  have hS : va_S (inA K) s.heap s.heap [] := va_S.rf
  have hl := lv_entry ([.ref (K.2.2.1 12)]) (n := 2) (Nat.le_of_ble_eq_true rfl)
  rw [lg_entry_eq]
  generalize (lg_sl ([.ref (K.2.2.1 12)]) ++ List.replicate (2 - (lg_sl ([.ref (K.2.2.1 12)])).length) Slot.unset).toArray = ls at hl ⊢
  have hl : lv_has ls 2 [(0, .ref (K.2.2.1 12))] := hl
  rw [F_X7_unit] at h
  refine lv_aload_n hx hb dX7_unit_0 rfl (lv_at hl 0 rfl) ?_
  refine va_get (D := K.1) (ci := 6) (v := .int (mg_fault S)) (C := RX7) (T := TX7) (N := 24) hx hb hts in_X7_unit_X7 hown hK hP 12 rfl rfl 13 (by decide) (hts (.fieldLink RX7 191 "SawSumsModel" "fault" "I") (by decide +kernel)) (fun _ h9 => h9) rfl dX7_unit_1 ?_
  refine lv_if_eq (tgt := 8) hx hb dX7_unit_4 (by decide) (fun c1 => ?_) (fun c1 => ?_)
  · have h := gn_t h c1
    refine lv_aload_n hx hb dX7_unit_8 rfl (lv_at hl 0 rfl) ?_
    obtain ⟨r2, S3, qS3, h⟩ := gn_bd2 h
    refine hc_V (rest := []) ⟨hx, hb, hml, hown, hts⟩ hN hF hK hP hD hS (c_X7_here l z K _ o g  _ r2 S3 qS3) (cwV 0 hts gX7_unit_X7_here rfl rfl rfl (by decide +kernel) ⟨(show 0 + 1 ≤ 10 * d + 12 by omega), (show 8 + (1 + 11) + 0 ≤ 400 * d + 480 by omega)⟩) (va_recv hK hP (ci := 6) (q0 := 12) rfl rfl) rfl hl.1 rfl (Nat.le_of_ble_eq_true rfl) dX7_unit_9 hcl hsl (fun H locs hP hD hS => ?_)
    have hP : va_P K.1 vwCl (wd K C S3 o g) H := hP
    have hD : va_D (inA K) (wd K C S3 o g) := hD
    refine W.eq (g2 := F0 m 12 ls [.int r2]) rfl ?_
    refine lv_istore_n (lv' := [(1, .int r2), (0, .ref (K.2.2.1 12))]) hx hb dX7_unit_12 rfl hl (by decide) rfl (fun ls hl => ?_)
    refine lv_iload_n hx hb dX7_unit_13 rfl (lv_at hl 0 rfl) ?_
    refine lv_i2l hx hb dX7_unit_14 rfl ?_
    refine lv_ldc2 hx hb hown (hts (.constantLong RX7 207 (48)) (by decide +kernel)) dX7_unit_15 ?_
    refine lv_ldc2 hx hb hown (hts (.constantLong RX7 209 (57)) (by decide +kernel)) dX7_unit_18 ?_
    obtain ⟨r4, qr4, h⟩ := gn_bd h
    refine pc_S (rest := []) ⟨hx, hb, hml, hown, hts⟩ hN (c_X7_isIn l z _ _ _ r4 qr4) (va_cwS 3 hts gX7_unit_X7_isIn rfl rfl rfl (by decide +kernel) ⟨(show 0 + 1 ≤ 10 * d + 12 by omega), (show 8 + (6 + 11) + 0 ≤ 400 * d + 480 by omega)⟩) rfl hl.1 rfl (Nat.le_of_ble_eq_true rfl) dX7_unit_21 hcl hsl ?_
    refine lv_if_eq (tgt := 34) hx hb dX7_unit_24 (by decide) (fun c5 => ?_) (fun c5 => ?_)
    · have h := gn_t h c5
      refine lv_iload_n hx hb dX7_unit_34 rfl (lv_at hl 0 rfl) ?_
      refine lv_i2l hx hb dX7_unit_35 rfl ?_
      refine lv_ldc2 hx hb hown (hts (.constantLong RX7 231 (97)) (by decide +kernel)) dX7_unit_36 ?_
      refine lv_ldc2 hx hb hown (hts (.constantLong RX7 233 (122)) (by decide +kernel)) dX7_unit_39 ?_
      obtain ⟨r6, qr6, h⟩ := gn_bd h
      refine pc_S (rest := []) ⟨hx, hb, hml, hown, hts⟩ hN (c_X7_isIn l z _ _ _ r6 qr6) (va_cwS 3 hts gX7_unit_X7_isIn rfl rfl rfl (by decide +kernel) ⟨(show 0 + 1 ≤ 10 * d + 12 by omega), (show 8 + (6 + 11) + 0 ≤ 400 * d + 480 by omega)⟩) rfl hl.1 rfl (Nat.le_of_ble_eq_true rfl) dX7_unit_42 hcl hsl ?_
      refine lv_if_eq (tgt := 55) hx hb dX7_unit_45 (by decide) (fun c7 => ?_) (fun c7 => ?_)
      · have h := gn_t h c7
        refine lv_iload_n hx hb dX7_unit_55 rfl (lv_at hl 0 rfl) ?_
        refine lv_bipush (v := (40 : Int32)) hx hb dX7_unit_56 (by decide) ?_
        refine lv_icmp_ne (tgt := 76) hx hb dX7_unit_58 (by decide) (fun c8 => ?_) (fun c8 => ?_)
        · have h := gn_f h c8
          refine lv_aload_n hx hb dX7_unit_76 rfl (lv_at hl 1 rfl) ?_
          refine lv_iconst (v := (1 : Int32)) hx hb dX7_unit_77 (by decide) ?_
          refine lv_aload_n hx hb dX7_unit_78 rfl (lv_at hl 1 rfl) ?_
          refine va_get (D := K.1) (ci := 6) (v := .int (mg_at S3)) (C := RX7) (T := TX7) (N := 24) hx hb hts in_X7_unit_X7 hown hK hP 12 rfl rfl 11 (by decide) (hts (.fieldLink RX7 185 "SawSumsModel" "at" "I") (by decide +kernel)) (fun _ h9 => h9) rfl dX7_unit_79 ?_
          obtain ⟨S9, qS9, h⟩ := gn_bd h
          refine hc_V (rest := []) ⟨hx, hb, hml, hown, hts⟩ hN hF hK hP hD hS (c_X7_fails l z K _ o g _ _ _  S9 qS9) (cwV 2 hts gX7_unit_X7_fails rfl rfl rfl (by decide +kernel) ⟨(show 0 + 1 ≤ 10 * d + 12 by omega), (show 8 + (3 + 11) + 0 ≤ 400 * d + 480 by omega)⟩) (va_recv hK hP (ci := 6) (q0 := 12) rfl rfl) rfl hl.1 rfl (Nat.le_of_ble_eq_true rfl) dX7_unit_82 hcl hsl (fun H locs hP hD hS => ?_)
          have hP : va_P K.1 vwCl (wd K C S9 o g) H := hP
          have hD : va_D (inA K) (wd K C S9 o g) := hD
          refine W.eq (g2 := F0 m 85 ls []) rfl ?_
          obtain rfl := gn_some h
          exact W.vret hx hb hr (fun t ht _ => ⟨rfl, by rw [ht]; exact hP, hD, hS.F ht⟩) hS.2.2 dX7_unit_85 hlk
        · have h := gn_t h c8
          refine lv_aload_n hx hb dX7_unit_61 rfl (lv_at hl 1 rfl) ?_
          obtain ⟨S10, qS10, h⟩ := gn_bd h
          refine hc_V (rest := []) ⟨hx, hb, hml, hown, hts⟩ hN hF hK hP hD hS (c_X7_opens l z K _ o g  _  S10 qS10) (cwV 0 hts gX7_unit_X7_opens rfl rfl rfl (by decide +kernel) ⟨(show 1 + 1 ≤ 10 * d + 12 by omega), (show 8 + (1 + 11) + 22 ≤ 400 * d + 480 by omega)⟩) (va_recv hK hP (ci := 6) (q0 := 12) rfl rfl) rfl hl.1 rfl (Nat.le_of_ble_eq_true rfl) dX7_unit_62 hcl hsl (fun H locs hP hD hS => ?_)
          have hP : va_P K.1 vwCl (wd K C S10 o g) H := hP
          have hD : va_D (inA K) (wd K C S10 o g) := hD
          refine W.eq (g2 := F0 m 65 ls []) rfl ?_
          refine lv_aload_n hx hb dX7_unit_65 rfl (lv_at hl 1 rfl) ?_
          obtain ⟨S11, qS11, h⟩ := gn_bd h
          refine hc_V (rest := []) ⟨hx, hb, hml, hown, hts⟩ hN hF hK hP hD hS (hfs _ S11 qS11) (cwV 0 hts gX7_unit_X7_sum_ rfl rfl rfl (by decide +kernel) ⟨(show (10 * d + 10) + 1 ≤ 10 * d + 12 by omega), (show 8 + (3 + 11) + (400 * d + 400) ≤ 400 * d + 480 by omega)⟩) (va_recv hK hP (ci := 6) (q0 := 12) rfl rfl) rfl hl.1 rfl (Nat.le_of_ble_eq_true rfl) dX7_unit_66 hcl hsl (fun H locs hP hD hS => ?_)
          have hP : va_P K.1 vwCl (wd K C S11 o g) H := hP
          have hD : va_D (inA K) (wd K C S11 o g) := hD
          refine W.eq (g2 := F0 m 69 ls []) rfl ?_
          refine lv_aload_n hx hb dX7_unit_69 rfl (lv_at hl 1 rfl) ?_
          obtain ⟨S12, qS12, h⟩ := gn_bd h
          refine hc_V (rest := []) ⟨hx, hb, hml, hown, hts⟩ hN hF hK hP hD hS (c_X7_closes l z K _ o g  _  S12 qS12) (cwV 0 hts gX7_unit_X7_closes rfl rfl rfl (by decide +kernel) ⟨(show 2 + 1 ≤ 10 * d + 12 by omega), (show 8 + (1 + 11) + 43 ≤ 400 * d + 480 by omega)⟩) (va_recv hK hP (ci := 6) (q0 := 12) rfl rfl) rfl hl.1 rfl (Nat.le_of_ble_eq_true rfl) dX7_unit_70 hcl hsl (fun H locs hP hD hS => ?_)
          have hP : va_P K.1 vwCl (wd K C S12 o g) H := hP
          have hD : va_D (inA K) (wd K C S12 o g) := hD
          refine W.eq (g2 := F0 m 73 ls []) rfl ?_
          refine lv_goto (tgt := 85) hx hb dX7_unit_73 (by decide) ?_
          obtain rfl := gn_some h
          exact W.vret hx hb hr (fun t ht _ => ⟨rfl, by rw [ht]; exact hP, hD, hS.F ht⟩) hS.2.2 dX7_unit_85 hlk
      · have h := gn_f h c7
        refine lv_aload_n hx hb dX7_unit_48 rfl (lv_at hl 1 rfl) ?_
        obtain ⟨S13, qS13, h⟩ := gn_bd h
        refine hc_V (rest := []) ⟨hx, hb, hml, hown, hts⟩ hN hF hK hP hD hS (c_X7_laysWord l z K _ o g fs d hfs  _  S13 qS13) (cwV 0 hts gX7_unit_X7_laysWord rfl rfl rfl (by decide +kernel) ⟨(show (10 * d + 11) + 1 ≤ 10 * d + 12 by omega), (show 8 + (7 + 11) + (400 * d + 440) ≤ 400 * d + 480 by omega)⟩) (va_recv hK hP (ci := 6) (q0 := 12) rfl rfl) rfl hl.1 rfl (Nat.le_of_ble_eq_true rfl) dX7_unit_49 hcl hsl (fun H locs hP hD hS => ?_)
        have hP : va_P K.1 vwCl (wd K C S13 o g) H := hP
        have hD : va_D (inA K) (wd K C S13 o g) := hD
        refine W.eq (g2 := F0 m 52 ls []) rfl ?_
        refine lv_goto (tgt := 85) hx hb dX7_unit_52 (by decide) ?_
        obtain rfl := gn_some h
        exact W.vret hx hb hr (fun t ht _ => ⟨rfl, by rw [ht]; exact hP, hD, hS.F ht⟩) hS.2.2 dX7_unit_85 hlk
    · have h := gn_f h c5
      refine lv_aload_n hx hb dX7_unit_27 rfl (lv_at hl 1 rfl) ?_
      obtain ⟨S14, qS14, h⟩ := gn_bd h
      refine hc_V (rest := []) ⟨hx, hb, hml, hown, hts⟩ hN hF hK hP hD hS (c_X7_laysDivided l z K _ o g  _  S14 qS14) (cwV 0 hts gX7_unit_X7_laysDivided rfl rfl rfl (by decide +kernel) ⟨(show 3 + 1 ≤ 10 * d + 12 by omega), (show 8 + (6 + 11) + 76 ≤ 400 * d + 480 by omega)⟩) (va_recv hK hP (ci := 6) (q0 := 12) rfl rfl) rfl hl.1 rfl (Nat.le_of_ble_eq_true rfl) dX7_unit_28 hcl hsl (fun H locs hP hD hS => ?_)
      have hP : va_P K.1 vwCl (wd K C S14 o g) H := hP
      have hD : va_D (inA K) (wd K C S14 o g) := hD
      refine W.eq (g2 := F0 m 31 ls []) rfl ?_
      refine lv_goto (tgt := 85) hx hb dX7_unit_31 (by decide) ?_
      obtain rfl := gn_some h
      exact W.vret hx hb hr (fun t ht _ => ⟨rfl, by rw [ht]; exact hP, hD, hS.F ht⟩) hS.2.2 dX7_unit_85 hlk
  · have h := gn_f h c1
    obtain rfl := gn_some h
    exact W.vret hx hb hr (fun t ht _ => ⟨rfl, by rw [ht]; exact hP, hD, hS.F ht⟩) hS.2.2 dX7_unit_7 hlk
theorem in_X7_factor_X7 : ∀ w ∈ wsX70, w ∈ wsX7_factor := fun _ h => List.mem_cons_of_mem _ (List.mem_append_right _ h)
def rm_X7_factor (d : Nat) : Room := { frames := 10 * d + 13, cells := 0, slots := 0, locals := 400 * d + 520 }
section
variable {p : Program} {l : Launch} {e : Env} {s : State} {m : MethodId} {args : Array Value} {below : List Frame} {meth : Method} {c : Code} {z : Nat} {K : Ev} {C : CS} {o : Nat → Int64} {g : Gh}
set_option maxRecDepth 100000 in
theorem w_X7_factor_29 (Cc : Cx p s m args meth c cX7_factor 2 RX7 wsX7_factor none) (hK : va_K K.1 vwCl (tysOf K) s) (hF : SF K s) {fs : MS → Option MS} {d : Nat} (hfs : ∀ S S', fs S = some S' → Met l yX7_sum_ wsX7_sum_ (rm_X7_sum_ d) (qH K [.ref (K.2.2.1 12)] C S o g) (qR K none C S' o g) 0 0 (inA K))  {S' : MS} : ∀ (x1 : Int32) (t0 : Int32) (t1 : Int32) (S : MS) (H : Heap) (locs : List Loc), va_P K.1 vwCl (wd K C S o g) H → va_D (inA K) (wd K C S o g) → va_S (inA K) s.heap H locs → G_X7_factor_29 z fs x1 t0 t1 S = some S' → ∀ ls, lv_has ls 2 [(0, .ref (K.2.2.1 12)), (1, .int x1)] → W p l e (rm_X7_factor d) s m args below meth c H locs 0 0 (MQ below (qR K none C S' o g) args s 0 0 (inA K)) (F0 m 29 ls [.int t0, .int t1, .ref (K.2.2.1 12)]) := by
  obtain ⟨hx, hb, hml, hown, hts, hr, hlk, hN⟩ := id Cc
  have hcl : 0 ≤ ((rm_X7_factor d)).cells := Nat.zero_le _
  have hsl : 0 ≤ ((rm_X7_factor d)).slots := Nat.zero_le _
  intro x1 t0 t1 S H locs hP hD hS h ls hl
  rw [G_X7_factor_29] at h
  refine lv_iadd hx hb dX7_factor_29 ?_
  obtain ⟨v1, ev1, h⟩ := gn_nm h
  refine ln_i ev1 ?_
  obtain ⟨S2, eS2, h⟩ := gn_nm h
  refine va_put (D := K.1) (ci := 6) (v := .int v1) (ty := .int) (C := RX7) (T := TX7) (N := 24) hx hb hts in_X7_factor_X7 tyX7 tyX7_ok nmX7 hown hK hP hD hS 12 rfl rfl 11 (by decide) (hts (.fieldLink RX7 185 "SawSumsModel" "at" "I") (by decide +kernel)) (fun _ h9 => h9) rfl (by decide +kernel) rfl rfl (Nat.le_of_ble_eq_true rfl) dX7_factor_30 (fun H locs hP hD hS => ?_)
  have hP : va_P K.1 vwCl (wd K C S2 o g) H := by rw [eS2]; exact hP
  have hD : va_D (inA K) (wd K C S2 o g) := by rw [eS2]; exact hD
  refine lv_aload_n hx hb dX7_factor_33 rfl (lv_at hl 0 rfl) ?_
  obtain ⟨S3, qS3, h⟩ := gn_bd h
  refine hc_V (rest := []) ⟨hx, hb, hml, hown, hts⟩ hN hF hK hP hD hS (c_X7_unit l z K _ o g fs d hfs  _  S3 qS3) (cwV 0 hts gX7_factor_X7_unit rfl rfl rfl (by decide +kernel) ⟨(show (10 * d + 12) + 1 ≤ 10 * d + 13 by omega), (show 8 + (2 + 11) + (400 * d + 480) ≤ 400 * d + 520 by omega)⟩) (va_recv hK hP (ci := 6) (q0 := 12) rfl rfl) rfl hl.1 rfl (Nat.le_of_ble_eq_true rfl) dX7_factor_34 hcl hsl (fun H locs hP hD hS => ?_)
  have hP : va_P K.1 vwCl (wd K C S3 o g) H := hP
  have hD : va_D (inA K) (wd K C S3 o g) := hD
  refine W.eq (g2 := F0 m 37 ls []) rfl ?_
  refine lv_iload_n hx hb dX7_factor_37 rfl (lv_at hl 1 rfl) ?_
  refine lv_if_eq (tgt := 71) hx hb dX7_factor_38 (by decide) (fun c4 => ?_) (fun c4 => ?_)
  · have h := gn_t h c4
    obtain rfl := gn_some h
    exact W.vret hx hb hr (fun t ht _ => ⟨rfl, by rw [ht]; exact hP, hD, hS.F ht⟩) hS.2.2 dX7_factor_71 hlk
  · have h := gn_f h c4
    refine lv_aload_n hx hb dX7_factor_41 rfl (lv_at hl 0 rfl) ?_
    refine va_get (D := K.1) (ci := 6) (v := .int (mg_fault S3)) (C := RX7) (T := TX7) (N := 24) hx hb hts in_X7_factor_X7 hown hK hP 12 rfl rfl 13 (by decide) (hts (.fieldLink RX7 191 "SawSumsModel" "fault" "I") (by decide +kernel)) (fun _ h9 => h9) rfl dX7_factor_42 ?_
    refine lv_if_ne (tgt := 71) hx hb dX7_factor_45 (by decide) (fun c5 => ?_) (fun c5 => ?_)
    · have h := gn_f h c5
      obtain rfl := gn_some h
      exact W.vret hx hb hr (fun t ht _ => ⟨rfl, by rw [ht]; exact hP, hD, hS.F ht⟩) hS.2.2 dX7_factor_71 hlk
    · have h := gn_t h c5
      refine lv_aload_n hx hb dX7_factor_48 rfl (lv_at hl 0 rfl) ?_
      refine va_get (D := K.1) (ci := 6) (v := .ref (K.2.2.1 15)) (C := RX7) (T := TX7) (N := 24) hx hb hts in_X7_factor_X7 hown hK hP 12 rfl rfl 20 (by decide) (hts (.fieldLink RX7 17 "SawSumsModel" "tops" "[J") (by decide +kernel)) (fun _ h9 => h9) rfl dX7_factor_49 ?_
      refine lv_aload_n hx hb dX7_factor_52 rfl (lv_at hl 0 rfl) ?_
      refine va_get (D := K.1) (ci := 6) (v := .int (mg_piled S3)) (C := RX7) (T := TX7) (N := 24) hx hb hts in_X7_factor_X7 hown hK hP 12 rfl rfl 19 (by decide) (hts (.fieldLink RX7 197 "SawSumsModel" "piled" "I") (by decide +kernel)) (fun _ h9 => h9) rfl dX7_factor_53 ?_
      refine lv_iconst (v := (1 : Int32)) hx hb dX7_factor_56 (by decide) ?_
      refine lv_isub hx hb dX7_factor_57 ?_
      refine lv_aload_n hx hb dX7_factor_58 rfl (lv_at hl 0 rfl) ?_
      refine va_get (D := K.1) (ci := 6) (v := .ref (K.2.2.1 15)) (C := RX7) (T := TX7) (N := 24) hx hb hts in_X7_factor_X7 hown hK hP 12 rfl rfl 20 (by decide) (hts (.fieldLink RX7 17 "SawSumsModel" "tops" "[J") (by decide +kernel)) (fun _ h9 => h9) rfl dX7_factor_59 ?_
      refine lv_aload_n hx hb dX7_factor_62 rfl (lv_at hl 0 rfl) ?_
      refine va_get (D := K.1) (ci := 6) (v := .int (mg_piled S3)) (C := RX7) (T := TX7) (N := 24) hx hb hts in_X7_factor_X7 hown hK hP 12 rfl rfl 19 (by decide) (hts (.fieldLink RX7 197 "SawSumsModel" "piled" "I") (by decide +kernel)) (fun _ h9 => h9) rfl dX7_factor_63 ?_
      refine lv_iconst (v := (1 : Int32)) hx hb dX7_factor_66 (by decide) ?_
      refine lv_isub hx hb dX7_factor_67 ?_
      obtain ⟨n6, h⟩ := gn_yz h
      refine va_lald hx hb hK hP 15 0 rfl rfl (ib_in n6) dX7_factor_68 ?_
      refine lv_lneg hx hb dX7_factor_69 ?_
      obtain ⟨n7, h⟩ := gn_yz h
      obtain ⟨S8, eS8, h⟩ := gn_nm h
      refine va_last hx hb hK hP hD hS 15 0 rfl rfl (ib_in n7) dX7_factor_70 (fun H locs hP hD hS => ?_)
      have hP : va_P K.1 vwCl (wd K C S8 o g) H := by rw [eS8]; exact hP
      have hD : va_D (inA K) (wd K C S8 o g) := by rw [eS8]; exact hD
      obtain rfl := gn_some h
      exact W.vret hx hb hr (fun t ht _ => ⟨rfl, by rw [ht]; exact hP, hD, hS.F ht⟩) hS.2.2 dX7_factor_71 hlk
set_option maxRecDepth 100000 in
theorem w_X7_factor_14 (Cc : Cx p s m args meth c cX7_factor 2 RX7 wsX7_factor none) (hK : va_K K.1 vwCl (tysOf K) s) (hF : SF K s) {fs : MS → Option MS} {d : Nat} (hfs : ∀ S S', fs S = some S' → Met l yX7_sum_ wsX7_sum_ (rm_X7_sum_ d) (qH K [.ref (K.2.2.1 12)] C S o g) (qR K none C S' o g) 0 0 (inA K))  {S' : MS} : ∀ (t0 : Int32) (S : MS) (H : Heap) (locs : List Loc), va_P K.1 vwCl (wd K C S o g) H → va_D (inA K) (wd K C S o g) → va_S (inA K) s.heap H locs → G_X7_factor_14 z fs t0 S = some S' → ∀ ls, lv_has ls 2 [(0, .ref (K.2.2.1 12))] → W p l e (rm_X7_factor d) s m args below meth c H locs 0 0 (MQ below (qR K none C S' o g) args s 0 0 (inA K)) (F0 m 14 ls [.int t0]) := by
  obtain ⟨hx, hb, hml, hown, hts, hr, hlk, hN⟩ := id Cc
  have hcl : 0 ≤ ((rm_X7_factor d)).cells := Nat.zero_le _
  have hsl : 0 ≤ ((rm_X7_factor d)).slots := Nat.zero_le _
  intro t0 S H locs hP hD hS h ls hl
  rw [G_X7_factor_14] at h
  refine lv_istore_n (lv' := [(1, .int t0), (0, .ref (K.2.2.1 12))]) hx hb dX7_factor_14 rfl hl (by decide) rfl (fun ls hl => ?_)
  refine lv_aload_n hx hb dX7_factor_15 rfl (lv_at hl 1 rfl) ?_
  refine lv_dup hx hb dX7_factor_16 rfl ?_
  refine va_get (D := K.1) (ci := 6) (v := .int (mg_at S)) (C := RX7) (T := TX7) (N := 24) hx hb hts in_X7_factor_X7 hown hK hP 12 rfl rfl 11 (by decide) (hts (.fieldLink RX7 185 "SawSumsModel" "at" "I") (by decide +kernel)) (fun _ h9 => h9) rfl dX7_factor_17 ?_
  refine lv_iload_n hx hb dX7_factor_20 rfl (lv_at hl 0 rfl) ?_
  refine lv_if_eq (tgt := 28) hx hb dX7_factor_21 (by decide) (fun c1 => ?_) (fun c1 => ?_)
  · have h := gn_t h c1
    refine lv_iconst (v := (0 : Int32)) hx hb dX7_factor_28 (by decide) ?_
    exact w_X7_factor_29 Cc hK hF hfs t0 (0 : Int32) (mg_at S) S _ _ hP hD hS h ls (lv_sub hl [1, 0] rfl)
  · have h := gn_f h c1
    refine lv_iconst (v := (1 : Int32)) hx hb dX7_factor_24 (by decide) ?_
    refine lv_goto (tgt := 29) hx hb dX7_factor_25 (by decide) ?_
    exact w_X7_factor_29 Cc hK hF hfs t0 (1 : Int32) (mg_at S) S _ _ hP hD hS h ls (lv_sub hl [1, 0] rfl)
end
set_option maxRecDepth 100000 in
theorem c_X7_factor (l : Launch) (z : Nat) (K : Ev) (C : CS) (o : Nat → Int64) (g : Gh) (fs : MS → Option MS) (d : Nat) (hfs : ∀ S S', fs S = some S' → Met l yX7_sum_ wsX7_sum_ (rm_X7_sum_ d) (qH K [.ref (K.2.2.1 12)] C S o g) (qR K none C S' o g) 0 0 (inA K))  (S : MS)  (S' : MS) (h : F_X7_factor z fs S = some S') : Met l yX7_factor wsX7_factor (rm_X7_factor d) (qH K [.ref (K.2.2.1 12)] C S o g) (qR K none C S' o g) 0 0 (inA K) := by
  refine Met.ofW (cc := cX7_factor) (maxL := 2) (ret := none) (by decide) rfl ?_
  intro p e s m args below meth c s₁ B hml hv
  obtain ⟨rfl, hN, hP, hK, hD, hF⟩ := hv
  have hx := B.exec
  have hb := B.bytes
  have hr := B.returns
  have hts := atoms_spec (ws := wsX7_factor) B.pre
  have hown : s.vm.findClass RX7 = some m.cls := findClass_of_methodNamed B.named
  have hlk := B.notSynchronized
  have hcl : 0 ≤ ((rm_X7_factor d)).cells := Nat.zero_le _
  have hsl : 0 ≤ ((rm_X7_factor d)).slots := Nat.zero_le _
  have Cc : Cx p s m _ meth c cX7_factor 2 RX7 wsX7_factor none := ⟨hx, hb, hml, hown, hts, hr, hlk, hN⟩
  have hS : va_S (inA K) s.heap s.heap [] := va_S.rf
  have hl := lv_entry ([.ref (K.2.2.1 12)]) (n := 2) (Nat.le_of_ble_eq_true rfl)
  rw [lg_entry_eq]
  generalize (lg_sl ([.ref (K.2.2.1 12)]) ++ List.replicate (2 - (lg_sl ([.ref (K.2.2.1 12)])).length) Slot.unset).toArray = ls at hl ⊢
  have hl : lv_has ls 2 [(0, .ref (K.2.2.1 12))] := hl
  rw [F_X7_factor] at h
  refine lv_aload_n hx hb dX7_factor_0 rfl (lv_at hl 0 rfl) ?_
  obtain ⟨r1, S2, qS2, h⟩ := gn_bd2 h
  refine hc_V (rest := []) ⟨hx, hb, hml, hown, hts⟩ hN hF hK hP hD hS (c_X7_here l z K _ o g  _ r1 S2 qS2) (cwV 0 hts gX7_factor_X7_here rfl rfl rfl (by decide +kernel) ⟨(show 0 + 1 ≤ 10 * d + 13 by omega), (show 8 + (1 + 11) + 0 ≤ 400 * d + 520 by omega)⟩) (va_recv hK hP (ci := 6) (q0 := 12) rfl rfl) rfl hl.1 rfl (Nat.le_of_ble_eq_true rfl) dX7_factor_1 hcl hsl (fun H locs hP hD hS => ?_)
  have hP : va_P K.1 vwCl (wd K C S2 o g) H := hP
  have hD : va_D (inA K) (wd K C S2 o g) := hD
  refine W.eq (g2 := F0 m 4 ls [.int r1]) rfl ?_
  refine lv_bipush (v := (45 : Int32)) hx hb dX7_factor_4 (by decide) ?_
  refine lv_icmp_ne (tgt := 13) hx hb dX7_factor_6 (by decide) (fun c3 => ?_) (fun c3 => ?_)
  · have h := gn_f h c3
    refine lv_iconst (v := (0 : Int32)) hx hb dX7_factor_13 (by decide) ?_
    exact w_X7_factor_14 Cc hK hF hfs (0 : Int32) S2 _ _ hP hD hS h ls (lv_sub hl [0] rfl)
  · have h := gn_t h c3
    refine lv_iconst (v := (1 : Int32)) hx hb dX7_factor_9 (by decide) ?_
    refine lv_goto (tgt := 14) hx hb dX7_factor_10 (by decide) ?_
    exact w_X7_factor_14 Cc hK hF hfs (1 : Int32) S2 _ _ hP hD hS h ls (lv_sub hl [0] rfl)
theorem in_X7_term_X7 : ∀ w ∈ wsX70, w ∈ wsX7_term := fun _ h => List.mem_cons_of_mem _ (List.mem_append_right _ h)
def rm_X7_term (d : Nat) : Room := { frames := 10 * d + 14, cells := 0, slots := 0, locals := 400 * d + 560 }
section
variable {p : Program} {l : Launch} {e : Env} {s : State} {m : MethodId} {args : Array Value} {below : List Frame} {meth : Method} {c : Code} {z : Nat} {K : Ev} {C : CS} {o : Nat → Int64} {g : Gh}
set_option maxRecDepth 100000 in
theorem w_X7_term_4 (Cc : Cx p s m args meth c cX7_term 2 RX7 wsX7_term none) (hK : va_K K.1 vwCl (tysOf K) s) (hF : SF K s) {fs : MS → Option MS} {d : Nat} (hfs : ∀ S S', fs S = some S' → Met l yX7_sum_ wsX7_sum_ (rm_X7_sum_ d) (qH K [.ref (K.2.2.1 12)] C S o g) (qR K none C S' o g) 0 0 (inA K))  {S' : MS} (n : Nat) : ∀  (S : MS) (H : Heap) (locs : List Loc), va_P K.1 vwCl (wd K C S o g) H → va_D (inA K) (wd K C S o g) → va_S (inA K) s.heap H locs → G_X7_term_4 z fs n S = some S' → ∀ ls, lv_has ls 2 [(0, .ref (K.2.2.1 12))] → W p l e (rm_X7_term d) s m args below meth c H locs 0 0 (MQ below (qR K none C S' o g) args s 0 0 (inA K)) (F0 m 4 ls []) := by
  obtain ⟨hx, hb, hml, hown, hts, hr, hlk, hN⟩ := id Cc
  have hcl : 0 ≤ ((rm_X7_term d)).cells := Nat.zero_le _
  have hsl : 0 ≤ ((rm_X7_term d)).slots := Nat.zero_le _
  induction n with
  | zero => intro S H locs hP hD hS h; cases h
  | succ n ih =>
    intro S H locs hP hD hS h ls hl
    rw [G_X7_term_4] at h
    refine lv_aload_n hx hb dX7_term_4 rfl (lv_at hl 0 rfl) ?_
    refine va_get (D := K.1) (ci := 6) (v := .int (mg_fault S)) (C := RX7) (T := TX7) (N := 24) hx hb hts in_X7_term_X7 hown hK hP 12 rfl rfl 13 (by decide) (hts (.fieldLink RX7 191 "SawSumsModel" "fault" "I") (by decide +kernel)) (fun _ h9 => h9) rfl dX7_term_5 ?_
    refine lv_if_ne (tgt := 49) hx hb dX7_term_8 (by decide) (fun c1 => ?_) (fun c1 => ?_)
    · have h := gn_f h c1
      obtain rfl := gn_some h
      exact W.vret hx hb hr (fun t ht _ => ⟨rfl, by rw [ht]; exact hP, hD, hS.F ht⟩) hS.2.2 dX7_term_49 hlk
    · have h := gn_t h c1
      refine lv_aload_n hx hb dX7_term_11 rfl (lv_at hl 0 rfl) ?_
      obtain ⟨r2, S3, qS3, h⟩ := gn_bd2 h
      refine hc_V (rest := []) ⟨hx, hb, hml, hown, hts⟩ hN hF hK hP hD hS (c_X7_here l z K _ o g  _ r2 S3 qS3) (cwV 0 hts gX7_term_X7_here rfl rfl rfl (by decide +kernel) ⟨(show 0 + 1 ≤ 10 * d + 14 by omega), (show 8 + (1 + 11) + 0 ≤ 400 * d + 560 by omega)⟩) (va_recv hK hP (ci := 6) (q0 := 12) rfl rfl) rfl hl.1 rfl (Nat.le_of_ble_eq_true rfl) dX7_term_12 hcl hsl (fun H locs hP hD hS => ?_)
      have hP : va_P K.1 vwCl (wd K C S3 o g) H := hP
      have hD : va_D (inA K) (wd K C S3 o g) := hD
      refine W.eq (g2 := F0 m 15 ls [.int r2]) rfl ?_
      refine lv_bipush (v := (42 : Int32)) hx hb dX7_term_15 (by decide) ?_
      refine lv_icmp_ne (tgt := 49) hx hb dX7_term_17 (by decide) (fun c4 => ?_) (fun c4 => ?_)
      · have h := gn_f h c4
        obtain rfl := gn_some h
        exact W.vret hx hb hr (fun t ht _ => ⟨rfl, by rw [ht]; exact hP, hD, hS.F ht⟩) hS.2.2 dX7_term_49 hlk
      · have h := gn_t h c4
        refine lv_aload_n hx hb dX7_term_20 rfl (lv_at hl 0 rfl) ?_
        refine va_get (D := K.1) (ci := 6) (v := .int (mg_at S3)) (C := RX7) (T := TX7) (N := 24) hx hb hts in_X7_term_X7 hown hK hP 12 rfl rfl 11 (by decide) (hts (.fieldLink RX7 185 "SawSumsModel" "at" "I") (by decide +kernel)) (fun _ h9 => h9) rfl dX7_term_21 ?_
        obtain ⟨v5, ev5, h⟩ := gn_nm h
        refine ln_i ev5 ?_
        refine lv_istore_n (lv' := [(1, .int v5), (0, .ref (K.2.2.1 12))]) hx hb dX7_term_24 rfl hl (by decide) rfl (fun ls hl => ?_)
        refine lv_aload_n hx hb dX7_term_25 rfl (lv_at hl 1 rfl) ?_
        refine lv_dup hx hb dX7_term_26 rfl ?_
        refine va_get (D := K.1) (ci := 6) (v := .int (mg_at S3)) (C := RX7) (T := TX7) (N := 24) hx hb hts in_X7_term_X7 hown hK hP 12 rfl rfl 11 (by decide) (hts (.fieldLink RX7 185 "SawSumsModel" "at" "I") (by decide +kernel)) (fun _ h9 => h9) rfl dX7_term_27 ?_
        refine lv_iconst (v := (1 : Int32)) hx hb dX7_term_30 (by decide) ?_
        refine lv_iadd hx hb dX7_term_31 ?_
        obtain ⟨v6, ev6, h⟩ := gn_nm h
        refine ln_i ev6 ?_
        obtain ⟨S7, eS7, h⟩ := gn_nm h
        refine va_put (D := K.1) (ci := 6) (v := .int v6) (ty := .int) (C := RX7) (T := TX7) (N := 24) hx hb hts in_X7_term_X7 tyX7 tyX7_ok nmX7 hown hK hP hD hS 12 rfl rfl 11 (by decide) (hts (.fieldLink RX7 185 "SawSumsModel" "at" "I") (by decide +kernel)) (fun _ h9 => h9) rfl (by decide +kernel) rfl rfl (Nat.le_of_ble_eq_true rfl) dX7_term_32 (fun H locs hP hD hS => ?_)
        have hP : va_P K.1 vwCl (wd K C S7 o g) H := by rw [eS7]; exact hP
        have hD : va_D (inA K) (wd K C S7 o g) := by rw [eS7]; exact hD
        refine lv_aload_n hx hb dX7_term_35 rfl (lv_at hl 1 rfl) ?_
        obtain ⟨S8, qS8, h⟩ := gn_bd h
        refine hc_V (rest := []) ⟨hx, hb, hml, hown, hts⟩ hN hF hK hP hD hS (c_X7_factor l z K _ o g fs d hfs  _  S8 qS8) (cwV 0 hts gX7_term_X7_factor rfl rfl rfl (by decide +kernel) ⟨(show (10 * d + 13) + 1 ≤ 10 * d + 14 by omega), (show 8 + (2 + 11) + (400 * d + 520) ≤ 400 * d + 560 by omega)⟩) (va_recv hK hP (ci := 6) (q0 := 12) rfl rfl) rfl hl.1 rfl (Nat.le_of_ble_eq_true rfl) dX7_term_36 hcl hsl (fun H locs hP hD hS => ?_)
        have hP : va_P K.1 vwCl (wd K C S8 o g) H := hP
        have hD : va_D (inA K) (wd K C S8 o g) := hD
        refine W.eq (g2 := F0 m 39 ls []) rfl ?_
        refine lv_aload_n hx hb dX7_term_39 rfl (lv_at hl 1 rfl) ?_
        refine lv_bipush (v := (42 : Int32)) hx hb dX7_term_40 (by decide) ?_
        refine lv_iload_n hx hb dX7_term_42 rfl (lv_at hl 0 rfl) ?_
        obtain ⟨S9, qS9, h⟩ := gn_bd h
        refine hc_V (rest := []) ⟨hx, hb, hml, hown, hts⟩ hN hF hK hP hD hS (c_X7_joins l z K _ o g _ _ _  S9 qS9) (cwV 2 hts gX7_term_X7_joins rfl rfl rfl (by decide +kernel) ⟨(show 3 + 1 ≤ 10 * d + 14 by omega), (show 8 + (11 + 11) + 76 ≤ 400 * d + 560 by omega)⟩) (va_recv hK hP (ci := 6) (q0 := 12) rfl rfl) rfl hl.1 rfl (Nat.le_of_ble_eq_true rfl) dX7_term_43 hcl hsl (fun H locs hP hD hS => ?_)
        have hP : va_P K.1 vwCl (wd K C S9 o g) H := hP
        have hD : va_D (inA K) (wd K C S9 o g) := hD
        refine W.eq (g2 := F0 m 46 ls []) rfl ?_
        refine lv_goto (tgt := 4) hx hb dX7_term_46 (by decide) ?_
        exact ih S9 _ _ hP hD hS h ls (lv_sub hl [1] rfl)
end
set_option maxRecDepth 100000 in
theorem c_X7_term (l : Launch) (z : Nat) (K : Ev) (C : CS) (o : Nat → Int64) (g : Gh) (fs : MS → Option MS) (d : Nat) (hfs : ∀ S S', fs S = some S' → Met l yX7_sum_ wsX7_sum_ (rm_X7_sum_ d) (qH K [.ref (K.2.2.1 12)] C S o g) (qR K none C S' o g) 0 0 (inA K))  (S : MS)  (S' : MS) (h : F_X7_term z fs S = some S') : Met l yX7_term wsX7_term (rm_X7_term d) (qH K [.ref (K.2.2.1 12)] C S o g) (qR K none C S' o g) 0 0 (inA K) := by
  refine Met.ofW (cc := cX7_term) (maxL := 2) (ret := none) (by decide) rfl ?_
  intro p e s m args below meth c s₁ B hml hv
  obtain ⟨rfl, hN, hP, hK, hD, hF⟩ := hv
  have hx := B.exec
  have hb := B.bytes
  have hr := B.returns
  have hts := atoms_spec (ws := wsX7_term) B.pre
  have hown : s.vm.findClass RX7 = some m.cls := findClass_of_methodNamed B.named
  have hlk := B.notSynchronized
  have hcl : 0 ≤ ((rm_X7_term d)).cells := Nat.zero_le _
  have hsl : 0 ≤ ((rm_X7_term d)).slots := Nat.zero_le _
  have Cc : Cx p s m _ meth c cX7_term 2 RX7 wsX7_term none := ⟨hx, hb, hml, hown, hts, hr, hlk, hN⟩
  have hS : va_S (inA K) s.heap s.heap [] := va_S.rf
  have hl := lv_entry ([.ref (K.2.2.1 12)]) (n := 2) (Nat.le_of_ble_eq_true rfl)
  rw [lg_entry_eq]
  generalize (lg_sl ([.ref (K.2.2.1 12)]) ++ List.replicate (2 - (lg_sl ([.ref (K.2.2.1 12)])).length) Slot.unset).toArray = ls at hl ⊢
  have hl : lv_has ls 2 [(0, .ref (K.2.2.1 12))] := hl
  rw [F_X7_term] at h
  refine lv_aload_n hx hb dX7_term_0 rfl (lv_at hl 0 rfl) ?_
  obtain ⟨S1, qS1, h⟩ := gn_bd h
  refine hc_V (rest := []) ⟨hx, hb, hml, hown, hts⟩ hN hF hK hP hD hS (c_X7_factor l z K _ o g fs d hfs  _  S1 qS1) (cwV 0 hts gX7_term_X7_factor rfl rfl rfl (by decide +kernel) ⟨(show (10 * d + 13) + 1 ≤ 10 * d + 14 by omega), (show 8 + (2 + 11) + (400 * d + 520) ≤ 400 * d + 560 by omega)⟩) (va_recv hK hP (ci := 6) (q0 := 12) rfl rfl) rfl hl.1 rfl (Nat.le_of_ble_eq_true rfl) dX7_term_1 hcl hsl (fun H locs hP hD hS => ?_)
  have hP : va_P K.1 vwCl (wd K C S1 o g) H := hP
  have hD : va_D (inA K) (wd K C S1 o g) := hD
  refine W.eq (g2 := F0 m 4 ls []) rfl ?_
  exact w_X7_term_4 Cc hK hF hfs z S1 _ _ hP hD hS h ls (lv_sub hl [0] rfl)
theorem in_X7_sum__X7 : ∀ w ∈ wsX70, w ∈ wsX7_sum_ := fun _ h => List.mem_cons_of_mem _ (List.mem_append_right _ h)

section
variable {p : Program} {l : Launch} {e : Env} {s : State} {m : MethodId} {args : Array Value} {below : List Frame} {meth : Method} {c : Code} {z : Nat} {K : Ev} {C : CS} {o : Nat → Int64} {g : Gh}
set_option maxRecDepth 100000 in
theorem w_X7_sum__29 (Cc : Cx p s m args meth c cX7_sum_ 3 RX7 wsX7_sum_ none) (hK : va_K K.1 vwCl (tysOf K) s) (hF : SF K s) {fs : MS → Option MS} {d : Nat} (hfs : ∀ S S', fs S = some S' → Met l yX7_sum_ wsX7_sum_ (rm_X7_sum_ d) (qH K [.ref (K.2.2.1 12)] C S o g) (qR K none C S' o g) 0 0 (inA K))  {S' : MS} {k4 : MS → Option (MS)} (hk4 : ∀  (S : MS) (H : Heap) (locs : List Loc), va_P K.1 vwCl (wd K C S o g) H → va_D (inA K) (wd K C S o g) → va_S (inA K) s.heap H locs → k4 S = some S' → ∀ ls, lv_has ls 3 [(0, .ref (K.2.2.1 12))] → W p l e (rm_X7_sum_ (d + 1)) s m args below meth c H locs 0 0 (MQ below (qR K none C S' o g) args s 0 0 (inA K)) (F0 m 4 ls [])) : ∀  (S : MS) (H : Heap) (locs : List Loc), va_P K.1 vwCl (wd K C S o g) H → va_D (inA K) (wd K C S o g) → va_S (inA K) s.heap H locs → G_X7_sum__29 z fs k4 S = some S' → ∀ ls, lv_has ls 3 [(0, .ref (K.2.2.1 12))] → W p l e (rm_X7_sum_ (d + 1)) s m args below meth c H locs 0 0 (MQ below (qR K none C S' o g) args s 0 0 (inA K)) (F0 m 29 ls []) := by
  obtain ⟨hx, hb, hml, hown, hts, hr, hlk, hN⟩ := id Cc
  have hcl : 0 ≤ ((rm_X7_sum_ (d + 1))).cells := Nat.zero_le _
  have hsl : 0 ≤ ((rm_X7_sum_ (d + 1))).slots := Nat.zero_le _
  intro S H locs hP hD hS h ls hl
  rw [G_X7_sum__29] at h
  refine lv_aload_n hx hb dX7_sum__29 rfl (lv_at hl 0 rfl) ?_
  refine va_get (D := K.1) (ci := 6) (v := .int (mg_at S)) (C := RX7) (T := TX7) (N := 24) hx hb hts in_X7_sum__X7 hown hK hP 12 rfl rfl 11 (by decide) (hts (.fieldLink RX7 185 "SawSumsModel" "at" "I") (by decide +kernel)) (fun _ h9 => h9) rfl dX7_sum__30 ?_
  obtain ⟨v1, ev1, h⟩ := gn_nm h
  refine ln_i ev1 ?_
  refine lv_istore_n (lv' := [(1, .int v1), (0, .ref (K.2.2.1 12))]) hx hb dX7_sum__33 rfl hl (by decide) rfl (fun ls hl => ?_)
  refine lv_aload_n hx hb dX7_sum__34 rfl (lv_at hl 1 rfl) ?_
  obtain ⟨r2, S3, qS3, h⟩ := gn_bd2 h
  refine hc_V (rest := []) ⟨hx, hb, hml, hown, hts⟩ hN hF hK hP hD hS (c_X7_here l z K _ o g  _ r2 S3 qS3) (cwV 0 hts gX7_sum__X7_here rfl rfl rfl (by decide +kernel) ⟨(show 0 + 1 ≤ 10 * d + 20 by omega), (show 8 + (1 + 11) + 0 ≤ 400 * d + 800 by omega)⟩) (va_recv hK hP (ci := 6) (q0 := 12) rfl rfl) rfl hl.1 rfl (Nat.le_of_ble_eq_true rfl) dX7_sum__35 hcl hsl (fun H locs hP hD hS => ?_)
  have hP : va_P K.1 vwCl (wd K C S3 o g) H := hP
  have hD : va_D (inA K) (wd K C S3 o g) := hD
  refine W.eq (g2 := F0 m 38 ls [.int r2]) rfl ?_
  refine lv_istore_n (lv' := [(2, .int r2), (1, .int v1), (0, .ref (K.2.2.1 12))]) hx hb dX7_sum__38 rfl hl (by decide) rfl (fun ls hl => ?_)
  refine lv_aload_n hx hb dX7_sum__39 rfl (lv_at hl 2 rfl) ?_
  refine lv_dup hx hb dX7_sum__40 rfl ?_
  refine va_get (D := K.1) (ci := 6) (v := .int (mg_at S3)) (C := RX7) (T := TX7) (N := 24) hx hb hts in_X7_sum__X7 hown hK hP 12 rfl rfl 11 (by decide) (hts (.fieldLink RX7 185 "SawSumsModel" "at" "I") (by decide +kernel)) (fun _ h9 => h9) rfl dX7_sum__41 ?_
  refine lv_iconst (v := (1 : Int32)) hx hb dX7_sum__44 (by decide) ?_
  refine lv_iadd hx hb dX7_sum__45 ?_
  obtain ⟨v4, ev4, h⟩ := gn_nm h
  refine ln_i ev4 ?_
  obtain ⟨S5, eS5, h⟩ := gn_nm h
  refine va_put (D := K.1) (ci := 6) (v := .int v4) (ty := .int) (C := RX7) (T := TX7) (N := 24) hx hb hts in_X7_sum__X7 tyX7 tyX7_ok nmX7 hown hK hP hD hS 12 rfl rfl 11 (by decide) (hts (.fieldLink RX7 185 "SawSumsModel" "at" "I") (by decide +kernel)) (fun _ h9 => h9) rfl (by decide +kernel) rfl rfl (Nat.le_of_ble_eq_true rfl) dX7_sum__46 (fun H locs hP hD hS => ?_)
  have hP : va_P K.1 vwCl (wd K C S5 o g) H := by rw [eS5]; exact hP
  have hD : va_D (inA K) (wd K C S5 o g) := by rw [eS5]; exact hD
  refine lv_aload_n hx hb dX7_sum__49 rfl (lv_at hl 2 rfl) ?_
  obtain ⟨S6, qS6, h⟩ := gn_bd h
  refine hc_V (rest := []) ⟨hx, hb, hml, hown, hts⟩ hN hF hK hP hD hS (c_X7_term l z K _ o g fs d hfs  _  S6 qS6) (cwV 0 hts gX7_sum__X7_term rfl rfl rfl (by decide +kernel) ⟨(show (10 * d + 14) + 1 ≤  10 * (d + 1) + 10 by omega), (show 8 + (2 + 11) + (400 * d + 560) ≤  400 * (d + 1) + 400 by omega)⟩) (va_recv hK hP (ci := 6) (q0 := 12) rfl rfl) rfl hl.1 rfl (Nat.le_of_ble_eq_true rfl) dX7_sum__50 hcl hsl (fun H locs hP hD hS => ?_)
  have hP : va_P K.1 vwCl (wd K C S6 o g) H := hP
  have hD : va_D (inA K) (wd K C S6 o g) := hD
  refine W.eq (g2 := F0 m 53 ls []) rfl ?_
  refine lv_aload_n hx hb dX7_sum__53 rfl (lv_at hl 2 rfl) ?_
  refine lv_iload_n hx hb dX7_sum__54 rfl (lv_at hl 0 rfl) ?_
  refine lv_iload_n hx hb dX7_sum__55 rfl (lv_at hl 1 rfl) ?_
  obtain ⟨S7, qS7, h⟩ := gn_bd h
  refine hc_V (rest := []) ⟨hx, hb, hml, hown, hts⟩ hN hF hK hP hD hS (c_X7_joins l z K _ o g _ _ _  S7 qS7) (cwV 2 hts gX7_sum__X7_joins rfl rfl rfl (by decide +kernel) ⟨(show 3 + 1 ≤ 10 * d + 20 by omega), (show 8 + (11 + 11) + 76 ≤ 400 * d + 800 by omega)⟩) (va_recv hK hP (ci := 6) (q0 := 12) rfl rfl) rfl hl.1 rfl (Nat.le_of_ble_eq_true rfl) dX7_sum__56 hcl hsl (fun H locs hP hD hS => ?_)
  have hP : va_P K.1 vwCl (wd K C S7 o g) H := hP
  have hD : va_D (inA K) (wd K C S7 o g) := hD
  refine W.eq (g2 := F0 m 59 ls []) rfl ?_
  refine lv_goto (tgt := 4) hx hb dX7_sum__59 (by decide) ?_
  exact hk4 S7 _ _ hP hD hS h ls (lv_sub hl [2] rfl)
set_option maxRecDepth 100000 in
theorem w_X7_sum__4 (Cc : Cx p s m args meth c cX7_sum_ 3 RX7 wsX7_sum_ none) (hK : va_K K.1 vwCl (tysOf K) s) (hF : SF K s) {fs : MS → Option MS} {d : Nat} (hfs : ∀ S S', fs S = some S' → Met l yX7_sum_ wsX7_sum_ (rm_X7_sum_ d) (qH K [.ref (K.2.2.1 12)] C S o g) (qR K none C S' o g) 0 0 (inA K))  {S' : MS} (n : Nat) : ∀  (S : MS) (H : Heap) (locs : List Loc), va_P K.1 vwCl (wd K C S o g) H → va_D (inA K) (wd K C S o g) → va_S (inA K) s.heap H locs → G_X7_sum__4 z fs n S = some S' → ∀ ls, lv_has ls 3 [(0, .ref (K.2.2.1 12))] → W p l e (rm_X7_sum_ (d + 1)) s m args below meth c H locs 0 0 (MQ below (qR K none C S' o g) args s 0 0 (inA K)) (F0 m 4 ls []) := by
  obtain ⟨hx, hb, hml, hown, hts, hr, hlk, hN⟩ := id Cc
  have hcl : 0 ≤ ((rm_X7_sum_ (d + 1))).cells := Nat.zero_le _
  have hsl : 0 ≤ ((rm_X7_sum_ (d + 1))).slots := Nat.zero_le _
  induction n with
  | zero => intro S H locs hP hD hS h; cases h
  | succ n ih =>
    intro S H locs hP hD hS h ls hl
    rw [G_X7_sum__4] at h
    refine lv_aload_n hx hb dX7_sum__4 rfl (lv_at hl 0 rfl) ?_
    refine va_get (D := K.1) (ci := 6) (v := .int (mg_fault S)) (C := RX7) (T := TX7) (N := 24) hx hb hts in_X7_sum__X7 hown hK hP 12 rfl rfl 13 (by decide) (hts (.fieldLink RX7 191 "SawSumsModel" "fault" "I") (by decide +kernel)) (fun _ h9 => h9) rfl dX7_sum__5 ?_
    refine lv_if_ne (tgt := 62) hx hb dX7_sum__8 (by decide) (fun c1 => ?_) (fun c1 => ?_)
    · have h := gn_f h c1
      obtain rfl := gn_some h
      exact W.vret hx hb hr (fun t ht _ => ⟨rfl, by rw [ht]; exact hP, hD, hS.F ht⟩) hS.2.2 dX7_sum__62 hlk
    · have h := gn_t h c1
      refine lv_aload_n hx hb dX7_sum__11 rfl (lv_at hl 0 rfl) ?_
      obtain ⟨r2, S3, qS3, h⟩ := gn_bd2 h
      refine hc_V (rest := []) ⟨hx, hb, hml, hown, hts⟩ hN hF hK hP hD hS (c_X7_here l z K _ o g  _ r2 S3 qS3) (cwV 0 hts gX7_sum__X7_here rfl rfl rfl (by decide +kernel) ⟨(show 0 + 1 ≤ 10 * d + 20 by omega), (show 8 + (1 + 11) + 0 ≤ 400 * d + 800 by omega)⟩) (va_recv hK hP (ci := 6) (q0 := 12) rfl rfl) rfl hl.1 rfl (Nat.le_of_ble_eq_true rfl) dX7_sum__12 hcl hsl (fun H locs hP hD hS => ?_)
      have hP : va_P K.1 vwCl (wd K C S3 o g) H := hP
      have hD : va_D (inA K) (wd K C S3 o g) := hD
      refine W.eq (g2 := F0 m 15 ls [.int r2]) rfl ?_
      refine lv_bipush (v := (43 : Int32)) hx hb dX7_sum__15 (by decide) ?_
      refine lv_icmp_eq (tgt := 29) hx hb dX7_sum__17 (by decide) (fun c4 => ?_) (fun c4 => ?_)
      · have h := gn_t h c4
        exact w_X7_sum__29 Cc hK hF hfs ih S3 _ _ hP hD hS h ls (lv_sub hl [0] rfl)
      · have h := gn_f h c4
        refine lv_aload_n hx hb dX7_sum__20 rfl (lv_at hl 0 rfl) ?_
        obtain ⟨r5, S6, qS6, h⟩ := gn_bd2 h
        refine hc_V (rest := []) ⟨hx, hb, hml, hown, hts⟩ hN hF hK hP hD hS (c_X7_here l z K _ o g  _ r5 S6 qS6) (cwV 0 hts gX7_sum__X7_here rfl rfl rfl (by decide +kernel) ⟨(show 0 + 1 ≤ 10 * d + 20 by omega), (show 8 + (1 + 11) + 0 ≤ 400 * d + 800 by omega)⟩) (va_recv hK hP (ci := 6) (q0 := 12) rfl rfl) rfl hl.1 rfl (Nat.le_of_ble_eq_true rfl) dX7_sum__21 hcl hsl (fun H locs hP hD hS => ?_)
        have hP : va_P K.1 vwCl (wd K C S6 o g) H := hP
        have hD : va_D (inA K) (wd K C S6 o g) := hD
        refine W.eq (g2 := F0 m 24 ls [.int r5]) rfl ?_
        refine lv_bipush (v := (45 : Int32)) hx hb dX7_sum__24 (by decide) ?_
        refine lv_icmp_ne (tgt := 62) hx hb dX7_sum__26 (by decide) (fun c7 => ?_) (fun c7 => ?_)
        · have h := gn_f h c7
          obtain rfl := gn_some h
          exact W.vret hx hb hr (fun t ht _ => ⟨rfl, by rw [ht]; exact hP, hD, hS.F ht⟩) hS.2.2 dX7_sum__62 hlk
        · have h := gn_t h c7
          exact w_X7_sum__29 Cc hK hF hfs ih S6 _ _ hP hD hS h ls (lv_sub hl [0] rfl)
end
set_option maxRecDepth 100000 in
theorem c_X7_sumb (l : Launch) (z : Nat) (K : Ev) (C : CS) (o : Nat → Int64) (g : Gh) (fs : MS → Option MS) (d : Nat) (hfs : ∀ S S', fs S = some S' → Met l yX7_sum_ wsX7_sum_ (rm_X7_sum_ d) (qH K [.ref (K.2.2.1 12)] C S o g) (qR K none C S' o g) 0 0 (inA K))  (S : MS)  (S' : MS) (h : F_X7_sumb z fs S = some S') : Met l yX7_sum_ wsX7_sum_ (rm_X7_sum_ (d + 1)) (qH K [.ref (K.2.2.1 12)] C S o g) (qR K none C S' o g) 0 0 (inA K) := by
  refine Met.ofW (cc := cX7_sum_) (maxL := 3) (ret := none) (by decide) rfl ?_
  intro p e s m args below meth c s₁ B hml hv
  obtain ⟨rfl, hN, hP, hK, hD, hF⟩ := hv
  have hx := B.exec
  have hb := B.bytes
  have hr := B.returns
  have hts := atoms_spec (ws := wsX7_sum_) B.pre
  have hown : s.vm.findClass RX7 = some m.cls := findClass_of_methodNamed B.named
  have hlk := B.notSynchronized
  have hcl : 0 ≤ ((rm_X7_sum_ (d + 1))).cells := Nat.zero_le _
  have hsl : 0 ≤ ((rm_X7_sum_ (d + 1))).slots := Nat.zero_le _
  have Cc : Cx p s m _ meth c cX7_sum_ 3 RX7 wsX7_sum_ none := ⟨hx, hb, hml, hown, hts, hr, hlk, hN⟩
  have hS : va_S (inA K) s.heap s.heap [] := va_S.rf
  have hl := lv_entry ([.ref (K.2.2.1 12)]) (n := 3) (Nat.le_of_ble_eq_true rfl)
  rw [lg_entry_eq]
  generalize (lg_sl ([.ref (K.2.2.1 12)]) ++ List.replicate (3 - (lg_sl ([.ref (K.2.2.1 12)])).length) Slot.unset).toArray = ls at hl ⊢
  have hl : lv_has ls 3 [(0, .ref (K.2.2.1 12))] := hl
  rw [F_X7_sumb] at h
  refine lv_aload_n hx hb dX7_sum__0 rfl (lv_at hl 0 rfl) ?_
  obtain ⟨S1, qS1, h⟩ := gn_bd h
  refine hc_V (rest := []) ⟨hx, hb, hml, hown, hts⟩ hN hF hK hP hD hS (c_X7_term l z K _ o g fs d hfs  _  S1 qS1) (cwV 0 hts gX7_sum__X7_term rfl rfl rfl (by decide +kernel) ⟨(show (10 * d + 14) + 1 ≤  10 * (d + 1) + 10 by omega), (show 8 + (2 + 11) + (400 * d + 560) ≤  400 * (d + 1) + 400 by omega)⟩) (va_recv hK hP (ci := 6) (q0 := 12) rfl rfl) rfl hl.1 rfl (Nat.le_of_ble_eq_true rfl) dX7_sum__1 hcl hsl (fun H locs hP hD hS => ?_)
  have hP : va_P K.1 vwCl (wd K C S1 o g) H := hP
  have hD : va_D (inA K) (wd K C S1 o g) := hD
  refine W.eq (g2 := F0 m 4 ls []) rfl ?_
  exact w_X7_sum__4 Cc hK hF hfs z S1 _ _ hP hD hS h ls (lv_sub hl [0] rfl)
theorem c_X7_sum_ (l : Launch) (z : Nat) (K : Ev) (C : CS) (o : Nat → Int64) (g : Gh) (d : Nat) : ∀ (S S' : MS), F_X7_sum_ z d S = some S' → Met l yX7_sum_ wsX7_sum_ (rm_X7_sum_ d) (qH K [.ref (K.2.2.1 12)] C S o g) (qR K none C S' o g) 0 0 (inA K) := by
  induction d with
  | zero => intro S S' h; cases h
  | succ d ih =>
    intro S S' h
    rw [F_X7_sum_] at h
    exact c_X7_sumb l z K C o g (F_X7_sum_ z d) d ih S S' h
theorem in_X7_tell_X7 : ∀ w ∈ wsX70, w ∈ wsX7_tell := fun _ h => List.mem_cons_of_mem _ (List.mem_append_right _ h)
def rm_X7_tell : Room := { frames := 131, cells := 0, slots := 0, locals := 5222 }
section
variable {p : Program} {l : Launch} {e : Env} {s : State} {m : MethodId} {args : Array Value} {below : List Frame} {meth : Method} {c : Code} {z : Nat} {K : Ev} {C : CS} {o : Nat → Int64} {g : Gh}
set_option maxRecDepth 100000 in
theorem w_X7_tell_100 (Cc : Cx p s m args meth c cX7_tell 1 RX7 wsX7_tell (some .int)) (hK : va_K K.1 vwCl (tysOf K) s) (hF : SF K s) {r : Int32} {S' : MS} : ∀  (S : MS) (H : Heap) (locs : List Loc), va_P K.1 vwCl (wd K C S o g) H → va_D (inA K) (wd K C S o g) → va_S (inA K) s.heap H locs → G_X7_tell_100 z S = some (r, S') → ∀ ls, lv_has ls 1 [(0, .ref (K.2.2.1 12))] → W p l e rm_X7_tell s m args below meth c H locs 0 0 (MQ below (qR K (some (.int r)) C S' o g) args s 0 0 (inA K)) (F0 m 100 ls []) := by
  obtain ⟨hx, hb, hml, hown, hts, hr, hlk, hN⟩ := id Cc
  have hcl : 0 ≤ (rm_X7_tell).cells := Nat.zero_le _
  have hsl : 0 ≤ (rm_X7_tell).slots := Nat.zero_le _
  intro S H locs hP hD hS h ls hl
  rw [G_X7_tell_100] at h
  refine lv_aload_n hx hb dX7_tell_100 rfl (lv_at hl 0 rfl) ?_
  refine va_get (D := K.1) (ci := 6) (v := .int (mg_fault S)) (C := RX7) (T := TX7) (N := 24) hx hb hts in_X7_tell_X7 hown hK hP 12 rfl rfl 13 (by decide) (hts (.fieldLink RX7 191 "SawSumsModel" "fault" "I") (by decide +kernel)) (fun _ h9 => h9) rfl dX7_tell_101 ?_
  refine lv_if_eq (tgt := 112) hx hb dX7_tell_104 (by decide) (fun c1 => ?_) (fun c1 => ?_)
  · have h := gn_t h c1
    refine lv_aload_n hx hb dX7_tell_112 rfl (lv_at hl 0 rfl) ?_
    refine lv_aload_n hx hb dX7_tell_113 rfl (lv_at hl 0 rfl) ?_
    refine va_get (D := K.1) (ci := 6) (v := .ref (K.2.2.1 15)) (C := RX7) (T := TX7) (N := 24) hx hb hts in_X7_tell_X7 hown hK hP 12 rfl rfl 20 (by decide) (hts (.fieldLink RX7 17 "SawSumsModel" "tops" "[J") (by decide +kernel)) (fun _ h9 => h9) rfl dX7_tell_114 ?_
    refine lv_iconst (v := (0 : Int32)) hx hb dX7_tell_117 (by decide) ?_
    obtain ⟨n2, h⟩ := gn_yz h
    refine va_lald hx hb hK hP 15 0 rfl rfl (ib_in n2) dX7_tell_118 ?_
    obtain ⟨v3, ev3, h⟩ := gn_nm h
    refine ln_l ev3 ?_
    obtain ⟨S4, eS4, h⟩ := gn_nm h
    refine va_put (D := K.1) (ci := 6) (v := .long v3) (ty := .long) (C := RX7) (T := TX7) (N := 24) hx hb hts in_X7_tell_X7 tyX7 tyX7_ok nmX7 hown hK hP hD hS 12 rfl rfl 22 (by decide) (hts (.fieldLink RX7 268 "SawSumsModel" "toldUp" "J") (by decide +kernel)) (fun _ h9 => h9) rfl (by decide +kernel) rfl rfl (Nat.le_of_ble_eq_true rfl) dX7_tell_119 (fun H locs hP hD hS => ?_)
    have hP : va_P K.1 vwCl (wd K C S4 o g) H := by rw [eS4]; exact hP
    have hD : va_D (inA K) (wd K C S4 o g) := by rw [eS4]; exact hD
    refine lv_aload_n hx hb dX7_tell_122 rfl (lv_at hl 0 rfl) ?_
    refine lv_aload_n hx hb dX7_tell_123 rfl (lv_at hl 0 rfl) ?_
    refine va_get (D := K.1) (ci := 6) (v := .ref (K.2.2.1 16)) (C := RX7) (T := TX7) (N := 24) hx hb hts in_X7_tell_X7 hown hK hP 12 rfl rfl 21 (by decide) (hts (.fieldLink RX7 20 "SawSumsModel" "bottoms" "[J") (by decide +kernel)) (fun _ h9 => h9) rfl dX7_tell_124 ?_
    refine lv_iconst (v := (0 : Int32)) hx hb dX7_tell_127 (by decide) ?_
    obtain ⟨n5, h⟩ := gn_yz h
    refine va_lald hx hb hK hP 16 0 rfl rfl (ib_in n5) dX7_tell_128 ?_
    obtain ⟨v6, ev6, h⟩ := gn_nm h
    refine ln_l ev6 ?_
    obtain ⟨S7, eS7, h⟩ := gn_nm h
    refine va_put (D := K.1) (ci := 6) (v := .long v6) (ty := .long) (C := RX7) (T := TX7) (N := 24) hx hb hts in_X7_tell_X7 tyX7 tyX7_ok nmX7 hown hK hP hD hS 12 rfl rfl 23 (by decide) (hts (.fieldLink RX7 30 "SawSumsModel" "toldUnder" "J") (by decide +kernel)) (fun _ h9 => h9) rfl (by decide +kernel) rfl rfl (Nat.le_of_ble_eq_true rfl) dX7_tell_129 (fun H locs hP hD hS => ?_)
    have hP : va_P K.1 vwCl (wd K C S7 o g) H := by rw [eS7]; exact hP
    have hD : va_D (inA K) (wd K C S7 o g) := by rw [eS7]; exact hD
    refine lv_aload_n hx hb dX7_tell_132 rfl (lv_at hl 0 rfl) ?_
    refine lv_dup hx hb dX7_tell_133 rfl ?_
    refine va_get (D := K.1) (ci := 6) (v := .int (mg_sums S7)) (C := RX7) (T := TX7) (N := 24) hx hb hts in_X7_tell_X7 hown hK hP 12 rfl rfl 16 (by decide) (hts (.fieldLink RX7 271 "SawSumsModel" "sums" "I") (by decide +kernel)) (fun _ h9 => h9) rfl dX7_tell_134 ?_
    refine lv_iconst (v := (1 : Int32)) hx hb dX7_tell_137 (by decide) ?_
    refine lv_iadd hx hb dX7_tell_138 ?_
    obtain ⟨v8, ev8, h⟩ := gn_nm h
    refine ln_i ev8 ?_
    obtain ⟨S9, eS9, h⟩ := gn_nm h
    refine va_put (D := K.1) (ci := 6) (v := .int v8) (ty := .int) (C := RX7) (T := TX7) (N := 24) hx hb hts in_X7_tell_X7 tyX7 tyX7_ok nmX7 hown hK hP hD hS 12 rfl rfl 16 (by decide) (hts (.fieldLink RX7 271 "SawSumsModel" "sums" "I") (by decide +kernel)) (fun _ h9 => h9) rfl (by decide +kernel) rfl rfl (Nat.le_of_ble_eq_true rfl) dX7_tell_139 (fun H locs hP hD hS => ?_)
    have hP : va_P K.1 vwCl (wd K C S9 o g) H := by rw [eS9]; exact hP
    have hD : va_D (inA K) (wd K C S9 o g) := by rw [eS9]; exact hD
    refine lv_aload_n hx hb dX7_tell_142 rfl (lv_at hl 0 rfl) ?_
    refine lv_aload_n hx hb dX7_tell_143 rfl (lv_at hl 0 rfl) ?_
    refine va_get (D := K.1) (ci := 6) (v := .int (mg_oftenNow S9)) (C := RX7) (T := TX7) (N := 24) hx hb hts in_X7_tell_X7 hown hK hP 12 rfl rfl 18 (by decide) (hts (.fieldLink RX7 247 "SawSumsModel" "oftenNow" "I") (by decide +kernel)) (fun _ h9 => h9) rfl dX7_tell_144 ?_
    obtain ⟨v10, ev10, h⟩ := gn_nm h
    refine ln_i ev10 ?_
    obtain ⟨S11, eS11, h⟩ := gn_nm h
    refine va_put (D := K.1) (ci := 6) (v := .int v10) (ty := .int) (C := RX7) (T := TX7) (N := 24) hx hb hts in_X7_tell_X7 tyX7 tyX7_ok nmX7 hown hK hP hD hS 12 rfl rfl 17 (by decide) (hts (.fieldLink RX7 274 "SawSumsModel" "often" "I") (by decide +kernel)) (fun _ h9 => h9) rfl (by decide +kernel) rfl rfl (Nat.le_of_ble_eq_true rfl) dX7_tell_147 (fun H locs hP hD hS => ?_)
    have hP : va_P K.1 vwCl (wd K C S11 o g) H := by rw [eS11]; exact hP
    have hD : va_D (inA K) (wd K C S11 o g) := by rw [eS11]; exact hD
    refine lv_iconst (v := (0 : Int32)) hx hb dX7_tell_150 (by decide) ?_
    obtain ⟨rfl, rfl⟩ := Prod.mk.inj (gn_some h)
    exact W.iret hx hb hr (fun t ht _ => ⟨rfl, by rw [ht]; exact hP, hD, hS.F ht⟩) hS.2.2 dX7_tell_151 hlk
  · have h := gn_f h c1
    refine lv_aload_n hx hb dX7_tell_107 rfl (lv_at hl 0 rfl) ?_
    refine va_get (D := K.1) (ci := 6) (v := .int (mg_fault S)) (C := RX7) (T := TX7) (N := 24) hx hb hts in_X7_tell_X7 hown hK hP 12 rfl rfl 13 (by decide) (hts (.fieldLink RX7 191 "SawSumsModel" "fault" "I") (by decide +kernel)) (fun _ h9 => h9) rfl dX7_tell_108 ?_
    obtain ⟨rfl, rfl⟩ := Prod.mk.inj (gn_some h)
    exact W.iret hx hb hr (fun t ht _ => ⟨rfl, by rw [ht]; exact hP, hD, hS.F ht⟩) hS.2.2 dX7_tell_111 hlk
set_option maxRecDepth 100000 in
theorem w_X7_tell_76 (Cc : Cx p s m args meth c cX7_tell 1 RX7 wsX7_tell (some .int)) (hK : va_K K.1 vwCl (tysOf K) s) (hF : SF K s) {r : Int32} {S' : MS} : ∀  (S : MS) (H : Heap) (locs : List Loc), va_P K.1 vwCl (wd K C S o g) H → va_D (inA K) (wd K C S o g) → va_S (inA K) s.heap H locs → G_X7_tell_76 z S = some (r, S') → ∀ ls, lv_has ls 1 [(0, .ref (K.2.2.1 12))] → W p l e rm_X7_tell s m args below meth c H locs 0 0 (MQ below (qR K (some (.int r)) C S' o g) args s 0 0 (inA K)) (F0 m 76 ls []) := by
  obtain ⟨hx, hb, hml, hown, hts, hr, hlk, hN⟩ := id Cc
  have hcl : 0 ≤ (rm_X7_tell).cells := Nat.zero_le _
  have hsl : 0 ≤ (rm_X7_tell).slots := Nat.zero_le _
  intro S H locs hP hD hS h ls hl
  rw [G_X7_tell_76] at h
  refine lv_aload_n hx hb dX7_tell_76 rfl (lv_at hl 0 rfl) ?_
  refine va_get (D := K.1) (ci := 6) (v := .int (mg_fault S)) (C := RX7) (T := TX7) (N := 24) hx hb hts in_X7_tell_X7 hown hK hP 12 rfl rfl 13 (by decide) (hts (.fieldLink RX7 191 "SawSumsModel" "fault" "I") (by decide +kernel)) (fun _ h9 => h9) rfl dX7_tell_77 ?_
  refine lv_if_ne (tgt := 100) hx hb dX7_tell_80 (by decide) (fun c1 => ?_) (fun c1 => ?_)
  · have h := gn_f h c1
    exact w_X7_tell_100 Cc hK hF S _ _ hP hD hS h ls (lv_sub hl [0] rfl)
  · have h := gn_t h c1
    refine lv_aload_n hx hb dX7_tell_83 rfl (lv_at hl 0 rfl) ?_
    refine va_get (D := K.1) (ci := 6) (v := .int (mg_beyond S)) (C := RX7) (T := TX7) (N := 24) hx hb hts in_X7_tell_X7 hown hK hP 12 rfl rfl 14 (by decide) (hts (.fieldLink RX7 194 "SawSumsModel" "beyond" "I") (by decide +kernel)) (fun _ h9 => h9) rfl dX7_tell_84 ?_
    refine lv_iconst (v := (-1 : Int32)) hx hb dX7_tell_87 (by decide) ?_
    refine lv_icmp_eq (tgt := 100) hx hb dX7_tell_88 (by decide) (fun c2 => ?_) (fun c2 => ?_)
    · have h := gn_t h c2
      exact w_X7_tell_100 Cc hK hF S _ _ hP hD hS h ls (lv_sub hl [0] rfl)
    · have h := gn_f h c2
      refine lv_aload_n hx hb dX7_tell_91 rfl (lv_at hl 0 rfl) ?_
      refine lv_iconst (v := (3 : Int32)) hx hb dX7_tell_92 (by decide) ?_
      refine lv_aload_n hx hb dX7_tell_93 rfl (lv_at hl 0 rfl) ?_
      refine va_get (D := K.1) (ci := 6) (v := .int (mg_beyond S)) (C := RX7) (T := TX7) (N := 24) hx hb hts in_X7_tell_X7 hown hK hP 12 rfl rfl 14 (by decide) (hts (.fieldLink RX7 194 "SawSumsModel" "beyond" "I") (by decide +kernel)) (fun _ h9 => h9) rfl dX7_tell_94 ?_
      obtain ⟨S3, qS3, h⟩ := gn_bd h
      refine hc_V (rest := []) ⟨hx, hb, hml, hown, hts⟩ hN hF hK hP hD hS (c_X7_fails l z K _ o g _ _ _  S3 qS3) (cwV 2 hts gX7_tell_X7_fails rfl rfl rfl (by decide +kernel) ⟨(Nat.le_of_ble_eq_true rfl), (Nat.le_of_ble_eq_true rfl)⟩) (va_recv hK hP (ci := 6) (q0 := 12) rfl rfl) rfl hl.1 rfl (Nat.le_of_ble_eq_true rfl) dX7_tell_97 hcl hsl (fun H locs hP hD hS => ?_)
      have hP : va_P K.1 vwCl (wd K C S3 o g) H := hP
      have hD : va_D (inA K) (wd K C S3 o g) := hD
      refine W.eq (g2 := F0 m 100 ls []) rfl ?_
      exact w_X7_tell_100 Cc hK hF S3 _ _ hP hD hS h ls (lv_sub hl [0] rfl)
end
set_option maxRecDepth 100000 in
theorem c_X7_tell (l : Launch) (z : Nat) (K : Ev) (C : CS) (o : Nat → Int64) (g : Gh)  (S : MS) (r : Int32) (S' : MS) (h : F_X7_tell z S = some (r, S')) : Met l yX7_tell wsX7_tell rm_X7_tell (qH K [.ref (K.2.2.1 12)] C S o g) (qR K (some (.int r)) C S' o g) 0 0 (inA K) := by
  refine Met.ofW (cc := cX7_tell) (maxL := 1) (ret := (some .int)) (by decide) rfl ?_
  intro p e s m args below meth c s₁ B hml hv
  obtain ⟨rfl, hN, hP, hK, hD, hF⟩ := hv
  have hx := B.exec
  have hb := B.bytes
  have hr := B.returns
  have hts := atoms_spec (ws := wsX7_tell) B.pre
  have hown : s.vm.findClass RX7 = some m.cls := findClass_of_methodNamed B.named
  have hlk := B.notSynchronized
  have hcl : 0 ≤ (rm_X7_tell).cells := Nat.zero_le _
  have hsl : 0 ≤ (rm_X7_tell).slots := Nat.zero_le _
  have Cc : Cx p s m _ meth c cX7_tell 1 RX7 wsX7_tell (some .int) := ⟨hx, hb, hml, hown, hts, hr, hlk, hN⟩
  have hS : va_S (inA K) s.heap s.heap [] := va_S.rf
  have hl := lv_entry ([.ref (K.2.2.1 12)]) (n := 1) (Nat.le_of_ble_eq_true rfl)
  rw [lg_entry_eq]
  generalize (lg_sl ([.ref (K.2.2.1 12)]) ++ List.replicate (1 - (lg_sl ([.ref (K.2.2.1 12)])).length) Slot.unset).toArray = ls at hl ⊢
  have hl : lv_has ls 1 [(0, .ref (K.2.2.1 12))] := hl
  rw [F_X7_tell] at h
  refine lv_aload_n hx hb dX7_tell_0 rfl (lv_at hl 0 rfl) ?_
  refine lv_iconst (v := (0 : Int32)) hx hb dX7_tell_1 (by decide) ?_
  obtain ⟨S1, eS1, h⟩ := gn_nm h
  refine va_put (D := K.1) (ci := 6) (v := .int (0 : Int32)) (ty := .int) (C := RX7) (T := TX7) (N := 24) hx hb hts in_X7_tell_X7 tyX7 tyX7_ok nmX7 hown hK hP hD hS 12 rfl rfl 0 (by decide) (hts (.fieldLink RX7 33 "SawSumsModel" "thrown" "I") (by decide +kernel)) (fun _ h9 => h9) rfl (by decide +kernel) rfl rfl (Nat.le_of_ble_eq_true rfl) dX7_tell_2 (fun H locs hP hD hS => ?_)
  have hP : va_P K.1 vwCl (wd K C S1 o g) H := by rw [eS1]; exact hP
  have hD : va_D (inA K) (wd K C S1 o g) := by rw [eS1]; exact hD
  refine lv_aload_n hx hb dX7_tell_5 rfl (lv_at hl 0 rfl) ?_
  refine lv_aload_n hx hb dX7_tell_6 rfl (lv_at hl 0 rfl) ?_
  refine va_get (D := K.1) (ci := 6) (v := .int (mg_taped S1)) (C := RX7) (T := TX7) (N := 24) hx hb hts in_X7_tell_X7 hown hK hP 12 rfl rfl 9 (by decide) (hts (.fieldLink RX7 178 "SawSumsModel" "taped" "I") (by decide +kernel)) (fun _ h9 => h9) rfl dX7_tell_7 ?_
  obtain ⟨v2, ev2, h⟩ := gn_nm h
  refine ln_i ev2 ?_
  obtain ⟨S3, eS3, h⟩ := gn_nm h
  refine va_put (D := K.1) (ci := 6) (v := .int v2) (ty := .int) (C := RX7) (T := TX7) (N := 24) hx hb hts in_X7_tell_X7 tyX7 tyX7_ok nmX7 hown hK hP hD hS 12 rfl rfl 10 (by decide) (hts (.fieldLink RX7 188 "SawSumsModel" "length" "I") (by decide +kernel)) (fun _ h9 => h9) rfl (by decide +kernel) rfl rfl (Nat.le_of_ble_eq_true rfl) dX7_tell_10 (fun H locs hP hD hS => ?_)
  have hP : va_P K.1 vwCl (wd K C S3 o g) H := by rw [eS3]; exact hP
  have hD : va_D (inA K) (wd K C S3 o g) := by rw [eS3]; exact hD
  refine lv_aload_n hx hb dX7_tell_13 rfl (lv_at hl 0 rfl) ?_
  refine lv_iconst (v := (0 : Int32)) hx hb dX7_tell_14 (by decide) ?_
  obtain ⟨S4, eS4, h⟩ := gn_nm h
  refine va_put (D := K.1) (ci := 6) (v := .int (0 : Int32)) (ty := .int) (C := RX7) (T := TX7) (N := 24) hx hb hts in_X7_tell_X7 tyX7 tyX7_ok nmX7 hown hK hP hD hS 12 rfl rfl 9 (by decide) (hts (.fieldLink RX7 178 "SawSumsModel" "taped" "I") (by decide +kernel)) (fun _ h9 => h9) rfl (by decide +kernel) rfl rfl (Nat.le_of_ble_eq_true rfl) dX7_tell_15 (fun H locs hP hD hS => ?_)
  have hP : va_P K.1 vwCl (wd K C S4 o g) H := by rw [eS4]; exact hP
  have hD : va_D (inA K) (wd K C S4 o g) := by rw [eS4]; exact hD
  refine lv_aload_n hx hb dX7_tell_18 rfl (lv_at hl 0 rfl) ?_
  refine lv_iconst (v := (0 : Int32)) hx hb dX7_tell_19 (by decide) ?_
  obtain ⟨S5, eS5, h⟩ := gn_nm h
  refine va_put (D := K.1) (ci := 6) (v := .int (0 : Int32)) (ty := .int) (C := RX7) (T := TX7) (N := 24) hx hb hts in_X7_tell_X7 tyX7 tyX7_ok nmX7 hown hK hP hD hS 12 rfl rfl 13 (by decide) (hts (.fieldLink RX7 191 "SawSumsModel" "fault" "I") (by decide +kernel)) (fun _ h9 => h9) rfl (by decide +kernel) rfl rfl (Nat.le_of_ble_eq_true rfl) dX7_tell_20 (fun H locs hP hD hS => ?_)
  have hP : va_P K.1 vwCl (wd K C S5 o g) H := by rw [eS5]; exact hP
  have hD : va_D (inA K) (wd K C S5 o g) := by rw [eS5]; exact hD
  refine lv_aload_n hx hb dX7_tell_23 rfl (lv_at hl 0 rfl) ?_
  refine lv_iconst (v := (-1 : Int32)) hx hb dX7_tell_24 (by decide) ?_
  obtain ⟨S6, eS6, h⟩ := gn_nm h
  refine va_put (D := K.1) (ci := 6) (v := .int (-1 : Int32)) (ty := .int) (C := RX7) (T := TX7) (N := 24) hx hb hts in_X7_tell_X7 tyX7 tyX7_ok nmX7 hown hK hP hD hS 12 rfl rfl 14 (by decide) (hts (.fieldLink RX7 194 "SawSumsModel" "beyond" "I") (by decide +kernel)) (fun _ h9 => h9) rfl (by decide +kernel) rfl rfl (Nat.le_of_ble_eq_true rfl) dX7_tell_25 (fun H locs hP hD hS => ?_)
  have hP : va_P K.1 vwCl (wd K C S6 o g) H := by rw [eS6]; exact hP
  have hD : va_D (inA K) (wd K C S6 o g) := by rw [eS6]; exact hD
  refine lv_aload_n hx hb dX7_tell_28 rfl (lv_at hl 0 rfl) ?_
  refine lv_iconst (v := (0 : Int32)) hx hb dX7_tell_29 (by decide) ?_
  obtain ⟨S7, eS7, h⟩ := gn_nm h
  refine va_put (D := K.1) (ci := 6) (v := .int (0 : Int32)) (ty := .int) (C := RX7) (T := TX7) (N := 24) hx hb hts in_X7_tell_X7 tyX7 tyX7_ok nmX7 hown hK hP hD hS 12 rfl rfl 11 (by decide) (hts (.fieldLink RX7 185 "SawSumsModel" "at" "I") (by decide +kernel)) (fun _ h9 => h9) rfl (by decide +kernel) rfl rfl (Nat.le_of_ble_eq_true rfl) dX7_tell_30 (fun H locs hP hD hS => ?_)
  have hP : va_P K.1 vwCl (wd K C S7 o g) H := by rw [eS7]; exact hP
  have hD : va_D (inA K) (wd K C S7 o g) := by rw [eS7]; exact hD
  refine lv_aload_n hx hb dX7_tell_33 rfl (lv_at hl 0 rfl) ?_
  refine lv_iconst (v := (0 : Int32)) hx hb dX7_tell_34 (by decide) ?_
  obtain ⟨S8, eS8, h⟩ := gn_nm h
  refine va_put (D := K.1) (ci := 6) (v := .int (0 : Int32)) (ty := .int) (C := RX7) (T := TX7) (N := 24) hx hb hts in_X7_tell_X7 tyX7 tyX7_ok nmX7 hown hK hP hD hS 12 rfl rfl 15 (by decide) (hts (.fieldLink RX7 219 "SawSumsModel" "open" "I") (by decide +kernel)) (fun _ h9 => h9) rfl (by decide +kernel) rfl rfl (Nat.le_of_ble_eq_true rfl) dX7_tell_35 (fun H locs hP hD hS => ?_)
  have hP : va_P K.1 vwCl (wd K C S8 o g) H := by rw [eS8]; exact hP
  have hD : va_D (inA K) (wd K C S8 o g) := by rw [eS8]; exact hD
  refine lv_aload_n hx hb dX7_tell_38 rfl (lv_at hl 0 rfl) ?_
  refine lv_iconst (v := (0 : Int32)) hx hb dX7_tell_39 (by decide) ?_
  obtain ⟨S9, eS9, h⟩ := gn_nm h
  refine va_put (D := K.1) (ci := 6) (v := .int (0 : Int32)) (ty := .int) (C := RX7) (T := TX7) (N := 24) hx hb hts in_X7_tell_X7 tyX7 tyX7_ok nmX7 hown hK hP hD hS 12 rfl rfl 19 (by decide) (hts (.fieldLink RX7 197 "SawSumsModel" "piled" "I") (by decide +kernel)) (fun _ h9 => h9) rfl (by decide +kernel) rfl rfl (Nat.le_of_ble_eq_true rfl) dX7_tell_40 (fun H locs hP hD hS => ?_)
  have hP : va_P K.1 vwCl (wd K C S9 o g) H := by rw [eS9]; exact hP
  have hD : va_D (inA K) (wd K C S9 o g) := by rw [eS9]; exact hD
  refine lv_aload_n hx hb dX7_tell_43 rfl (lv_at hl 0 rfl) ?_
  refine lv_iconst (v := (0 : Int32)) hx hb dX7_tell_44 (by decide) ?_
  obtain ⟨S10, eS10, h⟩ := gn_nm h
  refine va_put (D := K.1) (ci := 6) (v := .int (0 : Int32)) (ty := .int) (C := RX7) (T := TX7) (N := 24) hx hb hts in_X7_tell_X7 tyX7 tyX7_ok nmX7 hown hK hP hD hS 12 rfl rfl 18 (by decide) (hts (.fieldLink RX7 247 "SawSumsModel" "oftenNow" "I") (by decide +kernel)) (fun _ h9 => h9) rfl (by decide +kernel) rfl rfl (Nat.le_of_ble_eq_true rfl) dX7_tell_45 (fun H locs hP hD hS => ?_)
  have hP : va_P K.1 vwCl (wd K C S10 o g) H := by rw [eS10]; exact hP
  have hD : va_D (inA K) (wd K C S10 o g) := by rw [eS10]; exact hD
  refine lv_aload_n hx hb dX7_tell_48 rfl (lv_at hl 0 rfl) ?_
  obtain ⟨S11, qS11, h⟩ := gn_bd h
  refine hc_V (rest := []) ⟨hx, hb, hml, hown, hts⟩ hN hF hK hP hD hS (c_X7_sum_ l z K _ o g 12  _  S11 qS11) (cwV 0 hts gX7_tell_X7_sum_ rfl rfl rfl (by decide +kernel) ⟨(Nat.le_of_ble_eq_true rfl), (Nat.le_of_ble_eq_true rfl)⟩) (va_recv hK hP (ci := 6) (q0 := 12) rfl rfl) rfl hl.1 rfl (Nat.le_of_ble_eq_true rfl) dX7_tell_49 hcl hsl (fun H locs hP hD hS => ?_)
  have hP : va_P K.1 vwCl (wd K C S11 o g) H := hP
  have hD : va_D (inA K) (wd K C S11 o g) := hD
  refine W.eq (g2 := F0 m 52 ls []) rfl ?_
  refine lv_aload_n hx hb dX7_tell_52 rfl (lv_at hl 0 rfl) ?_
  refine va_get (D := K.1) (ci := 6) (v := .int (mg_fault S11)) (C := RX7) (T := TX7) (N := 24) hx hb hts in_X7_tell_X7 hown hK hP 12 rfl rfl 13 (by decide) (hts (.fieldLink RX7 191 "SawSumsModel" "fault" "I") (by decide +kernel)) (fun _ h9 => h9) rfl dX7_tell_53 ?_
  refine lv_if_ne (tgt := 76) hx hb dX7_tell_56 (by decide) (fun c12 => ?_) (fun c12 => ?_)
  · have h := gn_f h c12
    exact w_X7_tell_76 Cc hK hF S11 _ _ hP hD hS h ls (lv_sub hl [0] rfl)
  · have h := gn_t h c12
    refine lv_aload_n hx hb dX7_tell_59 rfl (lv_at hl 0 rfl) ?_
    obtain ⟨r13, S14, qS14, h⟩ := gn_bd2 h
    refine hc_V (rest := []) ⟨hx, hb, hml, hown, hts⟩ hN hF hK hP hD hS (c_X7_here l z K _ o g  _ r13 S14 qS14) (cwV 0 hts gX7_tell_X7_here rfl rfl rfl (by decide +kernel) ⟨(Nat.le_of_ble_eq_true rfl), (Nat.le_of_ble_eq_true rfl)⟩) (va_recv hK hP (ci := 6) (q0 := 12) rfl rfl) rfl hl.1 rfl (Nat.le_of_ble_eq_true rfl) dX7_tell_60 hcl hsl (fun H locs hP hD hS => ?_)
    have hP : va_P K.1 vwCl (wd K C S14 o g) H := hP
    have hD : va_D (inA K) (wd K C S14 o g) := hD
    refine W.eq (g2 := F0 m 63 ls [.int r13]) rfl ?_
    refine lv_iconst (v := (-1 : Int32)) hx hb dX7_tell_63 (by decide) ?_
    refine lv_icmp_eq (tgt := 76) hx hb dX7_tell_64 (by decide) (fun c15 => ?_) (fun c15 => ?_)
    · have h := gn_t h c15
      exact w_X7_tell_76 Cc hK hF S14 _ _ hP hD hS h ls (lv_sub hl [0] rfl)
    · have h := gn_f h c15
      refine lv_aload_n hx hb dX7_tell_67 rfl (lv_at hl 0 rfl) ?_
      refine lv_iconst (v := (1 : Int32)) hx hb dX7_tell_68 (by decide) ?_
      refine lv_aload_n hx hb dX7_tell_69 rfl (lv_at hl 0 rfl) ?_
      refine va_get (D := K.1) (ci := 6) (v := .int (mg_at S14)) (C := RX7) (T := TX7) (N := 24) hx hb hts in_X7_tell_X7 hown hK hP 12 rfl rfl 11 (by decide) (hts (.fieldLink RX7 185 "SawSumsModel" "at" "I") (by decide +kernel)) (fun _ h9 => h9) rfl dX7_tell_70 ?_
      obtain ⟨S16, qS16, h⟩ := gn_bd h
      refine hc_V (rest := []) ⟨hx, hb, hml, hown, hts⟩ hN hF hK hP hD hS (c_X7_fails l z K _ o g _ _ _  S16 qS16) (cwV 2 hts gX7_tell_X7_fails rfl rfl rfl (by decide +kernel) ⟨(Nat.le_of_ble_eq_true rfl), (Nat.le_of_ble_eq_true rfl)⟩) (va_recv hK hP (ci := 6) (q0 := 12) rfl rfl) rfl hl.1 rfl (Nat.le_of_ble_eq_true rfl) dX7_tell_73 hcl hsl (fun H locs hP hD hS => ?_)
      have hP : va_P K.1 vwCl (wd K C S16 o g) H := hP
      have hD : va_D (inA K) (wd K C S16 o g) := hD
      refine W.eq (g2 := F0 m 76 ls []) rfl ?_
      exact w_X7_tell_76 Cc hK hF S16 _ _ hP hD hS h ls (lv_sub hl [0] rfl)
