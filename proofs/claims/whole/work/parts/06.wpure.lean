def rm_J9_floorMod_7cf53 : Room := { frames := 0, cells := 0, slots := 0, locals := 0 }
section
variable {p : Program} {l : Launch} {e : Env} {s : State} {m : MethodId} {args : Array Value} {below : List Frame} {meth : Method} {c : Code} {z : Nat}
end
set_option maxRecDepth 100000 in
theorem c_J9_floorMod_7cf53 (l : Launch) (z : Nat) (a0 : Int32) (a1 : Int32) (r : Int32) (h : F_J9_floorMod_7cf53 z a0 a1 = some r) : Met l yJ9_floorMod_7cf53 wsJ9_floorMod_7cf53 rm_J9_floorMod_7cf53 (qA [.int a0, .int a1]) (qP (.int r)) 0 0 (fun _ => False) := by
  refine va_MetF (cc := cJ9_floorMod_7cf53) (maxL := 3) (ret := (some .int)) (by decide +kernel) rfl ?_
  intro p e s m args below meth c s₁ B hml hv
  obtain ⟨rfl, hN⟩ := hv
  have hx := B.exec
  have hb := B.bytes
  have hr := B.returns
  have hts := atoms_spec (ws := wsJ9_floorMod_7cf53) B.pre
  have hown : s.vm.findClass RJ9 = some m.cls := findClass_of_methodNamed B.named
  have hlk := B.notSynchronized
  have hcl : 0 ≤ (rm_J9_floorMod_7cf53).cells := Nat.zero_le _
  have hsl : 0 ≤ (rm_J9_floorMod_7cf53).slots := Nat.zero_le _
  have Cc : Cx p s m _ meth c cJ9_floorMod_7cf53 3 RJ9 wsJ9_floorMod_7cf53 (some .int) := ⟨hx, hb, hml, hown, hts, hr, hlk, hN⟩
  have hl := lv_entry ([.int a0, .int a1]) (n := 3) (Nat.le_of_ble_eq_true rfl)
  rw [lg_entry_eq]
  generalize (lg_sl ([.int a0, .int a1]) ++ List.replicate (3 - (lg_sl ([.int a0, .int a1])).length) Slot.unset).toArray = ls at hl ⊢
  have hl : lv_has ls 3 [(0, .int a0), (1, .int a1)] := hl
  rw [F_J9_floorMod_7cf53] at h
  refine lv_iload_n hx hb dJ9_floorMod_7cf53_0 rfl (lv_at hl 0 rfl) ?_
  refine lv_iload_n hx hb dJ9_floorMod_7cf53_1 rfl (lv_at hl 1 rfl) ?_
  obtain ⟨n1, h⟩ := gn_nz h
  refine lv_irem hx hb dJ9_floorMod_7cf53_2 n1 ?_
  obtain ⟨v2, ev2, h⟩ := gn_nm h
  refine ln_i ev2 ?_
  refine lv_istore_n (lv' := [(2, .int v2), (0, .int a0), (1, .int a1)]) hx hb dJ9_floorMod_7cf53_3 rfl hl (by decide) rfl (fun ls hl => ?_)
  refine lv_iload_n hx hb dJ9_floorMod_7cf53_4 rfl (lv_at hl 1 rfl) ?_
  refine lv_iload_n hx hb dJ9_floorMod_7cf53_5 rfl (lv_at hl 2 rfl) ?_
  refine lv_ixor hx hb dJ9_floorMod_7cf53_6 ?_
  refine lv_if_ge (tgt := 18) hx hb dJ9_floorMod_7cf53_7 (by decide) (fun c3 => ?_) (fun c3 => ?_)
  · have h := gn_t h c3
    refine lv_iload_n hx hb dJ9_floorMod_7cf53_18 rfl (lv_at hl 0 rfl) ?_
    obtain rfl := gn_some h
    exact W.iret hx hb hr (fun t ht _ => ⟨rfl, ht⟩) (fun _ hq => by cases hq) dJ9_floorMod_7cf53_19 hlk
  · have h := gn_f h c3
    refine lv_iload_n hx hb dJ9_floorMod_7cf53_10 rfl (lv_at hl 0 rfl) ?_
    refine lv_if_eq (tgt := 18) hx hb dJ9_floorMod_7cf53_11 (by decide) (fun c4 => ?_) (fun c4 => ?_)
    · have h := gn_t h c4
      refine lv_iload_n hx hb dJ9_floorMod_7cf53_18 rfl (lv_at hl 0 rfl) ?_
      obtain rfl := gn_some h
      exact W.iret hx hb hr (fun t ht _ => ⟨rfl, ht⟩) (fun _ hq => by cases hq) dJ9_floorMod_7cf53_19 hlk
    · have h := gn_f h c4
      refine lv_iload_n hx hb dJ9_floorMod_7cf53_14 rfl (lv_at hl 0 rfl) ?_
      refine lv_iload_n hx hb dJ9_floorMod_7cf53_15 rfl (lv_at hl 2 rfl) ?_
      refine lv_iadd hx hb dJ9_floorMod_7cf53_16 ?_
      obtain rfl := gn_some h
      exact W.iret hx hb hr (fun t ht _ => ⟨rfl, ht⟩) (fun _ hq => by cases hq) dJ9_floorMod_7cf53_17 hlk
def rm_J9_floorMod_f86c9 : Room := { frames := 0, cells := 0, slots := 0, locals := 0 }
section
variable {p : Program} {l : Launch} {e : Env} {s : State} {m : MethodId} {args : Array Value} {below : List Frame} {meth : Method} {c : Code} {z : Nat}
end
set_option maxRecDepth 100000 in
theorem c_J9_floorMod_f86c9 (l : Launch) (z : Nat) (a0 : Int64) (a1 : Int64) (r : Int64) (h : F_J9_floorMod_f86c9 z a0 a1 = some r) : Met l yJ9_floorMod_f86c9 wsJ9_floorMod_f86c9 rm_J9_floorMod_f86c9 (qA [.long a0, .long a1]) (qP (.long r)) 0 0 (fun _ => False) := by
  refine va_MetF (cc := cJ9_floorMod_f86c9) (maxL := 6) (ret := (some .long)) (by decide +kernel) rfl ?_
  intro p e s m args below meth c s₁ B hml hv
  obtain ⟨rfl, hN⟩ := hv
  have hx := B.exec
  have hb := B.bytes
  have hr := B.returns
  have hts := atoms_spec (ws := wsJ9_floorMod_f86c9) B.pre
  have hown : s.vm.findClass RJ9 = some m.cls := findClass_of_methodNamed B.named
  have hlk := B.notSynchronized
  have hcl : 0 ≤ (rm_J9_floorMod_f86c9).cells := Nat.zero_le _
  have hsl : 0 ≤ (rm_J9_floorMod_f86c9).slots := Nat.zero_le _
  have Cc : Cx p s m _ meth c cJ9_floorMod_f86c9 6 RJ9 wsJ9_floorMod_f86c9 (some .long) := ⟨hx, hb, hml, hown, hts, hr, hlk, hN⟩
  have hl := lv_entry ([.long a0, .long a1]) (n := 6) (Nat.le_of_ble_eq_true rfl)
  rw [lg_entry_eq]
  generalize (lg_sl ([.long a0, .long a1]) ++ List.replicate (6 - (lg_sl ([.long a0, .long a1])).length) Slot.unset).toArray = ls at hl ⊢
  have hl : lv_has ls 6 [(0, .long a0), (2, .long a1)] := hl
  rw [F_J9_floorMod_f86c9] at h
  refine lv_lload_n hx hb dJ9_floorMod_f86c9_0 rfl (lv_at hl 0 rfl) ?_
  refine lv_lload_n hx hb dJ9_floorMod_f86c9_1 rfl (lv_at hl 1 rfl) ?_
  obtain ⟨n1, h⟩ := gn_nz h
  refine lv_lrem hx hb dJ9_floorMod_f86c9_2 n1 ?_
  obtain ⟨v2, ev2, h⟩ := gn_nm h
  refine ln_l ev2 ?_
  refine lv_lstore (lv' := [(4, .long v2), (0, .long a0), (2, .long a1)]) hx hb dJ9_floorMod_f86c9_3 hl (by decide) rfl (fun ls hl => ?_)
  refine lv_lload_n hx hb dJ9_floorMod_f86c9_5 rfl (lv_at hl 1 rfl) ?_
  refine lv_lload_n hx hb dJ9_floorMod_f86c9_6 rfl (lv_at hl 2 rfl) ?_
  refine lv_lxor hx hb dJ9_floorMod_f86c9_7 ?_
  refine lv_lconst (v := (0 : Int64)) hx hb dJ9_floorMod_f86c9_8 (by decide) ?_
  refine ll_ge (tgt := 25) hx hb dJ9_floorMod_f86c9_9 dJ9_floorMod_f86c9_10 (by decide) (fun c3 => ?_) (fun c3 => ?_)
  · have h := gn_t h c3
    refine lv_lload hx hb dJ9_floorMod_f86c9_25 (lv_at hl 0 rfl) ?_
    obtain rfl := gn_some h
    exact W.lret hx hb hr (fun t ht _ => ⟨rfl, ht⟩) (fun _ hq => by cases hq) dJ9_floorMod_f86c9_27 hlk
  · have h := gn_f h c3
    refine lv_lload hx hb dJ9_floorMod_f86c9_13 (lv_at hl 0 rfl) ?_
    refine lv_lconst (v := (0 : Int64)) hx hb dJ9_floorMod_f86c9_15 (by decide) ?_
    refine ll_eq (tgt := 25) hx hb dJ9_floorMod_f86c9_16 dJ9_floorMod_f86c9_17 (by decide) (fun c4 => ?_) (fun c4 => ?_)
    · have h := gn_t h c4
      refine lv_lload hx hb dJ9_floorMod_f86c9_25 (lv_at hl 0 rfl) ?_
      obtain rfl := gn_some h
      exact W.lret hx hb hr (fun t ht _ => ⟨rfl, ht⟩) (fun _ hq => by cases hq) dJ9_floorMod_f86c9_27 hlk
    · have h := gn_f h c4
      refine lv_lload hx hb dJ9_floorMod_f86c9_20 (lv_at hl 0 rfl) ?_
      refine lv_lload_n hx hb dJ9_floorMod_f86c9_22 rfl (lv_at hl 2 rfl) ?_
      refine lv_ladd hx hb dJ9_floorMod_f86c9_23 ?_
      obtain rfl := gn_some h
      exact W.lret hx hb hr (fun t ht _ => ⟨rfl, ht⟩) (fun _ hq => by cases hq) dJ9_floorMod_f86c9_24 hlk
def rm_J9_floorDiv_f86c9 : Room := { frames := 0, cells := 0, slots := 0, locals := 0 }
section
variable {p : Program} {l : Launch} {e : Env} {s : State} {m : MethodId} {args : Array Value} {below : List Frame} {meth : Method} {c : Code} {z : Nat}
end
set_option maxRecDepth 100000 in
theorem c_J9_floorDiv_f86c9 (l : Launch) (z : Nat) (a0 : Int64) (a1 : Int64) (r : Int64) (h : F_J9_floorDiv_f86c9 z a0 a1 = some r) : Met l yJ9_floorDiv_f86c9 wsJ9_floorDiv_f86c9 rm_J9_floorDiv_f86c9 (qA [.long a0, .long a1]) (qP (.long r)) 0 0 (fun _ => False) := by
  refine va_MetF (cc := cJ9_floorDiv_f86c9) (maxL := 6) (ret := (some .long)) (by decide +kernel) rfl ?_
  intro p e s m args below meth c s₁ B hml hv
  obtain ⟨rfl, hN⟩ := hv
  have hx := B.exec
  have hb := B.bytes
  have hr := B.returns
  have hts := atoms_spec (ws := wsJ9_floorDiv_f86c9) B.pre
  have hown : s.vm.findClass RJ9 = some m.cls := findClass_of_methodNamed B.named
  have hlk := B.notSynchronized
  have hcl : 0 ≤ (rm_J9_floorDiv_f86c9).cells := Nat.zero_le _
  have hsl : 0 ≤ (rm_J9_floorDiv_f86c9).slots := Nat.zero_le _
  have Cc : Cx p s m _ meth c cJ9_floorDiv_f86c9 6 RJ9 wsJ9_floorDiv_f86c9 (some .long) := ⟨hx, hb, hml, hown, hts, hr, hlk, hN⟩
  have hl := lv_entry ([.long a0, .long a1]) (n := 6) (Nat.le_of_ble_eq_true rfl)
  rw [lg_entry_eq]
  generalize (lg_sl ([.long a0, .long a1]) ++ List.replicate (6 - (lg_sl ([.long a0, .long a1])).length) Slot.unset).toArray = ls at hl ⊢
  have hl : lv_has ls 6 [(0, .long a0), (2, .long a1)] := hl
  rw [F_J9_floorDiv_f86c9] at h
  refine lv_lload_n hx hb dJ9_floorDiv_f86c9_0 rfl (lv_at hl 0 rfl) ?_
  refine lv_lload_n hx hb dJ9_floorDiv_f86c9_1 rfl (lv_at hl 1 rfl) ?_
  obtain ⟨n1, h⟩ := gn_nz h
  refine lv_ldiv hx hb dJ9_floorDiv_f86c9_2 n1 ?_
  obtain ⟨v2, ev2, h⟩ := gn_nm h
  refine ln_l ev2 ?_
  refine lv_lstore (lv' := [(4, .long v2), (0, .long a0), (2, .long a1)]) hx hb dJ9_floorDiv_f86c9_3 hl (by decide) rfl (fun ls hl => ?_)
  refine lv_lload_n hx hb dJ9_floorDiv_f86c9_5 rfl (lv_at hl 1 rfl) ?_
  refine lv_lload_n hx hb dJ9_floorDiv_f86c9_6 rfl (lv_at hl 2 rfl) ?_
  refine lv_lxor hx hb dJ9_floorDiv_f86c9_7 ?_
  refine lv_lconst (v := (0 : Int64)) hx hb dJ9_floorDiv_f86c9_8 (by decide) ?_
  refine ll_ge (tgt := 27) hx hb dJ9_floorDiv_f86c9_9 dJ9_floorDiv_f86c9_10 (by decide) (fun c3 => ?_) (fun c3 => ?_)
  · have h := gn_t h c3
    refine lv_lload hx hb dJ9_floorDiv_f86c9_27 (lv_at hl 0 rfl) ?_
    obtain rfl := gn_some h
    exact W.lret hx hb hr (fun t ht _ => ⟨rfl, ht⟩) (fun _ hq => by cases hq) dJ9_floorDiv_f86c9_29 hlk
  · have h := gn_f h c3
    refine lv_lload hx hb dJ9_floorDiv_f86c9_13 (lv_at hl 0 rfl) ?_
    refine lv_lload_n hx hb dJ9_floorDiv_f86c9_15 rfl (lv_at hl 2 rfl) ?_
    refine lv_lmul hx hb dJ9_floorDiv_f86c9_16 ?_
    refine lv_lload_n hx hb dJ9_floorDiv_f86c9_17 rfl (lv_at hl 1 rfl) ?_
    refine ll_eq (tgt := 27) hx hb dJ9_floorDiv_f86c9_18 dJ9_floorDiv_f86c9_19 (by decide) (fun c4 => ?_) (fun c4 => ?_)
    · have h := gn_t h c4
      refine lv_lload hx hb dJ9_floorDiv_f86c9_27 (lv_at hl 0 rfl) ?_
      obtain rfl := gn_some h
      exact W.lret hx hb hr (fun t ht _ => ⟨rfl, ht⟩) (fun _ hq => by cases hq) dJ9_floorDiv_f86c9_29 hlk
    · have h := gn_f h c4
      refine lv_lload hx hb dJ9_floorDiv_f86c9_22 (lv_at hl 0 rfl) ?_
      refine lv_lconst (v := (1 : Int64)) hx hb dJ9_floorDiv_f86c9_24 (by decide) ?_
      refine lv_lsub hx hb dJ9_floorDiv_f86c9_25 ?_
      obtain rfl := gn_some h
      exact W.lret hx hb hr (fun t ht _ => ⟨rfl, ht⟩) (fun _ hq => by cases hq) dJ9_floorDiv_f86c9_26 hlk
def rm_J13_signum_95d88 : Room := { frames := 0, cells := 0, slots := 0, locals := 0 }
section
variable {p : Program} {l : Launch} {e : Env} {s : State} {m : MethodId} {args : Array Value} {below : List Frame} {meth : Method} {c : Code} {z : Nat}
end
set_option maxRecDepth 100000 in
theorem c_J13_signum_95d88 (l : Launch) (z : Nat) (a0 : Int64) (r : Int32) (h : F_J13_signum_95d88 z a0 = some r) : Met l yJ13_signum_95d88 wsJ13_signum_95d88 rm_J13_signum_95d88 (qA [.long a0]) (qP (.int r)) 0 0 (fun _ => False) := by
  refine va_MetF (cc := cJ13_signum_95d88) (maxL := 2) (ret := (some .int)) (by decide +kernel) rfl ?_
  intro p e s m args below meth c s₁ B hml hv
  obtain ⟨rfl, hN⟩ := hv
  have hx := B.exec
  have hb := B.bytes
  have hr := B.returns
  have hts := atoms_spec (ws := wsJ13_signum_95d88) B.pre
  have hown : s.vm.findClass RJ13 = some m.cls := findClass_of_methodNamed B.named
  have hlk := B.notSynchronized
  have hcl : 0 ≤ (rm_J13_signum_95d88).cells := Nat.zero_le _
  have hsl : 0 ≤ (rm_J13_signum_95d88).slots := Nat.zero_le _
  have Cc : Cx p s m _ meth c cJ13_signum_95d88 2 RJ13 wsJ13_signum_95d88 (some .int) := ⟨hx, hb, hml, hown, hts, hr, hlk, hN⟩
  have hl := lv_entry ([.long a0]) (n := 2) (Nat.le_of_ble_eq_true rfl)
  rw [lg_entry_eq]
  generalize (lg_sl ([.long a0]) ++ List.replicate (2 - (lg_sl ([.long a0])).length) Slot.unset).toArray = ls at hl ⊢
  have hl : lv_has ls 2 [(0, .long a0)] := hl
  rw [F_J13_signum_95d88] at h
  refine lv_lload_n hx hb dJ13_signum_95d88_0 rfl (lv_at hl 0 rfl) ?_
  refine lv_bipush (v := (63 : Int32)) hx hb dJ13_signum_95d88_1 (by decide) ?_
  refine lv_lshr hx hb dJ13_signum_95d88_3 rfl ?_
  refine lv_lload_n hx hb dJ13_signum_95d88_4 rfl (lv_at hl 0 rfl) ?_
  refine lv_lneg hx hb dJ13_signum_95d88_5 ?_
  refine lv_bipush (v := (63 : Int32)) hx hb dJ13_signum_95d88_6 (by decide) ?_
  refine lv_lushr hx hb dJ13_signum_95d88_8 rfl ?_
  refine lv_lor hx hb dJ13_signum_95d88_9 ?_
  refine lv_l2i hx hb dJ13_signum_95d88_10 rfl ?_
  obtain rfl := gn_some h
  exact W.iret hx hb hr (fun t ht _ => ⟨rfl, ht⟩) (fun _ hq => by cases hq) dJ13_signum_95d88_11 hlk
def rm_X7_isIn : Room := { frames := 0, cells := 0, slots := 0, locals := 0 }
section
variable {p : Program} {l : Launch} {e : Env} {s : State} {m : MethodId} {args : Array Value} {below : List Frame} {meth : Method} {c : Code} {z : Nat}
end
set_option maxRecDepth 100000 in
theorem c_X7_isIn (l : Launch) (z : Nat) (a0 : Int64) (a1 : Int64) (a2 : Int64) (r : Int32) (h : F_X7_isIn z a0 a1 a2 = some r) : Met l yX7_isIn wsX7_isIn rm_X7_isIn (qA [.long a0, .long a1, .long a2]) (qP (.int r)) 0 0 (fun _ => False) := by
  refine Met.ofW (cc := cX7_isIn) (maxL := 6) (ret := (some .boolean)) (by decide) rfl ?_
  intro p e s m args below meth c s₁ B hml hv
  obtain ⟨rfl, hN⟩ := hv
  have hx := B.exec
  have hb := B.bytes
  have hr := B.returns
  have hts := atoms_spec (ws := wsX7_isIn) B.pre
  have hown : s.vm.findClass RX7 = some m.cls := findClass_of_methodNamed B.named
  have hlk := B.notSynchronized
  have hcl : 0 ≤ (rm_X7_isIn).cells := Nat.zero_le _
  have hsl : 0 ≤ (rm_X7_isIn).slots := Nat.zero_le _
  have Cc : Cx p s m _ meth c cX7_isIn 6 RX7 wsX7_isIn (some .boolean) := ⟨hx, hb, hml, hown, hts, hr, hlk, hN⟩
  have hl := lv_entry ([.long a0, .long a1, .long a2]) (n := 6) (Nat.le_of_ble_eq_true rfl)
  rw [lg_entry_eq]
  generalize (lg_sl ([.long a0, .long a1, .long a2]) ++ List.replicate (6 - (lg_sl ([.long a0, .long a1, .long a2])).length) Slot.unset).toArray = ls at hl ⊢
  have hl : lv_has ls 6 [(0, .long a0), (2, .long a1), (4, .long a2)] := hl
  rw [F_X7_isIn] at h
  refine lv_lload_n hx hb dX7_isIn_0 rfl (lv_at hl 0 rfl) ?_
  refine lv_lload_n hx hb dX7_isIn_1 rfl (lv_at hl 1 rfl) ?_
  refine ll_lt (tgt := 17) hx hb dX7_isIn_2 dX7_isIn_3 (by decide) (fun c1 => ?_) (fun c1 => ?_)
  · have h := gn_t h c1
    refine lv_iconst (v := (0 : Int32)) hx hb dX7_isIn_17 (by decide) ?_
    obtain rfl := gn_some h
    exact W.zret (ty := .boolean) hx hb hr rfl (fun t ht _ => ⟨rfl, ht⟩) (fun _ hq => by cases hq) dX7_isIn_18 hlk
  · have h := gn_f h c1
    refine lv_lload_n hx hb dX7_isIn_6 rfl (lv_at hl 0 rfl) ?_
    refine lv_lload hx hb dX7_isIn_7 (lv_at hl 2 rfl) ?_
    refine ll_gt (tgt := 17) hx hb dX7_isIn_9 dX7_isIn_10 (by decide) (fun c2 => ?_) (fun c2 => ?_)
    · have h := gn_t h c2
      refine lv_iconst (v := (0 : Int32)) hx hb dX7_isIn_17 (by decide) ?_
      obtain rfl := gn_some h
      exact W.zret (ty := .boolean) hx hb hr rfl (fun t ht _ => ⟨rfl, ht⟩) (fun _ hq => by cases hq) dX7_isIn_18 hlk
    · have h := gn_f h c2
      refine lv_iconst (v := (1 : Int32)) hx hb dX7_isIn_13 (by decide) ?_
      refine lv_goto (tgt := 18) hx hb dX7_isIn_14 (by decide) ?_
      obtain rfl := gn_some h
      exact W.zret (ty := .boolean) hx hb hr rfl (fun t ht _ => ⟨rfl, ht⟩) (fun _ hq => by cases hq) dX7_isIn_18 hlk
def rm_X7_size : Room := { frames := 0, cells := 0, slots := 0, locals := 0 }
section
variable {p : Program} {l : Launch} {e : Env} {s : State} {m : MethodId} {args : Array Value} {below : List Frame} {meth : Method} {c : Code} {z : Nat}
end
set_option maxRecDepth 100000 in
theorem c_X7_size (l : Launch) (z : Nat) (a0 : Int64) (r : Int64) (h : F_X7_size z a0 = some r) : Met l yX7_size wsX7_size rm_X7_size (qA [.long a0]) (qP (.long r)) 0 0 (fun _ => False) := by
  refine Met.ofW (cc := cX7_size) (maxL := 2) (ret := (some .long)) (by decide) rfl ?_
  intro p e s m args below meth c s₁ B hml hv
  obtain ⟨rfl, hN⟩ := hv
  have hx := B.exec
  have hb := B.bytes
  have hr := B.returns
  have hts := atoms_spec (ws := wsX7_size) B.pre
  have hown : s.vm.findClass RX7 = some m.cls := findClass_of_methodNamed B.named
  have hlk := B.notSynchronized
  have hcl : 0 ≤ (rm_X7_size).cells := Nat.zero_le _
  have hsl : 0 ≤ (rm_X7_size).slots := Nat.zero_le _
  have Cc : Cx p s m _ meth c cX7_size 2 RX7 wsX7_size (some .long) := ⟨hx, hb, hml, hown, hts, hr, hlk, hN⟩
  have hl := lv_entry ([.long a0]) (n := 2) (Nat.le_of_ble_eq_true rfl)
  rw [lg_entry_eq]
  generalize (lg_sl ([.long a0]) ++ List.replicate (2 - (lg_sl ([.long a0])).length) Slot.unset).toArray = ls at hl ⊢
  have hl : lv_has ls 2 [(0, .long a0)] := hl
  rw [F_X7_size] at h
  refine lv_lload_n hx hb dX7_size_0 rfl (lv_at hl 0 rfl) ?_
  refine lv_lconst (v := (0 : Int64)) hx hb dX7_size_1 (by decide) ?_
  refine ll_ge (tgt := 11) hx hb dX7_size_2 dX7_size_3 (by decide) (fun c1 => ?_) (fun c1 => ?_)
  · have h := gn_t h c1
    refine lv_lload_n hx hb dX7_size_11 rfl (lv_at hl 0 rfl) ?_
    obtain rfl := gn_some h
    exact W.lret hx hb hr (fun t ht _ => ⟨rfl, ht⟩) (fun _ hq => by cases hq) dX7_size_12 hlk
  · have h := gn_f h c1
    refine lv_lload_n hx hb dX7_size_6 rfl (lv_at hl 0 rfl) ?_
    refine lv_lneg hx hb dX7_size_7 ?_
    refine lv_goto (tgt := 12) hx hb dX7_size_8 (by decide) ?_
    obtain rfl := gn_some h
    exact W.lret hx hb hr (fun t ht _ => ⟨rfl, ht⟩) (fun _ hq => by cases hq) dX7_size_12 hlk
def rm_X7_common : Room := { frames := 1, cells := 0, slots := 0, locals := 21 }
section
variable {p : Program} {l : Launch} {e : Env} {s : State} {m : MethodId} {args : Array Value} {below : List Frame} {meth : Method} {c : Code} {z : Nat}
set_option maxRecDepth 100000 in
theorem w_X7_common_12 (Cc : Cx p s m args meth c cX7_common 10 RX7 wsX7_common (some .long)) {r : Int64} (n : Nat) : ∀ (x4 : Int64) (x6 : Int64), G_X7_common_12 z n x4 x6 = some r → ∀ ls, lv_has ls 10 [(4, .long x4), (6, .long x6)] → W p l e rm_X7_common s m args below meth c s.heap [] 0 0 (MQ below (qP (.long r)) args s 0 0 (fun _ => False)) (F0 m 12 ls []) := by
  obtain ⟨hx, hb, hml, hown, hts, hr, hlk, hN⟩ := id Cc
  have hcl : 0 ≤ (rm_X7_common).cells := Nat.zero_le _
  have hsl : 0 ≤ (rm_X7_common).slots := Nat.zero_le _
  induction n with
  | zero => intro x4 x6 h; cases h
  | succ n ih =>
    intro x4 x6 h ls hl
    rw [G_X7_common_12] at h
    refine lv_lload hx hb dX7_common_12 (lv_at hl 1 rfl) ?_
    refine lv_lconst (v := (0 : Int64)) hx hb dX7_common_14 (by decide) ?_
    refine ll_eq (tgt := 37) hx hb dX7_common_15 dX7_common_16 (by decide) (fun c1 => ?_) (fun c1 => ?_)
    · have h := gn_t h c1
      refine lv_lload hx hb dX7_common_37 (lv_at hl 0 rfl) ?_
      obtain rfl := gn_some h
      exact W.lret hx hb hr (fun t ht _ => ⟨rfl, ht⟩) (fun _ hq => by cases hq) dX7_common_39 hlk
    · have h := gn_f h c1
      refine lv_lload hx hb dX7_common_19 (lv_at hl 0 rfl) ?_
      refine lv_lload hx hb dX7_common_21 (lv_at hl 1 rfl) ?_
      obtain ⟨n2, h⟩ := gn_nz h
      refine lv_lrem hx hb dX7_common_23 n2 ?_
      obtain ⟨v3, ev3, h⟩ := gn_nm h
      refine ln_l ev3 ?_
      refine lv_lstore (lv' := [(8, .long v3), (4, .long x4), (6, .long x6)]) hx hb dX7_common_24 hl (by decide) rfl (fun ls hl => ?_)
      refine lv_lload hx hb dX7_common_26 (lv_at hl 2 rfl) ?_
      refine lv_lstore (lv' := [(4, .long x6), (8, .long v3), (6, .long x6)]) hx hb dX7_common_28 hl (by decide) rfl (fun ls hl => ?_)
      refine lv_lload hx hb dX7_common_30 (lv_at hl 1 rfl) ?_
      refine lv_lstore (lv' := [(6, .long v3), (4, .long x6), (8, .long v3)]) hx hb dX7_common_32 hl (by decide) rfl (fun ls hl => ?_)
      refine lv_goto (tgt := 12) hx hb dX7_common_34 (by decide) ?_
      exact ih x6 v3 h ls (lv_sub hl [1, 0] rfl)
end
set_option maxRecDepth 100000 in
theorem c_X7_common (l : Launch) (z : Nat) (a0 : Int64) (a1 : Int64) (r : Int64) (h : F_X7_common z a0 a1 = some r) : Met l yX7_common wsX7_common rm_X7_common (qA [.long a0, .long a1]) (qP (.long r)) 0 0 (fun _ => False) := by
  refine Met.ofW (cc := cX7_common) (maxL := 10) (ret := (some .long)) (by decide) rfl ?_
  intro p e s m args below meth c s₁ B hml hv
  obtain ⟨rfl, hN⟩ := hv
  have hx := B.exec
  have hb := B.bytes
  have hr := B.returns
  have hts := atoms_spec (ws := wsX7_common) B.pre
  have hown : s.vm.findClass RX7 = some m.cls := findClass_of_methodNamed B.named
  have hlk := B.notSynchronized
  have hcl : 0 ≤ (rm_X7_common).cells := Nat.zero_le _
  have hsl : 0 ≤ (rm_X7_common).slots := Nat.zero_le _
  have Cc : Cx p s m _ meth c cX7_common 10 RX7 wsX7_common (some .long) := ⟨hx, hb, hml, hown, hts, hr, hlk, hN⟩
  have hl := lv_entry ([.long a0, .long a1]) (n := 10) (Nat.le_of_ble_eq_true rfl)
  rw [lg_entry_eq]
  generalize (lg_sl ([.long a0, .long a1]) ++ List.replicate (10 - (lg_sl ([.long a0, .long a1])).length) Slot.unset).toArray = ls at hl ⊢
  have hl : lv_has ls 10 [(0, .long a0), (2, .long a1)] := hl
  rw [F_X7_common] at h
  refine lv_lload_n hx hb dX7_common_0 rfl (lv_at hl 0 rfl) ?_
  obtain ⟨r1, qr1, h⟩ := gn_bd h
  refine pc_S (rest := []) ⟨hx, hb, hml, hown, hts⟩ hN (c_X7_size l z _ r1 qr1) (va_cwS 1 hts gX7_common_X7_size rfl rfl rfl (by decide +kernel) ⟨(Nat.le_of_ble_eq_true rfl), (Nat.le_of_ble_eq_true rfl)⟩) rfl hl.1 rfl (Nat.le_of_ble_eq_true rfl) dX7_common_1 hcl hsl ?_
  refine lv_lstore (lv' := [(4, .long r1), (0, .long a0), (2, .long a1)]) hx hb dX7_common_4 hl (by decide) rfl (fun ls hl => ?_)
  refine lv_lload_n hx hb dX7_common_6 rfl (lv_at hl 2 rfl) ?_
  obtain ⟨r2, qr2, h⟩ := gn_bd h
  refine pc_S (rest := []) ⟨hx, hb, hml, hown, hts⟩ hN (c_X7_size l z _ r2 qr2) (va_cwS 1 hts gX7_common_X7_size rfl rfl rfl (by decide +kernel) ⟨(Nat.le_of_ble_eq_true rfl), (Nat.le_of_ble_eq_true rfl)⟩) rfl hl.1 rfl (Nat.le_of_ble_eq_true rfl) dX7_common_7 hcl hsl ?_
  refine lv_lstore (lv' := [(6, .long r2), (4, .long r1), (0, .long a0), (2, .long a1)]) hx hb dX7_common_10 hl (by decide) rfl (fun ls hl => ?_)
  exact w_X7_common_12 Cc z r1 r2 h ls (lv_sub hl [1, 0] rfl)
def rm_X7_down : Room := { frames := 0, cells := 0, slots := 0, locals := 0 }
section
variable {p : Program} {l : Launch} {e : Env} {s : State} {m : MethodId} {args : Array Value} {below : List Frame} {meth : Method} {c : Code} {z : Nat}
set_option maxRecDepth 100000 in
theorem w_X7_down_26 (Cc : Cx p s m args meth c cX7_down 6 RX7 wsX7_down (some .long)) {r : Int64} : ∀ (x2 : Int64) (x4 : Int64) (t0 : Int32), G_X7_down_26 z x2 x4 t0 = some r → ∀ ls, lv_has ls 6 [(2, .long x2), (4, .long x4)] → W p l e rm_X7_down s m args below meth c s.heap [] 0 0 (MQ below (qP (.long r)) args s 0 0 (fun _ => False)) (F0 m 26 ls [.int t0]) := by
  obtain ⟨hx, hb, hml, hown, hts, hr, hlk, hN⟩ := id Cc
  have hcl : 0 ≤ (rm_X7_down).cells := Nat.zero_le _
  have hsl : 0 ≤ (rm_X7_down).slots := Nat.zero_le _
  intro x2 x4 t0 h ls hl
  rw [G_X7_down_26] at h
  refine lv_lload_n hx hb dX7_down_26 rfl (lv_at hl 0 rfl) ?_
  refine lv_lconst (v := (0 : Int64)) hx hb dX7_down_27 (by decide) ?_
  refine ll_ge (tgt := 36) hx hb dX7_down_28 dX7_down_29 (by decide) (fun c1 => ?_) (fun c1 => ?_)
  · have h := gn_t h c1
    refine lv_iconst (v := (0 : Int32)) hx hb dX7_down_36 (by decide) ?_
    refine lv_icmp_eq (tgt := 47) hx hb dX7_down_37 (by decide) (fun c2 => ?_) (fun c2 => ?_)
    · have h := gn_t h c2
      refine lv_lload hx hb dX7_down_47 (lv_at hl 1 rfl) ?_
      obtain rfl := gn_some h
      exact W.lret hx hb hr (fun t ht _ => ⟨rfl, ht⟩) (fun _ hq => by cases hq) dX7_down_49 hlk
    · have h := gn_f h c2
      refine lv_lload hx hb dX7_down_40 (lv_at hl 1 rfl) ?_
      refine lv_lconst (v := (1 : Int64)) hx hb dX7_down_42 (by decide) ?_
      refine lv_lsub hx hb dX7_down_43 ?_
      refine lv_goto (tgt := 49) hx hb dX7_down_44 (by decide) ?_
      obtain rfl := gn_some h
      exact W.lret hx hb hr (fun t ht _ => ⟨rfl, ht⟩) (fun _ hq => by cases hq) dX7_down_49 hlk
  · have h := gn_f h c1
    refine lv_iconst (v := (1 : Int32)) hx hb dX7_down_32 (by decide) ?_
    refine lv_goto (tgt := 37) hx hb dX7_down_33 (by decide) ?_
    refine lv_icmp_eq (tgt := 47) hx hb dX7_down_37 (by decide) (fun c3 => ?_) (fun c3 => ?_)
    · have h := gn_t h c3
      refine lv_lload hx hb dX7_down_47 (lv_at hl 1 rfl) ?_
      obtain rfl := gn_some h
      exact W.lret hx hb hr (fun t ht _ => ⟨rfl, ht⟩) (fun _ hq => by cases hq) dX7_down_49 hlk
    · have h := gn_f h c3
      refine lv_lload hx hb dX7_down_40 (lv_at hl 1 rfl) ?_
      refine lv_lconst (v := (1 : Int64)) hx hb dX7_down_42 (by decide) ?_
      refine lv_lsub hx hb dX7_down_43 ?_
      refine lv_goto (tgt := 49) hx hb dX7_down_44 (by decide) ?_
      obtain rfl := gn_some h
      exact W.lret hx hb hr (fun t ht _ => ⟨rfl, ht⟩) (fun _ hq => by cases hq) dX7_down_49 hlk
end
set_option maxRecDepth 100000 in
theorem c_X7_down (l : Launch) (z : Nat) (a0 : Int64) (a1 : Int64) (r : Int64) (h : F_X7_down z a0 a1 = some r) : Met l yX7_down wsX7_down rm_X7_down (qA [.long a0, .long a1]) (qP (.long r)) 0 0 (fun _ => False) := by
  refine Met.ofW (cc := cX7_down) (maxL := 6) (ret := (some .long)) (by decide) rfl ?_
  intro p e s m args below meth c s₁ B hml hv
  obtain ⟨rfl, hN⟩ := hv
  have hx := B.exec
  have hb := B.bytes
  have hr := B.returns
  have hts := atoms_spec (ws := wsX7_down) B.pre
  have hown : s.vm.findClass RX7 = some m.cls := findClass_of_methodNamed B.named
  have hlk := B.notSynchronized
  have hcl : 0 ≤ (rm_X7_down).cells := Nat.zero_le _
  have hsl : 0 ≤ (rm_X7_down).slots := Nat.zero_le _
  have Cc : Cx p s m _ meth c cX7_down 6 RX7 wsX7_down (some .long) := ⟨hx, hb, hml, hown, hts, hr, hlk, hN⟩
  have hl := lv_entry ([.long a0, .long a1]) (n := 6) (Nat.le_of_ble_eq_true rfl)
  rw [lg_entry_eq]
  generalize (lg_sl ([.long a0, .long a1]) ++ List.replicate (6 - (lg_sl ([.long a0, .long a1])).length) Slot.unset).toArray = ls at hl ⊢
  have hl : lv_has ls 6 [(0, .long a0), (2, .long a1)] := hl
  rw [F_X7_down] at h
  refine lv_lload_n hx hb dX7_down_0 rfl (lv_at hl 0 rfl) ?_
  refine lv_lload_n hx hb dX7_down_1 rfl (lv_at hl 1 rfl) ?_
  obtain ⟨n1, h⟩ := gn_nz h
  refine lv_ldiv hx hb dX7_down_2 n1 ?_
  obtain ⟨v2, ev2, h⟩ := gn_nm h
  refine ln_l ev2 ?_
  refine lv_lstore (lv' := [(4, .long v2), (0, .long a0), (2, .long a1)]) hx hb dX7_down_3 hl (by decide) rfl (fun ls hl => ?_)
  refine lv_lload_n hx hb dX7_down_5 rfl (lv_at hl 1 rfl) ?_
  refine lv_lload_n hx hb dX7_down_6 rfl (lv_at hl 2 rfl) ?_
  obtain ⟨n3, h⟩ := gn_nz h
  refine lv_lrem hx hb dX7_down_7 n3 ?_
  refine lv_lconst (v := (0 : Int64)) hx hb dX7_down_8 (by decide) ?_
  refine ll_eq (tgt := 47) hx hb dX7_down_9 dX7_down_10 (by decide) (fun c4 => ?_) (fun c4 => ?_)
  · have h := gn_t h c4
    refine lv_lload hx hb dX7_down_47 (lv_at hl 0 rfl) ?_
    obtain rfl := gn_some h
    exact W.lret hx hb hr (fun t ht _ => ⟨rfl, ht⟩) (fun _ hq => by cases hq) dX7_down_49 hlk
  · have h := gn_f h c4
    refine lv_lload_n hx hb dX7_down_13 rfl (lv_at hl 1 rfl) ?_
    refine lv_lload_n hx hb dX7_down_14 rfl (lv_at hl 2 rfl) ?_
    obtain ⟨n5, h⟩ := gn_nz h
    refine lv_lrem hx hb dX7_down_15 n5 ?_
    refine lv_lconst (v := (0 : Int64)) hx hb dX7_down_16 (by decide) ?_
    refine ll_ge (tgt := 25) hx hb dX7_down_17 dX7_down_18 (by decide) (fun c6 => ?_) (fun c6 => ?_)
    · have h := gn_t h c6
      refine lv_iconst (v := (0 : Int32)) hx hb dX7_down_25 (by decide) ?_
      exact w_X7_down_26 Cc a1 v2 (0 : Int32) h ls (lv_sub hl [2, 0] rfl)
    · have h := gn_f h c6
      refine lv_iconst (v := (1 : Int32)) hx hb dX7_down_21 (by decide) ?_
      refine lv_goto (tgt := 26) hx hb dX7_down_22 (by decide) ?_
      exact w_X7_down_26 Cc a1 v2 (1 : Int32) h ls (lv_sub hl [2, 0] rfl)
def rm_X7_rest : Room := { frames := 1, cells := 0, slots := 0, locals := 25 }
section
variable {p : Program} {l : Launch} {e : Env} {s : State} {m : MethodId} {args : Array Value} {below : List Frame} {meth : Method} {c : Code} {z : Nat}
end
set_option maxRecDepth 100000 in
theorem c_X7_rest (l : Launch) (z : Nat) (a0 : Int64) (a1 : Int64) (r : Int64) (h : F_X7_rest z a0 a1 = some r) : Met l yX7_rest wsX7_rest rm_X7_rest (qA [.long a0, .long a1]) (qP (.long r)) 0 0 (fun _ => False) := by
  refine Met.ofW (cc := cX7_rest) (maxL := 4) (ret := (some .long)) (by decide) rfl ?_
  intro p e s m args below meth c s₁ B hml hv
  obtain ⟨rfl, hN⟩ := hv
  have hx := B.exec
  have hb := B.bytes
  have hr := B.returns
  have hts := atoms_spec (ws := wsX7_rest) B.pre
  have hown : s.vm.findClass RX7 = some m.cls := findClass_of_methodNamed B.named
  have hlk := B.notSynchronized
  have hcl : 0 ≤ (rm_X7_rest).cells := Nat.zero_le _
  have hsl : 0 ≤ (rm_X7_rest).slots := Nat.zero_le _
  have Cc : Cx p s m _ meth c cX7_rest 4 RX7 wsX7_rest (some .long) := ⟨hx, hb, hml, hown, hts, hr, hlk, hN⟩
  have hl := lv_entry ([.long a0, .long a1]) (n := 4) (Nat.le_of_ble_eq_true rfl)
  rw [lg_entry_eq]
  generalize (lg_sl ([.long a0, .long a1]) ++ List.replicate (4 - (lg_sl ([.long a0, .long a1])).length) Slot.unset).toArray = ls at hl ⊢
  have hl : lv_has ls 4 [(0, .long a0), (2, .long a1)] := hl
  rw [F_X7_rest] at h
  refine lv_lload_n hx hb dX7_rest_0 rfl (lv_at hl 0 rfl) ?_
  refine lv_lload_n hx hb dX7_rest_1 rfl (lv_at hl 1 rfl) ?_
  refine lv_lload_n hx hb dX7_rest_2 rfl (lv_at hl 0 rfl) ?_
  refine lv_lload_n hx hb dX7_rest_3 rfl (lv_at hl 1 rfl) ?_
  obtain ⟨r1, qr1, h⟩ := gn_bd h
  refine pc_S (rest := [.long a1, .long a0]) ⟨hx, hb, hml, hown, hts⟩ hN (c_X7_down l z _ _ r1 qr1) (va_cwS 2 hts gX7_rest_X7_down rfl rfl rfl (by decide +kernel) ⟨(Nat.le_of_ble_eq_true rfl), (Nat.le_of_ble_eq_true rfl)⟩) rfl hl.1 rfl (Nat.le_of_ble_eq_true rfl) dX7_rest_4 hcl hsl ?_
  refine lv_lmul hx hb dX7_rest_7 ?_
  refine lv_lsub hx hb dX7_rest_8 ?_
  obtain rfl := gn_some h
  exact W.lret hx hb hr (fun t ht _ => ⟨rfl, ht⟩) (fun _ hq => by cases hq) dX7_rest_9 hlk
def rm_X7_twelve : Room := { frames := 2, cells := 0, slots := 0, locals := 48 }
section
variable {p : Program} {l : Launch} {e : Env} {s : State} {m : MethodId} {args : Array Value} {below : List Frame} {meth : Method} {c : Code} {z : Nat}
set_option maxRecDepth 100000 in
theorem w_X7_twelve_107 (Cc : Cx p s m args meth c cX7_twelve 22 RX7 wsX7_twelve (some .long)) {r : Int64} : ∀ (x0 : Int64) (x2 : Int64) (x8 : Int64) (x14 : Int64) (t0 : Int64), G_X7_twelve_107 z x0 x2 x8 x14 t0 = some r → ∀ ls, lv_has ls 22 [(0, .long x0), (2, .long x2), (8, .long x8), (14, .long x14)] → W p l e rm_X7_twelve s m args below meth c s.heap [] 0 0 (MQ below (qP (.long r)) args s 0 0 (fun _ => False)) (F0 m 107 ls [.long t0]) := by
  obtain ⟨hx, hb, hml, hown, hts, hr, hlk, hN⟩ := id Cc
  have hcl : 0 ≤ (rm_X7_twelve).cells := Nat.zero_le _
  have hsl : 0 ≤ (rm_X7_twelve).slots := Nat.zero_le _
  intro x0 x2 x8 x14 t0 h ls hl
  rw [G_X7_twelve_107] at h
  refine lv_lstore (lv' := [(16, .long t0), (0, .long x0), (2, .long x2), (8, .long x8), (14, .long x14)]) hx hb dX7_twelve_107 hl (by decide) rfl (fun ls hl => ?_)
  refine lv_lload_n hx hb dX7_twelve_109 rfl (lv_at hl 2 rfl) ?_
  refine lv_lload hx hb dX7_twelve_110 (lv_at hl 3 rfl) ?_
  refine lv_lmul hx hb dX7_twelve_112 ?_
  refine lv_ldc2 hx hb hown (hts (.constantLong RX7 57 (3)) (by decide +kernel)) dX7_twelve_113 ?_
  refine lv_lload hx hb dX7_twelve_116 (lv_at hl 0 rfl) ?_
  refine lv_lmul hx hb dX7_twelve_118 ?_
  refine lv_lload_n hx hb dX7_twelve_119 rfl (lv_at hl 2 rfl) ?_
  refine lv_lmul hx hb dX7_twelve_120 ?_
  refine lv_lsub hx hb dX7_twelve_121 ?_
  refine lv_lload_n hx hb dX7_twelve_122 rfl (lv_at hl 1 rfl) ?_
  refine lv_lload_n hx hb dX7_twelve_123 rfl (lv_at hl 2 rfl) ?_
  obtain ⟨r1, qr1, h⟩ := gn_bd h
  refine pc_S (rest := [.long ((x2 * x8) - (((3 : Int64) * t0) * x2))]) ⟨hx, hb, hml, hown, hts⟩ hN (c_X7_rest l z _ _ r1 qr1) (va_cwS 2 hts gX7_twelve_X7_rest rfl rfl rfl (by decide +kernel) ⟨(Nat.le_of_ble_eq_true rfl), (Nat.le_of_ble_eq_true rfl)⟩) rfl hl.1 rfl (Nat.le_of_ble_eq_true rfl) dX7_twelve_124 hcl hsl ?_
  refine lv_ladd hx hb dX7_twelve_127 ?_
  refine lv_lload hx hb dX7_twelve_128 (lv_at hl 0 rfl) ?_
  refine lv_lconst (v := (1 : Int64)) hx hb dX7_twelve_130 (by decide) ?_
  refine ll_ne (tgt := 140) hx hb dX7_twelve_131 dX7_twelve_132 (by decide) (fun c2 => ?_) (fun c2 => ?_)
  · have h := gn_f h c2
    refine lv_lload hx hb dX7_twelve_140 (lv_at hl 4 rfl) ?_
    refine lv_lneg hx hb dX7_twelve_142 ?_
    refine lv_ladd hx hb dX7_twelve_143 ?_
    obtain rfl := gn_some h
    exact W.lret hx hb hr (fun t ht _ => ⟨rfl, ht⟩) (fun _ hq => by cases hq) dX7_twelve_144 hlk
  · have h := gn_t h c2
    refine lv_lload hx hb dX7_twelve_135 (lv_at hl 4 rfl) ?_
    refine lv_goto (tgt := 143) hx hb dX7_twelve_137 (by decide) ?_
    refine lv_ladd hx hb dX7_twelve_143 ?_
    obtain rfl := gn_some h
    exact W.lret hx hb hr (fun t ht _ => ⟨rfl, ht⟩) (fun _ hq => by cases hq) dX7_twelve_144 hlk
set_option maxRecDepth 100000 in
theorem w_X7_twelve_30 (Cc : Cx p s m args meth c cX7_twelve 22 RX7 wsX7_twelve (some .long)) {r : Int64} (n : Nat) : ∀ (x0 : Int64) (x2 : Int64) (x4 : Int64) (x6 : Int64) (x8 : Int64) (x10 : Int64) (x12 : Int64) (x14 : Int64), G_X7_twelve_30 z n x0 x2 x4 x6 x8 x10 x12 x14 = some r → ∀ ls, lv_has ls 22 [(0, .long x0), (2, .long x2), (4, .long x4), (6, .long x6), (8, .long x8), (10, .long x10), (12, .long x12), (14, .long x14)] → W p l e rm_X7_twelve s m args below meth c s.heap [] 0 0 (MQ below (qP (.long r)) args s 0 0 (fun _ => False)) (F0 m 30 ls []) := by
  obtain ⟨hx, hb, hml, hown, hts, hr, hlk, hN⟩ := id Cc
  have hcl : 0 ≤ (rm_X7_twelve).cells := Nat.zero_le _
  have hsl : 0 ≤ (rm_X7_twelve).slots := Nat.zero_le _
  induction n with
  | zero => intro x0 x2 x4 x6 x8 x10 x12 x14 h; cases h
  | succ n ih =>
    intro x0 x2 x4 x6 x8 x10 x12 x14 h ls hl
    rw [G_X7_twelve_30] at h
    refine lv_lload hx hb dX7_twelve_30 (lv_at hl 2 rfl) ?_
    refine lv_lconst (v := (0 : Int64)) hx hb dX7_twelve_32 (by decide) ?_
    refine ll_eq (tgt := 95) hx hb dX7_twelve_33 dX7_twelve_34 (by decide) (fun c1 => ?_) (fun c1 => ?_)
    · have h := gn_t h c1
      refine lv_lload hx hb dX7_twelve_95 (lv_at hl 5 rfl) ?_
      refine lv_lconst (v := (0 : Int64)) hx hb dX7_twelve_97 (by decide) ?_
      refine ll_ge (tgt := 106) hx hb dX7_twelve_98 dX7_twelve_99 (by decide) (fun c2 => ?_) (fun c2 => ?_)
      · have h := gn_t h c2
        refine lv_lconst (v := (0 : Int64)) hx hb dX7_twelve_106 (by decide) ?_
        exact w_X7_twelve_107 Cc x0 x2 x8 x14 (0 : Int64) h ls (lv_sub hl [0, 1, 4, 7] rfl)
      · have h := gn_f h c2
        refine lv_lconst (v := (1 : Int64)) hx hb dX7_twelve_102 (by decide) ?_
        refine lv_goto (tgt := 107) hx hb dX7_twelve_103 (by decide) ?_
        exact w_X7_twelve_107 Cc x0 x2 x8 x14 (1 : Int64) h ls (lv_sub hl [0, 1, 4, 7] rfl)
    · have h := gn_f h c1
      refine lv_lload hx hb dX7_twelve_37 (lv_at hl 3 rfl) ?_
      refine lv_lload hx hb dX7_twelve_39 (lv_at hl 2 rfl) ?_
      obtain ⟨n3, h⟩ := gn_nz h
      refine lv_ldiv hx hb dX7_twelve_41 n3 ?_
      obtain ⟨v4, ev4, h⟩ := gn_nm h
      refine ln_l ev4 ?_
      refine lv_lstore (lv' := [(16, .long v4), (0, .long x0), (2, .long x2), (4, .long x4), (6, .long x6), (8, .long x8), (10, .long x10), (12, .long x12), (14, .long x14)]) hx hb dX7_twelve_42 hl (by decide) rfl (fun ls hl => ?_)
      refine lv_lload hx hb dX7_twelve_44 (lv_at hl 5 rfl) ?_
      refine lv_lload hx hb dX7_twelve_46 (lv_at hl 6 rfl) ?_
      refine lv_lload hx hb dX7_twelve_48 (lv_at hl 0 rfl) ?_
      refine lv_lmul hx hb dX7_twelve_50 ?_
      refine lv_ladd hx hb dX7_twelve_51 ?_
      obtain ⟨v5, ev5, h⟩ := gn_nm h
      refine ln_l ev5 ?_
      refine lv_lstore (lv' := [(8, .long v5), (16, .long v4), (0, .long x0), (2, .long x2), (4, .long x4), (6, .long x6), (10, .long x10), (12, .long x12), (14, .long x14)]) hx hb dX7_twelve_52 hl (by decide) rfl (fun ls hl => ?_)
      refine lv_lload hx hb dX7_twelve_54 (lv_at hl 1 rfl) ?_
      refine lv_lload hx hb dX7_twelve_56 (lv_at hl 7 rfl) ?_
      refine lv_lmul hx hb dX7_twelve_58 ?_
      refine lv_lload hx hb dX7_twelve_59 (lv_at hl 8 rfl) ?_
      refine lv_ladd hx hb dX7_twelve_61 ?_
      obtain ⟨v6, ev6, h⟩ := gn_nm h
      refine ln_l ev6 ?_
      refine lv_lstore (lv' := [(18, .long v6), (8, .long v5), (16, .long v4), (0, .long x0), (2, .long x2), (4, .long x4), (6, .long x6), (10, .long x10), (12, .long x12), (14, .long x14)]) hx hb dX7_twelve_62 hl (by decide) rfl (fun ls hl => ?_)
      refine lv_lload hx hb dX7_twelve_64 (lv_at hl 8 rfl) ?_
      refine lv_lstore (lv' := [(14, .long x12), (18, .long v6), (8, .long v5), (16, .long v4), (0, .long x0), (2, .long x2), (4, .long x4), (6, .long x6), (10, .long x10), (12, .long x12)]) hx hb dX7_twelve_66 hl (by decide) rfl (fun ls hl => ?_)
      refine lv_lload hx hb dX7_twelve_68 (lv_at hl 1 rfl) ?_
      refine lv_lstore (lv' := [(12, .long v6), (14, .long x12), (18, .long v6), (8, .long v5), (16, .long v4), (0, .long x0), (2, .long x2), (4, .long x4), (6, .long x6), (10, .long x10)]) hx hb dX7_twelve_70 hl (by decide) rfl (fun ls hl => ?_)
      refine lv_lload hx hb dX7_twelve_72 (lv_at hl 8 rfl) ?_
      refine lv_lload hx hb dX7_twelve_74 (lv_at hl 7 rfl) ?_
      obtain ⟨n7, h⟩ := gn_nz h
      refine lv_lrem hx hb dX7_twelve_76 n7 ?_
      obtain ⟨v8, ev8, h⟩ := gn_nm h
      refine ln_l ev8 ?_
      refine lv_lstore (lv' := [(20, .long v8), (12, .long v6), (14, .long x12), (18, .long v6), (8, .long v5), (16, .long v4), (0, .long x0), (2, .long x2), (4, .long x4), (6, .long x6), (10, .long x10)]) hx hb dX7_twelve_77 hl (by decide) rfl (fun ls hl => ?_)
      refine lv_lload hx hb dX7_twelve_79 (lv_at hl 8 rfl) ?_
      refine lv_lstore (lv' := [(6, .long x4), (20, .long v8), (12, .long v6), (14, .long x12), (18, .long v6), (8, .long v5), (16, .long v4), (0, .long x0), (2, .long x2), (4, .long x4), (10, .long x10)]) hx hb dX7_twelve_81 hl (by decide) rfl (fun ls hl => ?_)
      refine lv_lload hx hb dX7_twelve_83 (lv_at hl 1 rfl) ?_
      refine lv_lstore (lv' := [(4, .long v8), (6, .long x4), (20, .long v8), (12, .long v6), (14, .long x12), (18, .long v6), (8, .long v5), (16, .long v4), (0, .long x0), (2, .long x2), (10, .long x10)]) hx hb dX7_twelve_85 hl (by decide) rfl (fun ls hl => ?_)
      refine lv_lload hx hb dX7_twelve_87 (lv_at hl 10 rfl) ?_
      refine lv_lneg hx hb dX7_twelve_89 ?_
      obtain ⟨v9, ev9, h⟩ := gn_nm h
      refine ln_l ev9 ?_
      refine lv_lstore (lv' := [(10, .long v9), (4, .long v8), (6, .long x4), (20, .long v8), (12, .long v6), (14, .long x12), (18, .long v6), (8, .long v5), (16, .long v4), (0, .long x0), (2, .long x2)]) hx hb dX7_twelve_90 hl (by decide) rfl (fun ls hl => ?_)
      refine lv_goto (tgt := 30) hx hb dX7_twelve_92 (by decide) ?_
      exact ih x0 x2 v8 x4 v5 v9 v6 x12 h ls (lv_sub hl [9, 10, 1, 2, 7, 0, 4, 5] rfl)
end
set_option maxRecDepth 100000 in
theorem c_X7_twelve (l : Launch) (z : Nat) (a0 : Int64) (a1 : Int64) (r : Int64) (h : F_X7_twelve z a0 a1 = some r) : Met l yX7_twelve wsX7_twelve rm_X7_twelve (qA [.long a0, .long a1]) (qP (.long r)) 0 0 (fun _ => False) := by
  refine Met.ofW (cc := cX7_twelve) (maxL := 22) (ret := (some .long)) (by decide) rfl ?_
  intro p e s m args below meth c s₁ B hml hv
  obtain ⟨rfl, hN⟩ := hv
  have hx := B.exec
  have hb := B.bytes
  have hr := B.returns
  have hts := atoms_spec (ws := wsX7_twelve) B.pre
  have hown : s.vm.findClass RX7 = some m.cls := findClass_of_methodNamed B.named
  have hlk := B.notSynchronized
  have hcl : 0 ≤ (rm_X7_twelve).cells := Nat.zero_le _
  have hsl : 0 ≤ (rm_X7_twelve).slots := Nat.zero_le _
  have Cc : Cx p s m _ meth c cX7_twelve 22 RX7 wsX7_twelve (some .long) := ⟨hx, hb, hml, hown, hts, hr, hlk, hN⟩
  have hl := lv_entry ([.long a0, .long a1]) (n := 22) (Nat.le_of_ble_eq_true rfl)
  rw [lg_entry_eq]
  generalize (lg_sl ([.long a0, .long a1]) ++ List.replicate (22 - (lg_sl ([.long a0, .long a1])).length) Slot.unset).toArray = ls at hl ⊢
  have hl : lv_has ls 22 [(0, .long a0), (2, .long a1)] := hl
  rw [F_X7_twelve] at h
  refine lv_lload_n hx hb dX7_twelve_0 rfl (lv_at hl 0 rfl) ?_
  refine lv_lload_n hx hb dX7_twelve_1 rfl (lv_at hl 1 rfl) ?_
  obtain ⟨r1, qr1, h⟩ := gn_bd h
  refine pc_S (rest := []) ⟨hx, hb, hml, hown, hts⟩ hN (c_X7_rest l z _ _ r1 qr1) (va_cwS 2 hts gX7_twelve_X7_rest rfl rfl rfl (by decide +kernel) ⟨(Nat.le_of_ble_eq_true rfl), (Nat.le_of_ble_eq_true rfl)⟩) rfl hl.1 rfl (Nat.le_of_ble_eq_true rfl) dX7_twelve_2 hcl hsl ?_
  refine lv_lstore (lv' := [(4, .long r1), (0, .long a0), (2, .long a1)]) hx hb dX7_twelve_5 hl (by decide) rfl (fun ls hl => ?_)
  refine lv_lload_n hx hb dX7_twelve_7 rfl (lv_at hl 2 rfl) ?_
  refine lv_lstore (lv' := [(6, .long a1), (4, .long r1), (0, .long a0), (2, .long a1)]) hx hb dX7_twelve_8 hl (by decide) rfl (fun ls hl => ?_)
  refine lv_lload_n hx hb dX7_twelve_10 rfl (lv_at hl 3 rfl) ?_
  refine lv_lconst (v := (1 : Int64)) hx hb dX7_twelve_11 (by decide) ?_
  refine ll_ne (tgt := 18) hx hb dX7_twelve_12 dX7_twelve_13 (by decide) (fun c2 => ?_) (fun c2 => ?_)
  · have h := gn_f h c2
    refine lv_lconst (v := (0 : Int64)) hx hb dX7_twelve_18 (by decide) ?_
    refine lv_lstore (lv' := [(8, .long (0 : Int64)), (6, .long a1), (4, .long r1), (0, .long a0), (2, .long a1)]) hx hb dX7_twelve_19 hl (by decide) rfl (fun ls hl => ?_)
    refine lv_lconst (v := (1 : Int64)) hx hb dX7_twelve_21 (by decide) ?_
    refine lv_lstore (lv' := [(10, .long (1 : Int64)), (8, .long (0 : Int64)), (6, .long a1), (4, .long r1), (0, .long a0), (2, .long a1)]) hx hb dX7_twelve_22 hl (by decide) rfl (fun ls hl => ?_)
    refine lv_lconst (v := (1 : Int64)) hx hb dX7_twelve_24 (by decide) ?_
    refine lv_lstore (lv' := [(12, .long (1 : Int64)), (10, .long (1 : Int64)), (8, .long (0 : Int64)), (6, .long a1), (4, .long r1), (0, .long a0), (2, .long a1)]) hx hb dX7_twelve_25 hl (by decide) rfl (fun ls hl => ?_)
    refine lv_lconst (v := (0 : Int64)) hx hb dX7_twelve_27 (by decide) ?_
    refine lv_lstore (lv' := [(14, .long (0 : Int64)), (12, .long (1 : Int64)), (10, .long (1 : Int64)), (8, .long (0 : Int64)), (6, .long a1), (4, .long r1), (0, .long a0), (2, .long a1)]) hx hb dX7_twelve_28 hl (by decide) rfl (fun ls hl => ?_)
    exact w_X7_twelve_30 Cc z a0 a1 r1 a1 (0 : Int64) (1 : Int64) (1 : Int64) (0 : Int64) h ls (lv_sub hl [6, 7, 5, 4, 3, 2, 1, 0] rfl)
  · have h := gn_t h c2
    refine lv_lconst (v := (0 : Int64)) hx hb dX7_twelve_16 (by decide) ?_
    obtain rfl := gn_some h
    exact W.lret hx hb hr (fun t ht _ => ⟨rfl, ht⟩) (fun _ hq => by cases hq) dX7_twelve_17 hlk
def rm_X7_inverse : Room := { frames := 0, cells := 0, slots := 0, locals := 0 }
section
variable {p : Program} {l : Launch} {e : Env} {s : State} {m : MethodId} {args : Array Value} {below : List Frame} {meth : Method} {c : Code} {z : Nat}
set_option maxRecDepth 100000 in
theorem w_X7_inverse_3 (Cc : Cx p s m args meth c cX7_inverse 6 RX7 wsX7_inverse (some .long)) {r : Int64} (n : Nat) : ∀ (x0 : Int64) (x2 : Int64) (x4 : Int64), G_X7_inverse_3 z n x0 x2 x4 = some r → ∀ ls, lv_has ls 6 [(0, .long x0), (2, .long x2), (4, .long x4)] → W p l e rm_X7_inverse s m args below meth c s.heap [] 0 0 (MQ below (qP (.long r)) args s 0 0 (fun _ => False)) (F0 m 3 ls []) := by
  obtain ⟨hx, hb, hml, hown, hts, hr, hlk, hN⟩ := id Cc
  have hcl : 0 ≤ (rm_X7_inverse).cells := Nat.zero_le _
  have hsl : 0 ≤ (rm_X7_inverse).slots := Nat.zero_le _
  induction n with
  | zero => intro x0 x2 x4 h; cases h
  | succ n ih =>
    intro x0 x2 x4 h ls hl
    rw [G_X7_inverse_3] at h
    refine lv_lload hx hb dX7_inverse_3 (lv_at hl 2 rfl) ?_
    refine lv_lload_n hx hb dX7_inverse_5 rfl (lv_at hl 1 rfl) ?_
    refine ll_ge (tgt := 35) hx hb dX7_inverse_6 dX7_inverse_7 (by decide) (fun c1 => ?_) (fun c1 => ?_)
    · have h := gn_t h c1
      refine lv_lconst (v := (0 : Int64)) hx hb dX7_inverse_35 (by decide) ?_
      obtain rfl := gn_some h
      exact W.lret hx hb hr (fun t ht _ => ⟨rfl, ht⟩) (fun _ hq => by cases hq) dX7_inverse_36 hlk
    · have h := gn_f h c1
      refine lv_lload_n hx hb dX7_inverse_10 rfl (lv_at hl 0 rfl) ?_
      refine lv_lload hx hb dX7_inverse_11 (lv_at hl 2 rfl) ?_
      refine lv_lmul hx hb dX7_inverse_13 ?_
      refine lv_lload_n hx hb dX7_inverse_14 rfl (lv_at hl 1 rfl) ?_
      obtain ⟨n2, h⟩ := gn_nz h
      refine lv_lrem hx hb dX7_inverse_15 n2 ?_
      refine lv_lconst (v := (1 : Int64)) hx hb dX7_inverse_16 (by decide) ?_
      refine lv_lload_n hx hb dX7_inverse_17 rfl (lv_at hl 1 rfl) ?_
      obtain ⟨n3, h⟩ := gn_nz h
      refine lv_lrem hx hb dX7_inverse_18 n3 ?_
      refine ll_ne (tgt := 26) hx hb dX7_inverse_19 dX7_inverse_20 (by decide) (fun c4 => ?_) (fun c4 => ?_)
      · have h := gn_f h c4
        refine lv_lload hx hb dX7_inverse_26 (lv_at hl 2 rfl) ?_
        refine lv_lconst (v := (1 : Int64)) hx hb dX7_inverse_28 (by decide) ?_
        refine lv_ladd hx hb dX7_inverse_29 ?_
        obtain ⟨v5, ev5, h⟩ := gn_nm h
        refine ln_l ev5 ?_
        refine lv_lstore (lv' := [(4, .long v5), (0, .long x0), (2, .long x2)]) hx hb dX7_inverse_30 hl (by decide) rfl (fun ls hl => ?_)
        refine lv_goto (tgt := 3) hx hb dX7_inverse_32 (by decide) ?_
        exact ih x0 x2 v5 h ls (lv_sub hl [1, 2, 0] rfl)
      · have h := gn_t h c4
        refine lv_lload hx hb dX7_inverse_23 (lv_at hl 2 rfl) ?_
        obtain rfl := gn_some h
        exact W.lret hx hb hr (fun t ht _ => ⟨rfl, ht⟩) (fun _ hq => by cases hq) dX7_inverse_25 hlk
end
set_option maxRecDepth 100000 in
theorem c_X7_inverse (l : Launch) (z : Nat) (a0 : Int64) (a1 : Int64) (r : Int64) (h : F_X7_inverse z a0 a1 = some r) : Met l yX7_inverse wsX7_inverse rm_X7_inverse (qA [.long a0, .long a1]) (qP (.long r)) 0 0 (fun _ => False) := by
  refine Met.ofW (cc := cX7_inverse) (maxL := 6) (ret := (some .long)) (by decide) rfl ?_
  intro p e s m args below meth c s₁ B hml hv
  obtain ⟨rfl, hN⟩ := hv
  have hx := B.exec
  have hb := B.bytes
  have hr := B.returns
  have hts := atoms_spec (ws := wsX7_inverse) B.pre
  have hown : s.vm.findClass RX7 = some m.cls := findClass_of_methodNamed B.named
  have hlk := B.notSynchronized
  have hcl : 0 ≤ (rm_X7_inverse).cells := Nat.zero_le _
  have hsl : 0 ≤ (rm_X7_inverse).slots := Nat.zero_le _
  have Cc : Cx p s m _ meth c cX7_inverse 6 RX7 wsX7_inverse (some .long) := ⟨hx, hb, hml, hown, hts, hr, hlk, hN⟩
  have hl := lv_entry ([.long a0, .long a1]) (n := 6) (Nat.le_of_ble_eq_true rfl)
  rw [lg_entry_eq]
  generalize (lg_sl ([.long a0, .long a1]) ++ List.replicate (6 - (lg_sl ([.long a0, .long a1])).length) Slot.unset).toArray = ls at hl ⊢
  have hl : lv_has ls 6 [(0, .long a0), (2, .long a1)] := hl
  rw [F_X7_inverse] at h
  refine lv_lconst (v := (0 : Int64)) hx hb dX7_inverse_0 (by decide) ?_
  refine lv_lstore (lv' := [(4, .long (0 : Int64)), (0, .long a0), (2, .long a1)]) hx hb dX7_inverse_1 hl (by decide) rfl (fun ls hl => ?_)
  exact w_X7_inverse_3 Cc z a0 a1 (0 : Int64) h ls (lv_sub hl [1, 2, 0] rfl)
def rm_X7_isThousand : Room := { frames := 1, cells := 0, slots := 0, locals := 25 }
section
variable {p : Program} {l : Launch} {e : Env} {s : State} {m : MethodId} {args : Array Value} {below : List Frame} {meth : Method} {c : Code} {z : Nat}
end
set_option maxRecDepth 100000 in
theorem c_X7_isThousand (l : Launch) (z : Nat) (a0 : Int32) (r : Int32) (h : F_X7_isThousand z a0 = some r) : Met l yX7_isThousand wsX7_isThousand rm_X7_isThousand (qA [.int a0]) (qP (.int r)) 0 0 (fun _ => False) := by
  refine Met.ofW (cc := cX7_isThousand) (maxL := 1) (ret := (some .boolean)) (by decide) rfl ?_
  intro p e s m args below meth c s₁ B hml hv
  obtain ⟨rfl, hN⟩ := hv
  have hx := B.exec
  have hb := B.bytes
  have hr := B.returns
  have hts := atoms_spec (ws := wsX7_isThousand) B.pre
  have hown : s.vm.findClass RX7 = some m.cls := findClass_of_methodNamed B.named
  have hlk := B.notSynchronized
  have hcl : 0 ≤ (rm_X7_isThousand).cells := Nat.zero_le _
  have hsl : 0 ≤ (rm_X7_isThousand).slots := Nat.zero_le _
  have Cc : Cx p s m _ meth c cX7_isThousand 1 RX7 wsX7_isThousand (some .boolean) := ⟨hx, hb, hml, hown, hts, hr, hlk, hN⟩
  have hl := lv_entry ([.int a0]) (n := 1) (Nat.le_of_ble_eq_true rfl)
  rw [lg_entry_eq]
  generalize (lg_sl ([.int a0]) ++ List.replicate (1 - (lg_sl ([.int a0])).length) Slot.unset).toArray = ls at hl ⊢
  have hl : lv_has ls 1 [(0, .int a0)] := hl
  rw [F_X7_isThousand] at h
  refine lv_iload_n hx hb dX7_isThousand_0 rfl (lv_at hl 0 rfl) ?_
  refine lv_i2l hx hb dX7_isThousand_1 rfl ?_
  refine lv_lconst (v := (1 : Int64)) hx hb dX7_isThousand_2 (by decide) ?_
  refine lv_ldc2 hx hb hown (hts (.constantLong RX7 95 (1000)) (by decide +kernel)) dX7_isThousand_3 ?_
  obtain ⟨r1, qr1, h⟩ := gn_bd h
  refine pc_S (rest := []) ⟨hx, hb, hml, hown, hts⟩ hN (c_X7_isIn l z _ _ _ r1 qr1) (va_cwS 3 hts gX7_isThousand_X7_isIn rfl rfl rfl (by decide +kernel) ⟨(Nat.le_of_ble_eq_true rfl), (Nat.le_of_ble_eq_true rfl)⟩) rfl hl.1 rfl (Nat.le_of_ble_eq_true rfl) dX7_isThousand_6 hcl hsl ?_
  obtain ⟨n2, h⟩ := gn_yz h
  obtain rfl := gn_some h
  exact W.zret (ty := .boolean) hx hb hr (nb_ok n2) (fun t ht _ => ⟨rfl, ht⟩) (fun _ hq => by cases hq) dX7_isThousand_9 hlk
def rm_X7_chained : Room := { frames := 2, cells := 0, slots := 0, locals := 48 }
section
variable {p : Program} {l : Launch} {e : Env} {s : State} {m : MethodId} {args : Array Value} {below : List Frame} {meth : Method} {c : Code} {z : Nat}
set_option maxRecDepth 100000 in
theorem w_X7_chained_49 (Cc : Cx p s m args meth c cX7_chained 15 RX7 wsX7_chained (some .int)) {r : Int32} {k13 : Int64 → Int32 → Int32 → Int64 → Int64 → Int32 → Option (Int32)} (hk13 : ∀ (x2 : Int64) (x4 : Int32) (x5 : Int32) (x6 : Int64) (x8 : Int64) (x10 : Int32), k13 x2 x4 x5 x6 x8 x10 = some r → ∀ ls, lv_has ls 15 [(2, .long x2), (4, .int x4), (5, .int x5), (6, .long x6), (8, .long x8), (10, .int x10)] → W p l e rm_X7_chained s m args below meth c s.heap [] 0 0 (MQ below (qP (.int r)) args s 0 0 (fun _ => False)) (F0 m 13 ls [])) : ∀ (x2 : Int64) (x4 : Int32) (x5 : Int32) (x6 : Int64) (x8 : Int64) (x10 : Int32) (t0 : Int64), G_X7_chained_49 z k13 x2 x4 x5 x6 x8 x10 t0 = some r → ∀ ls, lv_has ls 15 [(2, .long x2), (4, .int x4), (5, .int x5), (6, .long x6), (8, .long x8), (10, .int x10)] → W p l e rm_X7_chained s m args below meth c s.heap [] 0 0 (MQ below (qP (.int r)) args s 0 0 (fun _ => False)) (F0 m 49 ls [.long t0]) := by
  obtain ⟨hx, hb, hml, hown, hts, hr, hlk, hN⟩ := id Cc
  have hcl : 0 ≤ (rm_X7_chained).cells := Nat.zero_le _
  have hsl : 0 ≤ (rm_X7_chained).slots := Nat.zero_le _
  intro x2 x4 x5 x6 x8 x10 t0 h ls hl
  rw [G_X7_chained_49] at h
  refine lv_lstore (lv' := [(11, .long t0), (2, .long x2), (4, .int x4), (5, .int x5), (6, .long x6), (8, .long x8), (10, .int x10)]) hx hb dX7_chained_49 hl (by decide) rfl (fun ls hl => ?_)
  refine lv_iload hx hb dX7_chained_51 (lv_at hl 6 rfl) ?_
  refine lv_iload hx hb dX7_chained_53 (lv_at hl 2 rfl) ?_
  refine lv_icmp_ne (tgt := 62) hx hb dX7_chained_55 (by decide) (fun c1 => ?_) (fun c1 => ?_)
  · have h := gn_f h c1
    obtain ⟨v2, ev2, h⟩ := gn_nm h
    refine lv_iinc (v := v2) (lv' := [(10, .int v2), (11, .long t0), (2, .long x2), (4, .int x4), (5, .int x5), (6, .long x6), (8, .long x8)]) hx hb dX7_chained_62 hl (k := 6) rfl (by rw [ev2]; rfl) (by decide) rfl (fun ls hl => ?_)
    refine lv_iload hx hb dX7_chained_65 (lv_at hl 4 rfl) ?_
    refine lv_if_eq (tgt := 81) hx hb dX7_chained_67 (by decide) (fun c3 => ?_) (fun c3 => ?_)
    · have h := gn_t h c3
      refine lv_lload hx hb dX7_chained_81 (lv_at hl 6 rfl) ?_
      refine lv_lload hx hb dX7_chained_83 (lv_at hl 5 rfl) ?_
      obtain ⟨n4, h⟩ := gn_nz h
      refine lv_lrem hx hb dX7_chained_85 n4 ?_
      obtain ⟨v5, ev5, h⟩ := gn_nm h
      refine ln_l ev5 ?_
      refine lv_lstore (lv' := [(13, .long v5), (10, .int v2), (11, .long t0), (2, .long x2), (4, .int x4), (5, .int x5), (6, .long x6), (8, .long x8)]) hx hb dX7_chained_86 hl (by decide) rfl (fun ls hl => ?_)
      refine lv_lload hx hb dX7_chained_88 (lv_at hl 6 rfl) ?_
      refine lv_lstore (lv' := [(8, .long x6), (13, .long v5), (10, .int v2), (11, .long t0), (2, .long x2), (4, .int x4), (5, .int x5), (6, .long x6)]) hx hb dX7_chained_90 hl (by decide) rfl (fun ls hl => ?_)
      refine lv_lload hx hb dX7_chained_92 (lv_at hl 1 rfl) ?_
      refine lv_lstore (lv' := [(6, .long v5), (8, .long x6), (13, .long v5), (10, .int v2), (11, .long t0), (2, .long x2), (4, .int x4), (5, .int x5)]) hx hb dX7_chained_94 hl (by decide) rfl (fun ls hl => ?_)
      refine lv_goto (tgt := 13) hx hb dX7_chained_96 (by decide) ?_
      exact hk13 x2 x4 x5 v5 x6 v2 h ls (lv_sub hl [5, 6, 7, 0, 1, 3] rfl)
    · have h := gn_f h c3
      refine lv_lload hx hb dX7_chained_70 (lv_at hl 1 rfl) ?_
      refine lv_lload hx hb dX7_chained_72 (lv_at hl 5 rfl) ?_
      refine lv_lmul hx hb dX7_chained_74 ?_
      refine lv_lload hx hb dX7_chained_75 (lv_at hl 6 rfl) ?_
      refine lv_lsub hx hb dX7_chained_77 ?_
      refine lv_goto (tgt := 86) hx hb dX7_chained_78 (by decide) ?_
      obtain ⟨v6, ev6, h⟩ := gn_nm h
      refine ln_l ev6 ?_
      refine lv_lstore (lv' := [(13, .long v6), (10, .int v2), (11, .long t0), (2, .long x2), (4, .int x4), (5, .int x5), (6, .long x6), (8, .long x8)]) hx hb dX7_chained_86 hl (by decide) rfl (fun ls hl => ?_)
      refine lv_lload hx hb dX7_chained_88 (lv_at hl 6 rfl) ?_
      refine lv_lstore (lv' := [(8, .long x6), (13, .long v6), (10, .int v2), (11, .long t0), (2, .long x2), (4, .int x4), (5, .int x5), (6, .long x6)]) hx hb dX7_chained_90 hl (by decide) rfl (fun ls hl => ?_)
      refine lv_lload hx hb dX7_chained_92 (lv_at hl 1 rfl) ?_
      refine lv_lstore (lv' := [(6, .long v6), (8, .long x6), (13, .long v6), (10, .int v2), (11, .long t0), (2, .long x2), (4, .int x4), (5, .int x5)]) hx hb dX7_chained_94 hl (by decide) rfl (fun ls hl => ?_)
      refine lv_goto (tgt := 13) hx hb dX7_chained_96 (by decide) ?_
      exact hk13 x2 x4 x5 v6 x6 v2 h ls (lv_sub hl [5, 6, 7, 0, 1, 3] rfl)
  · have h := gn_t h c1
    refine lv_lload hx hb dX7_chained_58 (lv_at hl 0 rfl) ?_
    refine lv_l2i hx hb dX7_chained_60 rfl ?_
    obtain rfl := gn_some h
    exact W.iret hx hb hr (fun t ht _ => ⟨rfl, ht⟩) (fun _ hq => by cases hq) dX7_chained_61 hlk
set_option maxRecDepth 100000 in
theorem w_X7_chained_13 (Cc : Cx p s m args meth c cX7_chained 15 RX7 wsX7_chained (some .int)) {r : Int32} (n : Nat) : ∀ (x2 : Int64) (x4 : Int32) (x5 : Int32) (x6 : Int64) (x8 : Int64) (x10 : Int32), G_X7_chained_13 z n x2 x4 x5 x6 x8 x10 = some r → ∀ ls, lv_has ls 15 [(2, .long x2), (4, .int x4), (5, .int x5), (6, .long x6), (8, .long x8), (10, .int x10)] → W p l e rm_X7_chained s m args below meth c s.heap [] 0 0 (MQ below (qP (.int r)) args s 0 0 (fun _ => False)) (F0 m 13 ls []) := by
  obtain ⟨hx, hb, hml, hown, hts, hr, hlk, hN⟩ := id Cc
  have hcl : 0 ≤ (rm_X7_chained).cells := Nat.zero_le _
  have hsl : 0 ≤ (rm_X7_chained).slots := Nat.zero_le _
  induction n with
  | zero => intro x2 x4 x5 x6 x8 x10 h; cases h
  | succ n ih =>
    intro x2 x4 x5 x6 x8 x10 h ls hl
    rw [G_X7_chained_13] at h
    refine lv_lload hx hb dX7_chained_13 (lv_at hl 3 rfl) ?_
    refine lv_lconst (v := (0 : Int64)) hx hb dX7_chained_15 (by decide) ?_
    refine ll_eq (tgt := 99) hx hb dX7_chained_16 dX7_chained_17 (by decide) (fun c1 => ?_) (fun c1 => ?_)
    · have h := gn_t h c1
      refine lv_iload hx hb dX7_chained_99 (lv_at hl 1 rfl) ?_
      refine lv_iconst (v := (-1 : Int32)) hx hb dX7_chained_101 (by decide) ?_
      refine lv_icmp_ne (tgt := 110) hx hb dX7_chained_102 (by decide) (fun c2 => ?_) (fun c2 => ?_)
      · have h := gn_f h c2
        refine lv_iconst (v := (-1 : Int32)) hx hb dX7_chained_110 (by decide) ?_
        obtain rfl := gn_some h
        exact W.iret hx hb hr (fun t ht _ => ⟨rfl, ht⟩) (fun _ hq => by cases hq) dX7_chained_111 hlk
      · have h := gn_t h c2
        refine lv_iload hx hb dX7_chained_105 (lv_at hl 5 rfl) ?_
        refine lv_goto (tgt := 111) hx hb dX7_chained_107 (by decide) ?_
        obtain rfl := gn_some h
        exact W.iret hx hb hr (fun t ht _ => ⟨rfl, ht⟩) (fun _ hq => by cases hq) dX7_chained_111 hlk
    · have h := gn_f h c1
      refine lv_lload_n hx hb dX7_chained_20 rfl (lv_at hl 0 rfl) ?_
      refine lv_lconst (v := (1 : Int64)) hx hb dX7_chained_21 (by decide) ?_
      refine ll_le (tgt := 99) hx hb dX7_chained_22 dX7_chained_23 (by decide) (fun c3 => ?_) (fun c3 => ?_)
      · have h := gn_t h c3
        refine lv_iload hx hb dX7_chained_99 (lv_at hl 1 rfl) ?_
        refine lv_iconst (v := (-1 : Int32)) hx hb dX7_chained_101 (by decide) ?_
        refine lv_icmp_ne (tgt := 110) hx hb dX7_chained_102 (by decide) (fun c4 => ?_) (fun c4 => ?_)
        · have h := gn_f h c4
          refine lv_iconst (v := (-1 : Int32)) hx hb dX7_chained_110 (by decide) ?_
          obtain rfl := gn_some h
          exact W.iret hx hb hr (fun t ht _ => ⟨rfl, ht⟩) (fun _ hq => by cases hq) dX7_chained_111 hlk
        · have h := gn_t h c4
          refine lv_iload hx hb dX7_chained_105 (lv_at hl 5 rfl) ?_
          refine lv_goto (tgt := 111) hx hb dX7_chained_107 (by decide) ?_
          obtain rfl := gn_some h
          exact W.iret hx hb hr (fun t ht _ => ⟨rfl, ht⟩) (fun _ hq => by cases hq) dX7_chained_111 hlk
      · have h := gn_f h c3
        refine lv_iload hx hb dX7_chained_26 (lv_at hl 2 rfl) ?_
        refine lv_if_eq (tgt := 44) hx hb dX7_chained_28 (by decide) (fun c5 => ?_) (fun c5 => ?_)
        · have h := gn_t h c5
          refine lv_lload hx hb dX7_chained_44 (lv_at hl 4 rfl) ?_
          refine lv_lload hx hb dX7_chained_46 (lv_at hl 3 rfl) ?_
          obtain ⟨n6, h⟩ := gn_nz h
          refine lv_ldiv hx hb dX7_chained_48 n6 ?_
          exact w_X7_chained_49 Cc ih x2 x4 x5 x6 x8 x10 (x8 / x6) h ls (lv_sub hl [0, 1, 2, 3, 4, 5] rfl)
        · have h := gn_f h c5
          refine lv_lload hx hb dX7_chained_31 (lv_at hl 4 rfl) ?_
          refine lv_lload hx hb dX7_chained_33 (lv_at hl 3 rfl) ?_
          refine lv_ladd hx hb dX7_chained_35 ?_
          refine lv_lconst (v := (1 : Int64)) hx hb dX7_chained_36 (by decide) ?_
          refine lv_lsub hx hb dX7_chained_37 ?_
          refine lv_lload hx hb dX7_chained_38 (lv_at hl 3 rfl) ?_
          obtain ⟨n7, h⟩ := gn_nz h
          refine lv_ldiv hx hb dX7_chained_40 n7 ?_
          refine lv_goto (tgt := 49) hx hb dX7_chained_41 (by decide) ?_
          exact w_X7_chained_49 Cc ih x2 x4 x5 x6 x8 x10 (((x8 + x6) - (1 : Int64)) / x6) h ls (lv_sub hl [0, 1, 2, 3, 4, 5] rfl)
end
set_option maxRecDepth 100000 in
theorem c_X7_chained (l : Launch) (z : Nat) (a0 : Int64) (a1 : Int64) (a2 : Int32) (a3 : Int32) (r : Int32) (h : F_X7_chained z a0 a1 a2 a3 = some r) : Met l yX7_chained wsX7_chained rm_X7_chained (qA [.long a0, .long a1, .int a2, .int a3]) (qP (.int r)) 0 0 (fun _ => False) := by
  refine Met.ofW (cc := cX7_chained) (maxL := 15) (ret := (some .int)) (by decide) rfl ?_
  intro p e s m args below meth c s₁ B hml hv
  obtain ⟨rfl, hN⟩ := hv
  have hx := B.exec
  have hb := B.bytes
  have hr := B.returns
  have hts := atoms_spec (ws := wsX7_chained) B.pre
  have hown : s.vm.findClass RX7 = some m.cls := findClass_of_methodNamed B.named
  have hlk := B.notSynchronized
  have hcl : 0 ≤ (rm_X7_chained).cells := Nat.zero_le _
  have hsl : 0 ≤ (rm_X7_chained).slots := Nat.zero_le _
  have Cc : Cx p s m _ meth c cX7_chained 15 RX7 wsX7_chained (some .int) := ⟨hx, hb, hml, hown, hts, hr, hlk, hN⟩
  have hl := lv_entry ([.long a0, .long a1, .int a2, .int a3]) (n := 15) (Nat.le_of_ble_eq_true rfl)
  rw [lg_entry_eq]
  generalize (lg_sl ([.long a0, .long a1, .int a2, .int a3]) ++ List.replicate (15 - (lg_sl ([.long a0, .long a1, .int a2, .int a3])).length) Slot.unset).toArray = ls at hl ⊢
  have hl : lv_has ls 15 [(0, .long a0), (2, .long a1), (4, .int a2), (5, .int a3)] := hl
  rw [F_X7_chained] at h
  refine lv_lload_n hx hb dX7_chained_0 rfl (lv_at hl 0 rfl) ?_
  refine lv_lload_n hx hb dX7_chained_1 rfl (lv_at hl 1 rfl) ?_
  obtain ⟨r1, qr1, h⟩ := gn_bd h
  refine pc_S (rest := []) ⟨hx, hb, hml, hown, hts⟩ hN (c_X7_rest l z _ _ r1 qr1) (va_cwS 2 hts gX7_chained_X7_rest rfl rfl rfl (by decide +kernel) ⟨(Nat.le_of_ble_eq_true rfl), (Nat.le_of_ble_eq_true rfl)⟩) rfl hl.1 rfl (Nat.le_of_ble_eq_true rfl) dX7_chained_2 hcl hsl ?_
  refine lv_lstore (lv' := [(6, .long r1), (0, .long a0), (2, .long a1), (4, .int a2), (5, .int a3)]) hx hb dX7_chained_5 hl (by decide) rfl (fun ls hl => ?_)
  refine lv_lload_n hx hb dX7_chained_7 rfl (lv_at hl 2 rfl) ?_
  refine lv_lstore (lv' := [(8, .long a1), (6, .long r1), (0, .long a0), (2, .long a1), (4, .int a2), (5, .int a3)]) hx hb dX7_chained_8 hl (by decide) rfl (fun ls hl => ?_)
  refine lv_iconst (v := (0 : Int32)) hx hb dX7_chained_10 (by decide) ?_
  refine lv_istore (lv' := [(10, .int (0 : Int32)), (8, .long a1), (6, .long r1), (0, .long a0), (2, .long a1), (4, .int a2), (5, .int a3)]) hx hb dX7_chained_11 hl (by decide) rfl (fun ls hl => ?_)
  exact w_X7_chained_13 Cc z a1 a2 a3 r1 a1 (0 : Int32) h ls (lv_sub hl [4, 5, 6, 2, 1, 0] rfl)
def rm_X7_floors : Room := { frames := 0, cells := 0, slots := 0, locals := 0 }
section
variable {p : Program} {l : Launch} {e : Env} {s : State} {m : MethodId} {args : Array Value} {below : List Frame} {meth : Method} {c : Code} {z : Nat}
set_option maxRecDepth 100000 in
theorem w_X7_floors_67 (Cc : Cx p s m args meth c cX7_floors 22 RX7 wsX7_floors (some .long)) {r : Int64} {k17 : Int64 → Int64 → Int64 → Int64 → Int64 → Option (Int64)} (hk17 : ∀ (x8 : Int64) (x10 : Int64) (x12 : Int64) (x14 : Int64) (x16 : Int64), k17 x8 x10 x12 x14 x16 = some r → ∀ ls, lv_has ls 22 [(8, .long x8), (10, .long x10), (12, .long x12), (14, .long x14), (16, .long x16)] → W p l e rm_X7_floors s m args below meth c s.heap [] 0 0 (MQ below (qP (.long r)) args s 0 0 (fun _ => False)) (F0 m 17 ls [])) : ∀ (x10 : Int64) (x12 : Int64) (x14 : Int64) (x16 : Int64) (t0 : Int64) (t1 : Int64) (t2 : Int64), G_X7_floors_67 z k17 x10 x12 x14 x16 t0 t1 t2 = some r → ∀ ls, lv_has ls 22 [(10, .long x10), (12, .long x12), (14, .long x14), (16, .long x16)] → W p l e rm_X7_floors s m args below meth c s.heap [] 0 0 (MQ below (qP (.long r)) args s 0 0 (fun _ => False)) (F0 m 67 ls [.long t0, .long t1, .long t2]) := by
  obtain ⟨hx, hb, hml, hown, hts, hr, hlk, hN⟩ := id Cc
  have hcl : 0 ≤ (rm_X7_floors).cells := Nat.zero_le _
  have hsl : 0 ≤ (rm_X7_floors).slots := Nat.zero_le _
  intro x10 x12 x14 x16 t0 t1 t2 h ls hl
  rw [G_X7_floors_67] at h
  refine lv_lmul hx hb dX7_floors_67 ?_
  refine lv_lload hx hb dX7_floors_68 (lv_at hl 1 rfl) ?_
  refine lv_lload hx hb dX7_floors_70 (lv_at hl 2 rfl) ?_
  obtain ⟨n1, h⟩ := gn_nz h
  refine lv_ldiv hx hb dX7_floors_72 n1 ?_
  refine lv_lload hx hb dX7_floors_73 (lv_at hl 3 rfl) ?_
  refine lv_lmul hx hb dX7_floors_75 ?_
  refine lv_ladd hx hb dX7_floors_76 ?_
  refine lv_ladd hx hb dX7_floors_77 ?_
  obtain ⟨v2, ev2, h⟩ := gn_nm h
  refine ln_l ev2 ?_
  refine lv_lstore (lv' := [(8, .long v2), (10, .long x10), (12, .long x12), (14, .long x14), (16, .long x16)]) hx hb dX7_floors_78 hl (by decide) rfl (fun ls hl => ?_)
  refine lv_lload hx hb dX7_floors_80 (lv_at hl 1 rfl) ?_
  refine lv_lload hx hb dX7_floors_82 (lv_at hl 3 rfl) ?_
  obtain ⟨n3, h⟩ := gn_nz h
  refine lv_lrem hx hb dX7_floors_84 n3 ?_
  obtain ⟨v4, ev4, h⟩ := gn_nm h
  refine ln_l ev4 ?_
  refine lv_lstore (lv' := [(10, .long v4), (8, .long v2), (12, .long x12), (14, .long x14), (16, .long x16)]) hx hb dX7_floors_85 hl (by decide) rfl (fun ls hl => ?_)
  refine lv_lload hx hb dX7_floors_87 (lv_at hl 2 rfl) ?_
  refine lv_lload hx hb dX7_floors_89 (lv_at hl 3 rfl) ?_
  obtain ⟨n5, h⟩ := gn_nz h
  refine lv_lrem hx hb dX7_floors_91 n5 ?_
  obtain ⟨v6, ev6, h⟩ := gn_nm h
  refine ln_l ev6 ?_
  refine lv_lstore (lv' := [(12, .long v6), (10, .long v4), (8, .long v2), (14, .long x14), (16, .long x16)]) hx hb dX7_floors_92 hl (by decide) rfl (fun ls hl => ?_)
  refine lv_lload hx hb dX7_floors_94 (lv_at hl 1 rfl) ?_
  refine lv_lload hx hb dX7_floors_96 (lv_at hl 4 rfl) ?_
  refine lv_lmul hx hb dX7_floors_98 ?_
  refine lv_lload hx hb dX7_floors_99 (lv_at hl 0 rfl) ?_
  refine lv_ladd hx hb dX7_floors_101 ?_
  obtain ⟨v7, ev7, h⟩ := gn_nm h
  refine ln_l ev7 ?_
  refine lv_lstore (lv' := [(18, .long v7), (12, .long v6), (10, .long v4), (8, .long v2), (14, .long x14), (16, .long x16)]) hx hb dX7_floors_102 hl (by decide) rfl (fun ls hl => ?_)
  refine lv_lload hx hb dX7_floors_104 (lv_at hl 0 rfl) ?_
  refine lv_lload hx hb dX7_floors_106 (lv_at hl 4 rfl) ?_
  refine ll_ge (tgt := 115) hx hb dX7_floors_108 dX7_floors_109 (by decide) (fun c8 => ?_) (fun c8 => ?_)
  · have h := gn_t h c8
    refine lv_lload hx hb dX7_floors_115 (lv_at hl 0 rfl) ?_
    refine lv_lload hx hb dX7_floors_117 (lv_at hl 4 rfl) ?_
    obtain ⟨n9, h⟩ := gn_nz h
    refine lv_ldiv hx hb dX7_floors_119 n9 ?_
    obtain ⟨v10, ev10, h⟩ := gn_nm h
    refine ln_l ev10 ?_
    refine lv_lstore (lv' := [(16, .long v10), (18, .long v7), (12, .long v6), (10, .long v4), (8, .long v2), (14, .long x14)]) hx hb dX7_floors_120 hl (by decide) rfl (fun ls hl => ?_)
    refine lv_lload hx hb dX7_floors_122 (lv_at hl 1 rfl) ?_
    refine lv_lload hx hb dX7_floors_124 (lv_at hl 5 rfl) ?_
    obtain ⟨n11, h⟩ := gn_nz h
    refine lv_lrem hx hb dX7_floors_126 n11 ?_
    obtain ⟨v12, ev12, h⟩ := gn_nm h
    refine ln_l ev12 ?_
    refine lv_lstore (lv' := [(12, .long v12), (16, .long v10), (18, .long v7), (10, .long v4), (8, .long v2), (14, .long x14)]) hx hb dX7_floors_127 hl (by decide) rfl (fun ls hl => ?_)
    refine lv_lload hx hb dX7_floors_129 (lv_at hl 5 rfl) ?_
    refine lv_lstore (lv' := [(20, .long x14), (12, .long v12), (16, .long v10), (18, .long v7), (10, .long v4), (8, .long v2), (14, .long x14)]) hx hb dX7_floors_131 hl (by decide) rfl (fun ls hl => ?_)
    refine lv_lload hx hb dX7_floors_133 (lv_at hl 4 rfl) ?_
    refine lv_lstore (lv' := [(14, .long v4), (20, .long x14), (12, .long v12), (16, .long v10), (18, .long v7), (10, .long v4), (8, .long v2)]) hx hb dX7_floors_135 hl (by decide) rfl (fun ls hl => ?_)
    refine lv_lload hx hb dX7_floors_137 (lv_at hl 1 rfl) ?_
    refine lv_lstore (lv' := [(10, .long x14), (14, .long v4), (20, .long x14), (12, .long v12), (16, .long v10), (18, .long v7), (8, .long v2)]) hx hb dX7_floors_139 hl (by decide) rfl (fun ls hl => ?_)
    refine lv_goto (tgt := 17) hx hb dX7_floors_141 (by decide) ?_
    exact hk17 v2 x14 v12 v4 v10 h ls (lv_sub hl [6, 0, 3, 1, 4] rfl)
  · have h := gn_f h c8
    refine lv_lload hx hb dX7_floors_112 (lv_at hl 3 rfl) ?_
    obtain rfl := gn_some h
    exact W.lret hx hb hr (fun t ht _ => ⟨rfl, ht⟩) (fun _ hq => by cases hq) dX7_floors_114 hlk
set_option maxRecDepth 100000 in
theorem w_X7_floors_17 (Cc : Cx p s m args meth c cX7_floors 22 RX7 wsX7_floors (some .long)) {r : Int64} (n : Nat) : ∀ (x8 : Int64) (x10 : Int64) (x12 : Int64) (x14 : Int64) (x16 : Int64), G_X7_floors_17 z n x8 x10 x12 x14 x16 = some r → ∀ ls, lv_has ls 22 [(8, .long x8), (10, .long x10), (12, .long x12), (14, .long x14), (16, .long x16)] → W p l e rm_X7_floors s m args below meth c s.heap [] 0 0 (MQ below (qP (.long r)) args s 0 0 (fun _ => False)) (F0 m 17 ls []) := by
  obtain ⟨hx, hb, hml, hown, hts, hr, hlk, hN⟩ := id Cc
  have hcl : 0 ≤ (rm_X7_floors).cells := Nat.zero_le _
  have hsl : 0 ≤ (rm_X7_floors).slots := Nat.zero_le _
  induction n with
  | zero => intro x8 x10 x12 x14 x16 h; cases h
  | succ n ih =>
    intro x8 x10 x12 x14 x16 h ls hl
    rw [G_X7_floors_17] at h
    refine lv_lload hx hb dX7_floors_17 (lv_at hl 4 rfl) ?_
    refine lv_lconst (v := (0 : Int64)) hx hb dX7_floors_19 (by decide) ?_
    refine ll_le (tgt := 144) hx hb dX7_floors_20 dX7_floors_21 (by decide) (fun c1 => ?_) (fun c1 => ?_)
    · have h := gn_t h c1
      refine lv_lload hx hb dX7_floors_144 (lv_at hl 0 rfl) ?_
      obtain rfl := gn_some h
      exact W.lret hx hb hr (fun t ht _ => ⟨rfl, ht⟩) (fun _ hq => by cases hq) dX7_floors_146 hlk
    · have h := gn_f h c1
      refine lv_lload hx hb dX7_floors_24 (lv_at hl 0 rfl) ?_
      refine lv_lload hx hb dX7_floors_26 (lv_at hl 1 rfl) ?_
      refine lv_lload hx hb dX7_floors_28 (lv_at hl 3 rfl) ?_
      obtain ⟨n2, h⟩ := gn_nz h
      refine lv_ldiv hx hb dX7_floors_30 n2 ?_
      refine lv_lload hx hb dX7_floors_31 (lv_at hl 4 rfl) ?_
      refine lv_ldc2 hx hb hown (hts (.constantLong RX7 85 (2)) (by decide +kernel)) dX7_floors_33 ?_
      refine lv_lrem hx hb dX7_floors_36 (by decide) ?_
      refine lv_lconst (v := (0 : Int64)) hx hb dX7_floors_37 (by decide) ?_
      refine ll_ne (tgt := 56) hx hb dX7_floors_38 dX7_floors_39 (by decide) (fun c3 => ?_) (fun c3 => ?_)
      · have h := gn_f h c3
        refine lv_lload hx hb dX7_floors_56 (lv_at hl 4 rfl) ?_
        refine lv_lconst (v := (1 : Int64)) hx hb dX7_floors_58 (by decide) ?_
        refine lv_lsub hx hb dX7_floors_59 ?_
        refine lv_ldc2 hx hb hown (hts (.constantLong RX7 85 (2)) (by decide +kernel)) dX7_floors_60 ?_
        refine lv_ldiv hx hb dX7_floors_63 (by decide) ?_
        refine lv_lload hx hb dX7_floors_64 (lv_at hl 4 rfl) ?_
        refine lv_lmul hx hb dX7_floors_66 ?_
        exact w_X7_floors_67 Cc ih x10 x12 x14 x16 (((x16 - (1 : Int64)) / (2 : Int64)) * x16) (x10 / x14) x8 h ls (lv_sub hl [1, 2, 3, 4] rfl)
      · have h := gn_t h c3
        refine lv_lload hx hb dX7_floors_42 (lv_at hl 4 rfl) ?_
        refine lv_ldc2 hx hb hown (hts (.constantLong RX7 85 (2)) (by decide +kernel)) dX7_floors_44 ?_
        refine lv_ldiv hx hb dX7_floors_47 (by decide) ?_
        refine lv_lload hx hb dX7_floors_48 (lv_at hl 4 rfl) ?_
        refine lv_lconst (v := (1 : Int64)) hx hb dX7_floors_50 (by decide) ?_
        refine lv_lsub hx hb dX7_floors_51 ?_
        refine lv_lmul hx hb dX7_floors_52 ?_
        refine lv_goto (tgt := 67) hx hb dX7_floors_53 (by decide) ?_
        exact w_X7_floors_67 Cc ih x10 x12 x14 x16 ((x16 / (2 : Int64)) * (x16 - (1 : Int64))) (x10 / x14) x8 h ls (lv_sub hl [1, 2, 3, 4] rfl)
end
set_option maxRecDepth 100000 in
theorem c_X7_floors (l : Launch) (z : Nat) (a0 : Int64) (a1 : Int64) (a2 : Int64) (a3 : Int64) (r : Int64) (h : F_X7_floors z a0 a1 a2 a3 = some r) : Met l yX7_floors wsX7_floors rm_X7_floors (qA [.long a0, .long a1, .long a2, .long a3]) (qP (.long r)) 0 0 (fun _ => False) := by
  refine Met.ofW (cc := cX7_floors) (maxL := 22) (ret := (some .long)) (by decide) rfl ?_
  intro p e s m args below meth c s₁ B hml hv
  obtain ⟨rfl, hN⟩ := hv
  have hx := B.exec
  have hb := B.bytes
  have hr := B.returns
  have hts := atoms_spec (ws := wsX7_floors) B.pre
  have hown : s.vm.findClass RX7 = some m.cls := findClass_of_methodNamed B.named
  have hlk := B.notSynchronized
  have hcl : 0 ≤ (rm_X7_floors).cells := Nat.zero_le _
  have hsl : 0 ≤ (rm_X7_floors).slots := Nat.zero_le _
  have Cc : Cx p s m _ meth c cX7_floors 22 RX7 wsX7_floors (some .long) := ⟨hx, hb, hml, hown, hts, hr, hlk, hN⟩
  have hl := lv_entry ([.long a0, .long a1, .long a2, .long a3]) (n := 22) (Nat.le_of_ble_eq_true rfl)
  rw [lg_entry_eq]
  generalize (lg_sl ([.long a0, .long a1, .long a2, .long a3]) ++ List.replicate (22 - (lg_sl ([.long a0, .long a1, .long a2, .long a3])).length) Slot.unset).toArray = ls at hl ⊢
  have hl : lv_has ls 22 [(0, .long a0), (2, .long a1), (4, .long a2), (6, .long a3)] := hl
  rw [F_X7_floors] at h
  refine lv_lconst (v := (0 : Int64)) hx hb dX7_floors_0 (by decide) ?_
  refine lv_lstore (lv' := [(8, .long (0 : Int64)), (0, .long a0), (2, .long a1), (4, .long a2), (6, .long a3)]) hx hb dX7_floors_1 hl (by decide) rfl (fun ls hl => ?_)
  refine lv_lload_n hx hb dX7_floors_3 rfl (lv_at hl 1 rfl) ?_
  refine lv_lstore (lv' := [(10, .long a0), (8, .long (0 : Int64)), (0, .long a0), (2, .long a1), (4, .long a2), (6, .long a3)]) hx hb dX7_floors_4 hl (by decide) rfl (fun ls hl => ?_)
  refine lv_lload_n hx hb dX7_floors_6 rfl (lv_at hl 3 rfl) ?_
  refine lv_lstore (lv' := [(12, .long a1), (10, .long a0), (8, .long (0 : Int64)), (0, .long a0), (2, .long a1), (4, .long a2), (6, .long a3)]) hx hb dX7_floors_7 hl (by decide) rfl (fun ls hl => ?_)
  refine lv_lload hx hb dX7_floors_9 (lv_at hl 5 rfl) ?_
  refine lv_lstore (lv' := [(14, .long a2), (12, .long a1), (10, .long a0), (8, .long (0 : Int64)), (0, .long a0), (2, .long a1), (4, .long a2), (6, .long a3)]) hx hb dX7_floors_11 hl (by decide) rfl (fun ls hl => ?_)
  refine lv_lload hx hb dX7_floors_13 (lv_at hl 7 rfl) ?_
  refine lv_lstore (lv' := [(16, .long a3), (14, .long a2), (12, .long a1), (10, .long a0), (8, .long (0 : Int64)), (0, .long a0), (2, .long a1), (4, .long a2), (6, .long a3)]) hx hb dX7_floors_15 hl (by decide) rfl (fun ls hl => ?_)
  exact w_X7_floors_17 Cc z (0 : Int64) a0 a1 a2 a3 h ls (lv_sub hl [4, 3, 2, 1, 0] rfl)
def rm_X7_below : Room := { frames := 1, cells := 0, slots := 0, locals := 41 }
section
variable {p : Program} {l : Launch} {e : Env} {s : State} {m : MethodId} {args : Array Value} {below : List Frame} {meth : Method} {c : Code} {z : Nat}
end
set_option maxRecDepth 100000 in
theorem c_X7_below (l : Launch) (z : Nat) (a0 : Int64) (a1 : Int64) (a2 : Int64) (r : Int64) (h : F_X7_below z a0 a1 a2 = some r) : Met l yX7_below wsX7_below rm_X7_below (qA [.long a0, .long a1, .long a2]) (qP (.long r)) 0 0 (fun _ => False) := by
  refine Met.ofW (cc := cX7_below) (maxL := 8) (ret := (some .long)) (by decide) rfl ?_
  intro p e s m args below meth c s₁ B hml hv
  obtain ⟨rfl, hN⟩ := hv
  have hx := B.exec
  have hb := B.bytes
  have hr := B.returns
  have hts := atoms_spec (ws := wsX7_below) B.pre
  have hown : s.vm.findClass RX7 = some m.cls := findClass_of_methodNamed B.named
  have hlk := B.notSynchronized
  have hcl : 0 ≤ (rm_X7_below).cells := Nat.zero_le _
  have hsl : 0 ≤ (rm_X7_below).slots := Nat.zero_le _
  have Cc : Cx p s m _ meth c cX7_below 8 RX7 wsX7_below (some .long) := ⟨hx, hb, hml, hown, hts, hr, hlk, hN⟩
  have hl := lv_entry ([.long a0, .long a1, .long a2]) (n := 8) (Nat.le_of_ble_eq_true rfl)
  rw [lg_entry_eq]
  generalize (lg_sl ([.long a0, .long a1, .long a2]) ++ List.replicate (8 - (lg_sl ([.long a0, .long a1, .long a2])).length) Slot.unset).toArray = ls at hl ⊢
  have hl : lv_has ls 8 [(0, .long a0), (2, .long a1), (4, .long a2)] := hl
  rw [F_X7_below] at h
  refine lv_lload hx hb dX7_below_0 (lv_at hl 2 rfl) ?_
  refine lv_lconst (v := (0 : Int64)) hx hb dX7_below_2 (by decide) ?_
  refine ll_ge (tgt := 9) hx hb dX7_below_3 dX7_below_4 (by decide) (fun c1 => ?_) (fun c1 => ?_)
  · have h := gn_t h c1
    refine lv_lload hx hb dX7_below_9 (lv_at hl 2 rfl) ?_
    refine lv_lload_n hx hb dX7_below_11 rfl (lv_at hl 0 rfl) ?_
    obtain ⟨n2, h⟩ := gn_nz h
    refine lv_ldiv hx hb dX7_below_12 n2 ?_
    refine lv_lconst (v := (1 : Int64)) hx hb dX7_below_13 (by decide) ?_
    refine lv_ladd hx hb dX7_below_14 ?_
    obtain ⟨v3, ev3, h⟩ := gn_nm h
    refine ln_l ev3 ?_
    refine lv_lstore (lv' := [(6, .long v3), (0, .long a0), (2, .long a1), (4, .long a2)]) hx hb dX7_below_15 hl (by decide) rfl (fun ls hl => ?_)
    refine lv_lload_n hx hb dX7_below_17 rfl (lv_at hl 1 rfl) ?_
    refine lv_lload hx hb dX7_below_18 (lv_at hl 3 rfl) ?_
    refine lv_lload_n hx hb dX7_below_20 rfl (lv_at hl 1 rfl) ?_
    obtain ⟨n4, h⟩ := gn_nz h
    refine lv_lrem hx hb dX7_below_21 n4 ?_
    refine lv_lload_n hx hb dX7_below_22 rfl (lv_at hl 2 rfl) ?_
    refine lv_lload hx hb dX7_below_23 (lv_at hl 0 rfl) ?_
    obtain ⟨r5, qr5, h⟩ := gn_bd h
    refine pc_S (rest := []) ⟨hx, hb, hml, hown, hts⟩ hN (c_X7_floors l z _ _ _ _ r5 qr5) (va_cwS 4 hts gX7_below_X7_floors rfl rfl rfl (by decide +kernel) ⟨(Nat.le_of_ble_eq_true rfl), (Nat.le_of_ble_eq_true rfl)⟩) rfl hl.1 rfl (Nat.le_of_ble_eq_true rfl) dX7_below_25 hcl hsl ?_
    refine lv_lload hx hb dX7_below_28 (lv_at hl 0 rfl) ?_
    refine lv_ladd hx hb dX7_below_30 ?_
    obtain rfl := gn_some h
    exact W.lret hx hb hr (fun t ht _ => ⟨rfl, ht⟩) (fun _ hq => by cases hq) dX7_below_31 hlk
  · have h := gn_f h c1
    refine lv_lconst (v := (0 : Int64)) hx hb dX7_below_7 (by decide) ?_
    obtain rfl := gn_some h
    exact W.lret hx hb hr (fun t ht _ => ⟨rfl, ht⟩) (fun _ hq => by cases hq) dX7_below_8 hlk
def rm_X7_isTriangle : Room := { frames := 1, cells := 0, slots := 0, locals := 25 }
section
variable {p : Program} {l : Launch} {e : Env} {s : State} {m : MethodId} {args : Array Value} {below : List Frame} {meth : Method} {c : Code} {z : Nat}
end
set_option maxRecDepth 100000 in
theorem c_X7_isTriangle (l : Launch) (z : Nat) (a0 : Int32) (a1 : Int32) (a2 : Int32) (r : Int32) (h : F_X7_isTriangle z a0 a1 a2 = some r) : Met l yX7_isTriangle wsX7_isTriangle rm_X7_isTriangle (qA [.int a0, .int a1, .int a2]) (qP (.int r)) 0 0 (fun _ => False) := by
  refine Met.ofW (cc := cX7_isTriangle) (maxL := 3) (ret := (some .boolean)) (by decide) rfl ?_
  intro p e s m args below meth c s₁ B hml hv
  obtain ⟨rfl, hN⟩ := hv
  have hx := B.exec
  have hb := B.bytes
  have hr := B.returns
  have hts := atoms_spec (ws := wsX7_isTriangle) B.pre
  have hown : s.vm.findClass RX7 = some m.cls := findClass_of_methodNamed B.named
  have hlk := B.notSynchronized
  have hcl : 0 ≤ (rm_X7_isTriangle).cells := Nat.zero_le _
  have hsl : 0 ≤ (rm_X7_isTriangle).slots := Nat.zero_le _
  have Cc : Cx p s m _ meth c cX7_isTriangle 3 RX7 wsX7_isTriangle (some .boolean) := ⟨hx, hb, hml, hown, hts, hr, hlk, hN⟩
  have hl := lv_entry ([.int a0, .int a1, .int a2]) (n := 3) (Nat.le_of_ble_eq_true rfl)
  rw [lg_entry_eq]
  generalize (lg_sl ([.int a0, .int a1, .int a2]) ++ List.replicate (3 - (lg_sl ([.int a0, .int a1, .int a2])).length) Slot.unset).toArray = ls at hl ⊢
  have hl : lv_has ls 3 [(0, .int a0), (1, .int a1), (2, .int a2)] := hl
  rw [F_X7_isTriangle] at h
  refine lv_iload_n hx hb dX7_isTriangle_0 rfl (lv_at hl 0 rfl) ?_
  refine lv_i2l hx hb dX7_isTriangle_1 rfl ?_
  refine lv_lconst (v := (1 : Int64)) hx hb dX7_isTriangle_2 (by decide) ?_
  refine lv_ldc2 hx hb hown (hts (.constantLong RX7 118 (1000000)) (by decide +kernel)) dX7_isTriangle_3 ?_
  obtain ⟨r1, qr1, h⟩ := gn_bd h
  refine pc_S (rest := []) ⟨hx, hb, hml, hown, hts⟩ hN (c_X7_isIn l z _ _ _ r1 qr1) (va_cwS 3 hts gX7_isTriangle_X7_isIn rfl rfl rfl (by decide +kernel) ⟨(Nat.le_of_ble_eq_true rfl), (Nat.le_of_ble_eq_true rfl)⟩) rfl hl.1 rfl (Nat.le_of_ble_eq_true rfl) dX7_isTriangle_6 hcl hsl ?_
  refine lv_if_eq (tgt := 40) hx hb dX7_isTriangle_9 (by decide) (fun c2 => ?_) (fun c2 => ?_)
  · have h := gn_t h c2
    refine lv_iconst (v := (0 : Int32)) hx hb dX7_isTriangle_40 (by decide) ?_
    obtain rfl := gn_some h
    exact W.zret (ty := .boolean) hx hb hr rfl (fun t ht _ => ⟨rfl, ht⟩) (fun _ hq => by cases hq) dX7_isTriangle_41 hlk
  · have h := gn_f h c2
    refine lv_iload_n hx hb dX7_isTriangle_12 rfl (lv_at hl 1 rfl) ?_
    refine lv_i2l hx hb dX7_isTriangle_13 rfl ?_
    refine lv_lconst (v := (1 : Int64)) hx hb dX7_isTriangle_14 (by decide) ?_
    refine lv_ldc2 hx hb hown (hts (.constantLong RX7 118 (1000000)) (by decide +kernel)) dX7_isTriangle_15 ?_
    obtain ⟨r3, qr3, h⟩ := gn_bd h
    refine pc_S (rest := []) ⟨hx, hb, hml, hown, hts⟩ hN (c_X7_isIn l z _ _ _ r3 qr3) (va_cwS 3 hts gX7_isTriangle_X7_isIn rfl rfl rfl (by decide +kernel) ⟨(Nat.le_of_ble_eq_true rfl), (Nat.le_of_ble_eq_true rfl)⟩) rfl hl.1 rfl (Nat.le_of_ble_eq_true rfl) dX7_isTriangle_18 hcl hsl ?_
    refine lv_if_eq (tgt := 40) hx hb dX7_isTriangle_21 (by decide) (fun c4 => ?_) (fun c4 => ?_)
    · have h := gn_t h c4
      refine lv_iconst (v := (0 : Int32)) hx hb dX7_isTriangle_40 (by decide) ?_
      obtain rfl := gn_some h
      exact W.zret (ty := .boolean) hx hb hr rfl (fun t ht _ => ⟨rfl, ht⟩) (fun _ hq => by cases hq) dX7_isTriangle_41 hlk
    · have h := gn_f h c4
      refine lv_iload_n hx hb dX7_isTriangle_24 rfl (lv_at hl 2 rfl) ?_
      refine lv_i2l hx hb dX7_isTriangle_25 rfl ?_
      refine lv_lconst (v := (0 : Int64)) hx hb dX7_isTriangle_26 (by decide) ?_
      refine lv_ldc2 hx hb hown (hts (.constantLong RX7 70 (1000000000)) (by decide +kernel)) dX7_isTriangle_27 ?_
      obtain ⟨r5, qr5, h⟩ := gn_bd h
      refine pc_S (rest := []) ⟨hx, hb, hml, hown, hts⟩ hN (c_X7_isIn l z _ _ _ r5 qr5) (va_cwS 3 hts gX7_isTriangle_X7_isIn rfl rfl rfl (by decide +kernel) ⟨(Nat.le_of_ble_eq_true rfl), (Nat.le_of_ble_eq_true rfl)⟩) rfl hl.1 rfl (Nat.le_of_ble_eq_true rfl) dX7_isTriangle_30 hcl hsl ?_
      refine lv_if_eq (tgt := 40) hx hb dX7_isTriangle_33 (by decide) (fun c6 => ?_) (fun c6 => ?_)
      · have h := gn_t h c6
        refine lv_iconst (v := (0 : Int32)) hx hb dX7_isTriangle_40 (by decide) ?_
        obtain rfl := gn_some h
        exact W.zret (ty := .boolean) hx hb hr rfl (fun t ht _ => ⟨rfl, ht⟩) (fun _ hq => by cases hq) dX7_isTriangle_41 hlk
      · have h := gn_f h c6
        refine lv_iconst (v := (1 : Int32)) hx hb dX7_isTriangle_36 (by decide) ?_
        refine lv_goto (tgt := 41) hx hb dX7_isTriangle_37 (by decide) ?_
        obtain rfl := gn_some h
        exact W.zret (ty := .boolean) hx hb hr rfl (fun t ht _ => ⟨rfl, ht⟩) (fun _ hq => by cases hq) dX7_isTriangle_41 hlk
def rm_X7_isEntry : Room := { frames := 1, cells := 0, slots := 0, locals := 25 }
section
variable {p : Program} {l : Launch} {e : Env} {s : State} {m : MethodId} {args : Array Value} {below : List Frame} {meth : Method} {c : Code} {z : Nat}
end
set_option maxRecDepth 100000 in
theorem c_X7_isEntry (l : Launch) (z : Nat) (a0 : Int64) (r : Int32) (h : F_X7_isEntry z a0 = some r) : Met l yX7_isEntry wsX7_isEntry rm_X7_isEntry (qA [.long a0]) (qP (.int r)) 0 0 (fun _ => False) := by
  refine Met.ofW (cc := cX7_isEntry) (maxL := 2) (ret := (some .boolean)) (by decide) rfl ?_
  intro p e s m args below meth c s₁ B hml hv
  obtain ⟨rfl, hN⟩ := hv
  have hx := B.exec
  have hb := B.bytes
  have hr := B.returns
  have hts := atoms_spec (ws := wsX7_isEntry) B.pre
  have hown : s.vm.findClass RX7 = some m.cls := findClass_of_methodNamed B.named
  have hlk := B.notSynchronized
  have hcl : 0 ≤ (rm_X7_isEntry).cells := Nat.zero_le _
  have hsl : 0 ≤ (rm_X7_isEntry).slots := Nat.zero_le _
  have Cc : Cx p s m _ meth c cX7_isEntry 2 RX7 wsX7_isEntry (some .boolean) := ⟨hx, hb, hml, hown, hts, hr, hlk, hN⟩
  have hl := lv_entry ([.long a0]) (n := 2) (Nat.le_of_ble_eq_true rfl)
  rw [lg_entry_eq]
  generalize (lg_sl ([.long a0]) ++ List.replicate (2 - (lg_sl ([.long a0])).length) Slot.unset).toArray = ls at hl ⊢
  have hl : lv_has ls 2 [(0, .long a0)] := hl
  rw [F_X7_isEntry] at h
  refine lv_lload_n hx hb dX7_isEntry_0 rfl (lv_at hl 0 rfl) ?_
  refine lv_ldc2 hx hb hown (hts (.constantLong RX7 68 (-1000000000)) (by decide +kernel)) dX7_isEntry_1 ?_
  refine lv_ldc2 hx hb hown (hts (.constantLong RX7 70 (1000000000)) (by decide +kernel)) dX7_isEntry_4 ?_
  obtain ⟨r1, qr1, h⟩ := gn_bd h
  refine pc_S (rest := []) ⟨hx, hb, hml, hown, hts⟩ hN (c_X7_isIn l z _ _ _ r1 qr1) (va_cwS 3 hts gX7_isEntry_X7_isIn rfl rfl rfl (by decide +kernel) ⟨(Nat.le_of_ble_eq_true rfl), (Nat.le_of_ble_eq_true rfl)⟩) rfl hl.1 rfl (Nat.le_of_ble_eq_true rfl) dX7_isEntry_7 hcl hsl ?_
  obtain ⟨n2, h⟩ := gn_yz h
  obtain rfl := gn_some h
  exact W.zret (ty := .boolean) hx hb hr (nb_ok n2) (fun t ht _ => ⟨rfl, ht⟩) (fun _ hq => by cases hq) dX7_isEntry_10 hlk
def rm_X7_isMatrix : Room := { frames := 2, cells := 0, slots := 0, locals := 46 }
section
variable {p : Program} {l : Launch} {e : Env} {s : State} {m : MethodId} {args : Array Value} {below : List Frame} {meth : Method} {c : Code} {z : Nat}
end
set_option maxRecDepth 100000 in
theorem c_X7_isMatrix (l : Launch) (z : Nat) (a0 : Int32) (a1 : Int32) (a2 : Int32) (a3 : Int32) (r : Int32) (h : F_X7_isMatrix z a0 a1 a2 a3 = some r) : Met l yX7_isMatrix wsX7_isMatrix rm_X7_isMatrix (qA [.int a0, .int a1, .int a2, .int a3]) (qP (.int r)) 0 0 (fun _ => False) := by
  refine Met.ofW (cc := cX7_isMatrix) (maxL := 4) (ret := (some .boolean)) (by decide) rfl ?_
  intro p e s m args below meth c s₁ B hml hv
  obtain ⟨rfl, hN⟩ := hv
  have hx := B.exec
  have hb := B.bytes
  have hr := B.returns
  have hts := atoms_spec (ws := wsX7_isMatrix) B.pre
  have hown : s.vm.findClass RX7 = some m.cls := findClass_of_methodNamed B.named
  have hlk := B.notSynchronized
  have hcl : 0 ≤ (rm_X7_isMatrix).cells := Nat.zero_le _
  have hsl : 0 ≤ (rm_X7_isMatrix).slots := Nat.zero_le _
  have Cc : Cx p s m _ meth c cX7_isMatrix 4 RX7 wsX7_isMatrix (some .boolean) := ⟨hx, hb, hml, hown, hts, hr, hlk, hN⟩
  have hl := lv_entry ([.int a0, .int a1, .int a2, .int a3]) (n := 4) (Nat.le_of_ble_eq_true rfl)
  rw [lg_entry_eq]
  generalize (lg_sl ([.int a0, .int a1, .int a2, .int a3]) ++ List.replicate (4 - (lg_sl ([.int a0, .int a1, .int a2, .int a3])).length) Slot.unset).toArray = ls at hl ⊢
  have hl : lv_has ls 4 [(0, .int a0), (1, .int a1), (2, .int a2), (3, .int a3)] := hl
  rw [F_X7_isMatrix] at h
  refine lv_iload_n hx hb dX7_isMatrix_0 rfl (lv_at hl 0 rfl) ?_
  refine lv_i2l hx hb dX7_isMatrix_1 rfl ?_
  obtain ⟨r1, qr1, h⟩ := gn_bd h
  refine pc_S (rest := []) ⟨hx, hb, hml, hown, hts⟩ hN (c_X7_isEntry l z _ r1 qr1) (va_cwS 1 hts gX7_isMatrix_X7_isEntry rfl rfl rfl (by decide +kernel) ⟨(Nat.le_of_ble_eq_true rfl), (Nat.le_of_ble_eq_true rfl)⟩) rfl hl.1 rfl (Nat.le_of_ble_eq_true rfl) dX7_isMatrix_2 hcl hsl ?_
  refine lv_if_eq (tgt := 52) hx hb dX7_isMatrix_5 (by decide) (fun c2 => ?_) (fun c2 => ?_)
  · have h := gn_t h c2
    refine lv_iconst (v := (0 : Int32)) hx hb dX7_isMatrix_52 (by decide) ?_
    obtain rfl := gn_some h
    exact W.zret (ty := .boolean) hx hb hr rfl (fun t ht _ => ⟨rfl, ht⟩) (fun _ hq => by cases hq) dX7_isMatrix_53 hlk
  · have h := gn_f h c2
    refine lv_iload_n hx hb dX7_isMatrix_8 rfl (lv_at hl 1 rfl) ?_
    refine lv_i2l hx hb dX7_isMatrix_9 rfl ?_
    obtain ⟨r3, qr3, h⟩ := gn_bd h
    refine pc_S (rest := []) ⟨hx, hb, hml, hown, hts⟩ hN (c_X7_isEntry l z _ r3 qr3) (va_cwS 1 hts gX7_isMatrix_X7_isEntry rfl rfl rfl (by decide +kernel) ⟨(Nat.le_of_ble_eq_true rfl), (Nat.le_of_ble_eq_true rfl)⟩) rfl hl.1 rfl (Nat.le_of_ble_eq_true rfl) dX7_isMatrix_10 hcl hsl ?_
    refine lv_if_eq (tgt := 52) hx hb dX7_isMatrix_13 (by decide) (fun c4 => ?_) (fun c4 => ?_)
    · have h := gn_t h c4
      refine lv_iconst (v := (0 : Int32)) hx hb dX7_isMatrix_52 (by decide) ?_
      obtain rfl := gn_some h
      exact W.zret (ty := .boolean) hx hb hr rfl (fun t ht _ => ⟨rfl, ht⟩) (fun _ hq => by cases hq) dX7_isMatrix_53 hlk
    · have h := gn_f h c4
      refine lv_iload_n hx hb dX7_isMatrix_16 rfl (lv_at hl 2 rfl) ?_
      refine lv_i2l hx hb dX7_isMatrix_17 rfl ?_
      obtain ⟨r5, qr5, h⟩ := gn_bd h
      refine pc_S (rest := []) ⟨hx, hb, hml, hown, hts⟩ hN (c_X7_isEntry l z _ r5 qr5) (va_cwS 1 hts gX7_isMatrix_X7_isEntry rfl rfl rfl (by decide +kernel) ⟨(Nat.le_of_ble_eq_true rfl), (Nat.le_of_ble_eq_true rfl)⟩) rfl hl.1 rfl (Nat.le_of_ble_eq_true rfl) dX7_isMatrix_18 hcl hsl ?_
      refine lv_if_eq (tgt := 52) hx hb dX7_isMatrix_21 (by decide) (fun c6 => ?_) (fun c6 => ?_)
      · have h := gn_t h c6
        refine lv_iconst (v := (0 : Int32)) hx hb dX7_isMatrix_52 (by decide) ?_
        obtain rfl := gn_some h
        exact W.zret (ty := .boolean) hx hb hr rfl (fun t ht _ => ⟨rfl, ht⟩) (fun _ hq => by cases hq) dX7_isMatrix_53 hlk
      · have h := gn_f h c6
        refine lv_iload_n hx hb dX7_isMatrix_24 rfl (lv_at hl 3 rfl) ?_
        refine lv_i2l hx hb dX7_isMatrix_25 rfl ?_
        obtain ⟨r7, qr7, h⟩ := gn_bd h
        refine pc_S (rest := []) ⟨hx, hb, hml, hown, hts⟩ hN (c_X7_isEntry l z _ r7 qr7) (va_cwS 1 hts gX7_isMatrix_X7_isEntry rfl rfl rfl (by decide +kernel) ⟨(Nat.le_of_ble_eq_true rfl), (Nat.le_of_ble_eq_true rfl)⟩) rfl hl.1 rfl (Nat.le_of_ble_eq_true rfl) dX7_isMatrix_26 hcl hsl ?_
        refine lv_if_eq (tgt := 52) hx hb dX7_isMatrix_29 (by decide) (fun c8 => ?_) (fun c8 => ?_)
        · have h := gn_t h c8
          refine lv_iconst (v := (0 : Int32)) hx hb dX7_isMatrix_52 (by decide) ?_
          obtain rfl := gn_some h
          exact W.zret (ty := .boolean) hx hb hr rfl (fun t ht _ => ⟨rfl, ht⟩) (fun _ hq => by cases hq) dX7_isMatrix_53 hlk
        · have h := gn_f h c8
          refine lv_iload_n hx hb dX7_isMatrix_32 rfl (lv_at hl 0 rfl) ?_
          refine lv_i2l hx hb dX7_isMatrix_33 rfl ?_
          refine lv_iload_n hx hb dX7_isMatrix_34 rfl (lv_at hl 3 rfl) ?_
          refine lv_i2l hx hb dX7_isMatrix_35 rfl ?_
          refine lv_lmul hx hb dX7_isMatrix_36 ?_
          refine lv_iload_n hx hb dX7_isMatrix_37 rfl (lv_at hl 1 rfl) ?_
          refine lv_i2l hx hb dX7_isMatrix_38 rfl ?_
          refine lv_iload_n hx hb dX7_isMatrix_39 rfl (lv_at hl 2 rfl) ?_
          refine lv_i2l hx hb dX7_isMatrix_40 rfl ?_
          refine lv_lmul hx hb dX7_isMatrix_41 ?_
          refine lv_lsub hx hb dX7_isMatrix_42 ?_
          refine lv_lconst (v := (1 : Int64)) hx hb dX7_isMatrix_43 (by decide) ?_
          refine ll_ne (tgt := 52) hx hb dX7_isMatrix_44 dX7_isMatrix_45 (by decide) (fun c9 => ?_) (fun c9 => ?_)
          · have h := gn_f h c9
            refine lv_iconst (v := (0 : Int32)) hx hb dX7_isMatrix_52 (by decide) ?_
            obtain rfl := gn_some h
            exact W.zret (ty := .boolean) hx hb hr rfl (fun t ht _ => ⟨rfl, ht⟩) (fun _ hq => by cases hq) dX7_isMatrix_53 hlk
          · have h := gn_t h c9
            refine lv_iconst (v := (1 : Int32)) hx hb dX7_isMatrix_48 (by decide) ?_
            refine lv_goto (tgt := 53) hx hb dX7_isMatrix_49 (by decide) ?_
            obtain rfl := gn_some h
            exact W.zret (ty := .boolean) hx hb hr rfl (fun t ht _ => ⟨rfl, ht⟩) (fun _ hq => by cases hq) dX7_isMatrix_53 hlk
def rm_X7_signOf : Room := { frames := 0, cells := 0, slots := 0, locals := 0 }
section
variable {p : Program} {l : Launch} {e : Env} {s : State} {m : MethodId} {args : Array Value} {below : List Frame} {meth : Method} {c : Code} {z : Nat}
end
set_option maxRecDepth 100000 in
theorem c_X7_signOf (l : Launch) (z : Nat) (a0 : Int64) (r : Int64) (h : F_X7_signOf z a0 = some r) : Met l yX7_signOf wsX7_signOf rm_X7_signOf (qA [.long a0]) (qP (.long r)) 0 0 (fun _ => False) := by
  refine Met.ofW (cc := cX7_signOf) (maxL := 2) (ret := (some .long)) (by decide) rfl ?_
  intro p e s m args below meth c s₁ B hml hv
  obtain ⟨rfl, hN⟩ := hv
  have hx := B.exec
  have hb := B.bytes
  have hr := B.returns
  have hts := atoms_spec (ws := wsX7_signOf) B.pre
  have hown : s.vm.findClass RX7 = some m.cls := findClass_of_methodNamed B.named
  have hlk := B.notSynchronized
  have hcl : 0 ≤ (rm_X7_signOf).cells := Nat.zero_le _
  have hsl : 0 ≤ (rm_X7_signOf).slots := Nat.zero_le _
  have Cc : Cx p s m _ meth c cX7_signOf 2 RX7 wsX7_signOf (some .long) := ⟨hx, hb, hml, hown, hts, hr, hlk, hN⟩
  have hl := lv_entry ([.long a0]) (n := 2) (Nat.le_of_ble_eq_true rfl)
  rw [lg_entry_eq]
  generalize (lg_sl ([.long a0]) ++ List.replicate (2 - (lg_sl ([.long a0])).length) Slot.unset).toArray = ls at hl ⊢
  have hl : lv_has ls 2 [(0, .long a0)] := hl
  rw [F_X7_signOf] at h
  refine lv_lload_n hx hb dX7_signOf_0 rfl (lv_at hl 0 rfl) ?_
  refine lv_lconst (v := (0 : Int64)) hx hb dX7_signOf_1 (by decide) ?_
  refine ll_le (tgt := 10) hx hb dX7_signOf_2 dX7_signOf_3 (by decide) (fun c1 => ?_) (fun c1 => ?_)
  · have h := gn_t h c1
    refine lv_lload_n hx hb dX7_signOf_10 rfl (lv_at hl 0 rfl) ?_
    refine lv_lconst (v := (0 : Int64)) hx hb dX7_signOf_11 (by decide) ?_
    refine ll_ge (tgt := 22) hx hb dX7_signOf_12 dX7_signOf_13 (by decide) (fun c2 => ?_) (fun c2 => ?_)
    · have h := gn_t h c2
      refine lv_lconst (v := (0 : Int64)) hx hb dX7_signOf_22 (by decide) ?_
      obtain rfl := gn_some h
      exact W.lret hx hb hr (fun t ht _ => ⟨rfl, ht⟩) (fun _ hq => by cases hq) dX7_signOf_23 hlk
    · have h := gn_f h c2
      refine lv_ldc2 hx hb hown (hts (.constantLong RX7 154 (-1)) (by decide +kernel)) dX7_signOf_16 ?_
      refine lv_goto (tgt := 23) hx hb dX7_signOf_19 (by decide) ?_
      obtain rfl := gn_some h
      exact W.lret hx hb hr (fun t ht _ => ⟨rfl, ht⟩) (fun _ hq => by cases hq) dX7_signOf_23 hlk
  · have h := gn_f h c1
    refine lv_lconst (v := (1 : Int64)) hx hb dX7_signOf_6 (by decide) ?_
    refine lv_goto (tgt := 23) hx hb dX7_signOf_7 (by decide) ?_
    obtain rfl := gn_some h
    exact W.lret hx hb hr (fun t ht _ => ⟨rfl, ht⟩) (fun _ hq => by cases hq) dX7_signOf_23 hlk
def rm_X7_isRing : Room := { frames := 2, cells := 0, slots := 0, locals := 50 }
section
variable {p : Program} {l : Launch} {e : Env} {s : State} {m : MethodId} {args : Array Value} {below : List Frame} {meth : Method} {c : Code} {z : Nat}
end
set_option maxRecDepth 100000 in
theorem c_X7_isRing (l : Launch) (z : Nat) (a0 : Int32) (a1 : Int32) (r : Int32) (h : F_X7_isRing z a0 a1 = some r) : Met l yX7_isRing wsX7_isRing rm_X7_isRing (qA [.int a0, .int a1]) (qP (.int r)) 0 0 (fun _ => False) := by
  refine Met.ofW (cc := cX7_isRing) (maxL := 2) (ret := (some .boolean)) (by decide) rfl ?_
  intro p e s m args below meth c s₁ B hml hv
  obtain ⟨rfl, hN⟩ := hv
  have hx := B.exec
  have hb := B.bytes
  have hr := B.returns
  have hts := atoms_spec (ws := wsX7_isRing) B.pre
  have hown : s.vm.findClass RX7 = some m.cls := findClass_of_methodNamed B.named
  have hlk := B.notSynchronized
  have hcl : 0 ≤ (rm_X7_isRing).cells := Nat.zero_le _
  have hsl : 0 ≤ (rm_X7_isRing).slots := Nat.zero_le _
  have Cc : Cx p s m _ meth c cX7_isRing 2 RX7 wsX7_isRing (some .boolean) := ⟨hx, hb, hml, hown, hts, hr, hlk, hN⟩
  have hl := lv_entry ([.int a0, .int a1]) (n := 2) (Nat.le_of_ble_eq_true rfl)
  rw [lg_entry_eq]
  generalize (lg_sl ([.int a0, .int a1]) ++ List.replicate (2 - (lg_sl ([.int a0, .int a1])).length) Slot.unset).toArray = ls at hl ⊢
  have hl : lv_has ls 2 [(0, .int a0), (1, .int a1)] := hl
  rw [F_X7_isRing] at h
  refine lv_iload_n hx hb dX7_isRing_0 rfl (lv_at hl 0 rfl) ?_
  refine lv_i2l hx hb dX7_isRing_1 rfl ?_
  refine lv_ldc2 hx hb hown (hts (.constantLong RX7 85 (2)) (by decide +kernel)) dX7_isRing_2 ?_
  refine lv_ldc2 hx hb hown (hts (.constantLong RX7 95 (1000)) (by decide +kernel)) dX7_isRing_5 ?_
  obtain ⟨r1, qr1, h⟩ := gn_bd h
  refine pc_S (rest := []) ⟨hx, hb, hml, hown, hts⟩ hN (c_X7_isIn l z _ _ _ r1 qr1) (va_cwS 3 hts gX7_isRing_X7_isIn rfl rfl rfl (by decide +kernel) ⟨(Nat.le_of_ble_eq_true rfl), (Nat.le_of_ble_eq_true rfl)⟩) rfl hl.1 rfl (Nat.le_of_ble_eq_true rfl) dX7_isRing_8 hcl hsl ?_
  refine lv_if_eq (tgt := 30) hx hb dX7_isRing_11 (by decide) (fun c2 => ?_) (fun c2 => ?_)
  · have h := gn_t h c2
    refine lv_iconst (v := (0 : Int32)) hx hb dX7_isRing_30 (by decide) ?_
    obtain rfl := gn_some h
    exact W.zret (ty := .boolean) hx hb hr rfl (fun t ht _ => ⟨rfl, ht⟩) (fun _ hq => by cases hq) dX7_isRing_31 hlk
  · have h := gn_f h c2
    refine lv_iload_n hx hb dX7_isRing_14 rfl (lv_at hl 0 rfl) ?_
    refine lv_i2l hx hb dX7_isRing_15 rfl ?_
    refine lv_iload_n hx hb dX7_isRing_16 rfl (lv_at hl 1 rfl) ?_
    refine lv_i2l hx hb dX7_isRing_17 rfl ?_
    obtain ⟨r3, qr3, h⟩ := gn_bd h
    refine pc_S (rest := []) ⟨hx, hb, hml, hown, hts⟩ hN (c_X7_common l z _ _ r3 qr3) (va_cwS 2 hts gX7_isRing_X7_common rfl rfl rfl (by decide +kernel) ⟨(Nat.le_of_ble_eq_true rfl), (Nat.le_of_ble_eq_true rfl)⟩) rfl hl.1 rfl (Nat.le_of_ble_eq_true rfl) dX7_isRing_18 hcl hsl ?_
    refine lv_lconst (v := (1 : Int64)) hx hb dX7_isRing_21 (by decide) ?_
    refine ll_ne (tgt := 30) hx hb dX7_isRing_22 dX7_isRing_23 (by decide) (fun c4 => ?_) (fun c4 => ?_)
    · have h := gn_f h c4
      refine lv_iconst (v := (0 : Int32)) hx hb dX7_isRing_30 (by decide) ?_
      obtain rfl := gn_some h
      exact W.zret (ty := .boolean) hx hb hr rfl (fun t ht _ => ⟨rfl, ht⟩) (fun _ hq => by cases hq) dX7_isRing_31 hlk
    · have h := gn_t h c4
      refine lv_iconst (v := (1 : Int32)) hx hb dX7_isRing_26 (by decide) ?_
      refine lv_goto (tgt := 31) hx hb dX7_isRing_27 (by decide) ?_
      obtain rfl := gn_some h
      exact W.zret (ty := .boolean) hx hb hr rfl (fun t ht _ => ⟨rfl, ht⟩) (fun _ hq => by cases hq) dX7_isRing_31 hlk
def rm_X7_areSame : Room := { frames := 0, cells := 0, slots := 0, locals := 0 }
section
variable {p : Program} {l : Launch} {e : Env} {s : State} {m : MethodId} {args : Array Value} {below : List Frame} {meth : Method} {c : Code} {z : Nat}
end
set_option maxRecDepth 100000 in
theorem c_X7_areSame (l : Launch) (z : Nat) (a0 : Int64) (a1 : Int64) (a2 : Int64) (r : Int32) (h : F_X7_areSame z a0 a1 a2 = some r) : Met l yX7_areSame wsX7_areSame rm_X7_areSame (qA [.long a0, .long a1, .long a2]) (qP (.int r)) 0 0 (fun _ => False) := by
  refine Met.ofW (cc := cX7_areSame) (maxL := 6) (ret := (some .boolean)) (by decide) rfl ?_
  intro p e s m args below meth c s₁ B hml hv
  obtain ⟨rfl, hN⟩ := hv
  have hx := B.exec
  have hb := B.bytes
  have hr := B.returns
  have hts := atoms_spec (ws := wsX7_areSame) B.pre
  have hown : s.vm.findClass RX7 = some m.cls := findClass_of_methodNamed B.named
  have hlk := B.notSynchronized
  have hcl : 0 ≤ (rm_X7_areSame).cells := Nat.zero_le _
  have hsl : 0 ≤ (rm_X7_areSame).slots := Nat.zero_le _
  have Cc : Cx p s m _ meth c cX7_areSame 6 RX7 wsX7_areSame (some .boolean) := ⟨hx, hb, hml, hown, hts, hr, hlk, hN⟩
  have hl := lv_entry ([.long a0, .long a1, .long a2]) (n := 6) (Nat.le_of_ble_eq_true rfl)
  rw [lg_entry_eq]
  generalize (lg_sl ([.long a0, .long a1, .long a2]) ++ List.replicate (6 - (lg_sl ([.long a0, .long a1, .long a2])).length) Slot.unset).toArray = ls at hl ⊢
  have hl : lv_has ls 6 [(0, .long a0), (2, .long a1), (4, .long a2)] := hl
  rw [F_X7_areSame] at h
  refine lv_lload_n hx hb dX7_areSame_0 rfl (lv_at hl 1 rfl) ?_
  refine lv_lload hx hb dX7_areSame_1 (lv_at hl 2 rfl) ?_
  refine ll_eq (tgt := 18) hx hb dX7_areSame_3 dX7_areSame_4 (by decide) (fun c1 => ?_) (fun c1 => ?_)
  · have h := gn_t h c1
    refine lv_iconst (v := (1 : Int32)) hx hb dX7_areSame_18 (by decide) ?_
    refine lv_goto (tgt := 23) hx hb dX7_areSame_19 (by decide) ?_
    obtain rfl := gn_some h
    exact W.zret (ty := .boolean) hx hb hr rfl (fun t ht _ => ⟨rfl, ht⟩) (fun _ hq => by cases hq) dX7_areSame_23 hlk
  · have h := gn_f h c1
    refine lv_lload_n hx hb dX7_areSame_7 rfl (lv_at hl 1 rfl) ?_
    refine lv_lload hx hb dX7_areSame_8 (lv_at hl 2 rfl) ?_
    refine lv_lmul hx hb dX7_areSame_10 ?_
    refine lv_lload_n hx hb dX7_areSame_11 rfl (lv_at hl 0 rfl) ?_
    obtain ⟨n2, h⟩ := gn_nz h
    refine lv_lrem hx hb dX7_areSame_12 n2 ?_
    refine lv_lconst (v := (1 : Int64)) hx hb dX7_areSame_13 (by decide) ?_
    refine ll_ne (tgt := 22) hx hb dX7_areSame_14 dX7_areSame_15 (by decide) (fun c3 => ?_) (fun c3 => ?_)
    · have h := gn_f h c3
      refine lv_iconst (v := (0 : Int32)) hx hb dX7_areSame_22 (by decide) ?_
      obtain rfl := gn_some h
      exact W.zret (ty := .boolean) hx hb hr rfl (fun t ht _ => ⟨rfl, ht⟩) (fun _ hq => by cases hq) dX7_areSame_23 hlk
    · have h := gn_t h c3
      refine lv_iconst (v := (1 : Int32)) hx hb dX7_areSame_18 (by decide) ?_
      refine lv_goto (tgt := 23) hx hb dX7_areSame_19 (by decide) ?_
      obtain rfl := gn_some h
      exact W.zret (ty := .boolean) hx hb hr rfl (fun t ht _ => ⟨rfl, ht⟩) (fun _ hq => by cases hq) dX7_areSame_23 hlk
def rm_X7_ringOf : Room := { frames := 2, cells := 0, slots := 0, locals := 48 }
section
variable {p : Program} {l : Launch} {e : Env} {s : State} {m : MethodId} {args : Array Value} {below : List Frame} {meth : Method} {c : Code} {z : Nat}
set_option maxRecDepth 100000 in
theorem w_X7_ringOf_50 (Cc : Cx p s m args meth c cX7_ringOf 8 RX7 wsX7_ringOf (some .int)) {r : Int32} : ∀ (x0 : Int32) (x4 : Int64) (t0 : Int64), G_X7_ringOf_50 z x0 x4 t0 = some r → ∀ ls, lv_has ls 8 [(0, .int x0), (4, .long x4)] → W p l e rm_X7_ringOf s m args below meth c s.heap [] 0 0 (MQ below (qP (.int r)) args s 0 0 (fun _ => False)) (F0 m 50 ls [.long t0]) := by
  obtain ⟨hx, hb, hml, hown, hts, hr, hlk, hN⟩ := id Cc
  have hcl : 0 ≤ (rm_X7_ringOf).cells := Nat.zero_le _
  have hsl : 0 ≤ (rm_X7_ringOf).slots := Nat.zero_le _
  intro x0 x4 t0 h ls hl
  rw [G_X7_ringOf_50] at h
  refine lv_lstore (lv' := [(6, .long t0), (0, .int x0), (4, .long x4)]) hx hb dX7_ringOf_50 hl (by decide) rfl (fun ls hl => ?_)
  refine lv_iload_n hx hb dX7_ringOf_52 rfl (lv_at hl 1 rfl) ?_
  refine lv_i2l hx hb dX7_ringOf_53 rfl ?_
  refine lv_lload hx hb dX7_ringOf_54 (lv_at hl 2 rfl) ?_
  refine lv_lsub hx hb dX7_ringOf_56 ?_
  refine lv_lload hx hb dX7_ringOf_57 (lv_at hl 0 rfl) ?_
  refine ll_ge (tgt := 71) hx hb dX7_ringOf_59 dX7_ringOf_60 (by decide) (fun c1 => ?_) (fun c1 => ?_)
  · have h := gn_t h c1
    refine lv_lload hx hb dX7_ringOf_71 (lv_at hl 0 rfl) ?_
    refine lv_l2i hx hb dX7_ringOf_73 rfl ?_
    obtain rfl := gn_some h
    exact W.iret hx hb hr (fun t ht _ => ⟨rfl, ht⟩) (fun _ hq => by cases hq) dX7_ringOf_74 hlk
  · have h := gn_f h c1
    refine lv_iload_n hx hb dX7_ringOf_63 rfl (lv_at hl 1 rfl) ?_
    refine lv_i2l hx hb dX7_ringOf_64 rfl ?_
    refine lv_lload hx hb dX7_ringOf_65 (lv_at hl 2 rfl) ?_
    refine lv_lsub hx hb dX7_ringOf_67 ?_
    refine lv_goto (tgt := 73) hx hb dX7_ringOf_68 (by decide) ?_
    refine lv_l2i hx hb dX7_ringOf_73 rfl ?_
    obtain rfl := gn_some h
    exact W.iret hx hb hr (fun t ht _ => ⟨rfl, ht⟩) (fun _ hq => by cases hq) dX7_ringOf_74 hlk
set_option maxRecDepth 100000 in
theorem w_X7_ringOf_29 (Cc : Cx p s m args meth c cX7_ringOf 8 RX7 wsX7_ringOf (some .int)) {r : Int32} : ∀ (x0 : Int32) (x2 : Int64) (x4 : Int64) (t0 : Int64), G_X7_ringOf_29 z x0 x2 x4 t0 = some r → ∀ ls, lv_has ls 8 [(0, .int x0), (2, .long x2), (4, .long x4)] → W p l e rm_X7_ringOf s m args below meth c s.heap [] 0 0 (MQ below (qP (.int r)) args s 0 0 (fun _ => False)) (F0 m 29 ls [.long t0]) := by
  obtain ⟨hx, hb, hml, hown, hts, hr, hlk, hN⟩ := id Cc
  have hcl : 0 ≤ (rm_X7_ringOf).cells := Nat.zero_le _
  have hsl : 0 ≤ (rm_X7_ringOf).slots := Nat.zero_le _
  intro x0 x2 x4 t0 h ls hl
  rw [G_X7_ringOf_29] at h
  refine lv_lstore (lv' := [(6, .long t0), (0, .int x0), (2, .long x2), (4, .long x4)]) hx hb dX7_ringOf_29 hl (by decide) rfl (fun ls hl => ?_)
  refine lv_iload_n hx hb dX7_ringOf_31 rfl (lv_at hl 1 rfl) ?_
  refine lv_i2l hx hb dX7_ringOf_32 rfl ?_
  refine lv_lload_n hx hb dX7_ringOf_33 rfl (lv_at hl 2 rfl) ?_
  refine lv_lsub hx hb dX7_ringOf_34 ?_
  refine lv_lload hx hb dX7_ringOf_35 (lv_at hl 0 rfl) ?_
  refine ll_ge (tgt := 48) hx hb dX7_ringOf_37 dX7_ringOf_38 (by decide) (fun c1 => ?_) (fun c1 => ?_)
  · have h := gn_t h c1
    refine lv_lload hx hb dX7_ringOf_48 (lv_at hl 0 rfl) ?_
    exact w_X7_ringOf_50 Cc x0 x4 t0 h ls (lv_sub hl [1, 3] rfl)
  · have h := gn_f h c1
    refine lv_iload_n hx hb dX7_ringOf_41 rfl (lv_at hl 1 rfl) ?_
    refine lv_i2l hx hb dX7_ringOf_42 rfl ?_
    refine lv_lload_n hx hb dX7_ringOf_43 rfl (lv_at hl 2 rfl) ?_
    refine lv_lsub hx hb dX7_ringOf_44 ?_
    refine lv_goto (tgt := 50) hx hb dX7_ringOf_45 (by decide) ?_
    exact w_X7_ringOf_50 Cc x0 x4 ((Int32.toInt64 x0) - x2) h ls (lv_sub hl [1, 3] rfl)
end
set_option maxRecDepth 100000 in
theorem c_X7_ringOf (l : Launch) (z : Nat) (a0 : Int32) (a1 : Int32) (r : Int32) (h : F_X7_ringOf z a0 a1 = some r) : Met l yX7_ringOf wsX7_ringOf rm_X7_ringOf (qA [.int a0, .int a1]) (qP (.int r)) 0 0 (fun _ => False) := by
  refine Met.ofW (cc := cX7_ringOf) (maxL := 8) (ret := (some .int)) (by decide) rfl ?_
  intro p e s m args below meth c s₁ B hml hv
  obtain ⟨rfl, hN⟩ := hv
  have hx := B.exec
  have hb := B.bytes
  have hr := B.returns
  have hts := atoms_spec (ws := wsX7_ringOf) B.pre
  have hown : s.vm.findClass RX7 = some m.cls := findClass_of_methodNamed B.named
  have hlk := B.notSynchronized
  have hcl : 0 ≤ (rm_X7_ringOf).cells := Nat.zero_le _
  have hsl : 0 ≤ (rm_X7_ringOf).slots := Nat.zero_le _
  have Cc : Cx p s m _ meth c cX7_ringOf 8 RX7 wsX7_ringOf (some .int) := ⟨hx, hb, hml, hown, hts, hr, hlk, hN⟩
  have hl := lv_entry ([.int a0, .int a1]) (n := 8) (Nat.le_of_ble_eq_true rfl)
  rw [lg_entry_eq]
  generalize (lg_sl ([.int a0, .int a1]) ++ List.replicate (8 - (lg_sl ([.int a0, .int a1])).length) Slot.unset).toArray = ls at hl ⊢
  have hl : lv_has ls 8 [(0, .int a0), (1, .int a1)] := hl
  rw [F_X7_ringOf] at h
  refine lv_iload_n hx hb dX7_ringOf_0 rfl (lv_at hl 1 rfl) ?_
  refine lv_i2l hx hb dX7_ringOf_1 rfl ?_
  refine lv_iload_n hx hb dX7_ringOf_2 rfl (lv_at hl 0 rfl) ?_
  refine lv_i2l hx hb dX7_ringOf_3 rfl ?_
  obtain ⟨r1, qr1, h⟩ := gn_bd h
  refine pc_S (rest := []) ⟨hx, hb, hml, hown, hts⟩ hN (c_X7_rest l z _ _ r1 qr1) (va_cwS 2 hts gX7_ringOf_X7_rest rfl rfl rfl (by decide +kernel) ⟨(Nat.le_of_ble_eq_true rfl), (Nat.le_of_ble_eq_true rfl)⟩) rfl hl.1 rfl (Nat.le_of_ble_eq_true rfl) dX7_ringOf_4 hcl hsl ?_
  refine lv_lstore_n (lv' := [(2, .long r1), (0, .int a0), (1, .int a1)]) hx hb dX7_ringOf_7 rfl hl (by decide) rfl (fun ls hl => ?_)
  refine lv_lload_n hx hb dX7_ringOf_8 rfl (lv_at hl 0 rfl) ?_
  refine lv_iload_n hx hb dX7_ringOf_9 rfl (lv_at hl 1 rfl) ?_
  refine lv_i2l hx hb dX7_ringOf_10 rfl ?_
  obtain ⟨r2, qr2, h⟩ := gn_bd h
  refine pc_S (rest := []) ⟨hx, hb, hml, hown, hts⟩ hN (c_X7_inverse l z _ _ r2 qr2) (va_cwS 2 hts gX7_ringOf_X7_inverse rfl rfl rfl (by decide +kernel) ⟨(Nat.le_of_ble_eq_true rfl), (Nat.le_of_ble_eq_true rfl)⟩) rfl hl.1 rfl (Nat.le_of_ble_eq_true rfl) dX7_ringOf_11 hcl hsl ?_
  refine lv_lstore (lv' := [(4, .long r2), (2, .long r1), (0, .int a0), (1, .int a1)]) hx hb dX7_ringOf_14 hl (by decide) rfl (fun ls hl => ?_)
  refine lv_lload_n hx hb dX7_ringOf_16 rfl (lv_at hl 1 rfl) ?_
  refine lv_lload hx hb dX7_ringOf_17 (lv_at hl 0 rfl) ?_
  refine ll_ge (tgt := 27) hx hb dX7_ringOf_19 dX7_ringOf_20 (by decide) (fun c3 => ?_) (fun c3 => ?_)
  · have h := gn_t h c3
    refine lv_lload hx hb dX7_ringOf_27 (lv_at hl 0 rfl) ?_
    exact w_X7_ringOf_29 Cc a0 r1 r2 r2 h ls (lv_sub hl [2, 1, 0] rfl)
  · have h := gn_f h c3
    refine lv_lload_n hx hb dX7_ringOf_23 rfl (lv_at hl 1 rfl) ?_
    refine lv_goto (tgt := 29) hx hb dX7_ringOf_24 (by decide) ?_
    exact w_X7_ringOf_29 Cc a0 r1 r2 r1 h ls (lv_sub hl [2, 1, 0] rfl)
def rm_X6_lies : Room := { frames := 0, cells := 0, slots := 0, locals := 0 }
section
variable {p : Program} {l : Launch} {e : Env} {s : State} {m : MethodId} {args : Array Value} {below : List Frame} {meth : Method} {c : Code} {z : Nat}
end
set_option maxRecDepth 100000 in
theorem c_X6_lies (l : Launch) (z : Nat) (a0 : Int64) (a1 : Int64) (a2 : Int64) (r : Int32) (h : F_X6_lies z a0 a1 a2 = some r) : Met l yX6_lies wsX6_lies rm_X6_lies (qA [.long a0, .long a1, .long a2]) (qP (.int r)) 0 0 (fun _ => False) := by
  refine Met.ofW (cc := cX6_lies) (maxL := 6) (ret := (some .boolean)) (by decide) rfl ?_
  intro p e s m args below meth c s₁ B hml hv
  obtain ⟨rfl, hN⟩ := hv
  have hx := B.exec
  have hb := B.bytes
  have hr := B.returns
  have hts := atoms_spec (ws := wsX6_lies) B.pre
  have hown : s.vm.findClass RX6 = some m.cls := findClass_of_methodNamed B.named
  have hlk := B.notSynchronized
  have hcl : 0 ≤ (rm_X6_lies).cells := Nat.zero_le _
  have hsl : 0 ≤ (rm_X6_lies).slots := Nat.zero_le _
  have Cc : Cx p s m _ meth c cX6_lies 6 RX6 wsX6_lies (some .boolean) := ⟨hx, hb, hml, hown, hts, hr, hlk, hN⟩
  have hl := lv_entry ([.long a0, .long a1, .long a2]) (n := 6) (Nat.le_of_ble_eq_true rfl)
  rw [lg_entry_eq]
  generalize (lg_sl ([.long a0, .long a1, .long a2]) ++ List.replicate (6 - (lg_sl ([.long a0, .long a1, .long a2])).length) Slot.unset).toArray = ls at hl ⊢
  have hl : lv_has ls 6 [(0, .long a0), (2, .long a1), (4, .long a2)] := hl
  rw [F_X6_lies] at h
  refine lv_lload_n hx hb dX6_lies_0 rfl (lv_at hl 0 rfl) ?_
  refine lv_lload_n hx hb dX6_lies_1 rfl (lv_at hl 1 rfl) ?_
  refine ll_lt (tgt := 17) hx hb dX6_lies_2 dX6_lies_3 (by decide) (fun c1 => ?_) (fun c1 => ?_)
  · have h := gn_t h c1
    refine lv_iconst (v := (0 : Int32)) hx hb dX6_lies_17 (by decide) ?_
    obtain rfl := gn_some h
    exact W.zret (ty := .boolean) hx hb hr rfl (fun t ht _ => ⟨rfl, ht⟩) (fun _ hq => by cases hq) dX6_lies_18 hlk
  · have h := gn_f h c1
    refine lv_lload_n hx hb dX6_lies_6 rfl (lv_at hl 0 rfl) ?_
    refine lv_lload hx hb dX6_lies_7 (lv_at hl 2 rfl) ?_
    refine ll_gt (tgt := 17) hx hb dX6_lies_9 dX6_lies_10 (by decide) (fun c2 => ?_) (fun c2 => ?_)
    · have h := gn_t h c2
      refine lv_iconst (v := (0 : Int32)) hx hb dX6_lies_17 (by decide) ?_
      obtain rfl := gn_some h
      exact W.zret (ty := .boolean) hx hb hr rfl (fun t ht _ => ⟨rfl, ht⟩) (fun _ hq => by cases hq) dX6_lies_18 hlk
    · have h := gn_f h c2
      refine lv_iconst (v := (1 : Int32)) hx hb dX6_lies_13 (by decide) ?_
      refine lv_goto (tgt := 18) hx hb dX6_lies_14 (by decide) ?_
      obtain rfl := gn_some h
      exact W.zret (ty := .boolean) hx hb hr rfl (fun t ht _ => ⟨rfl, ht⟩) (fun _ hq => by cases hq) dX6_lies_18 hlk
def rm_X5_divisor : Room := { frames := 1, cells := 0, slots := 0, locals := 24 }
section
variable {p : Program} {l : Launch} {e : Env} {s : State} {m : MethodId} {args : Array Value} {below : List Frame} {meth : Method} {c : Code} {z : Nat}
set_option maxRecDepth 100000 in
theorem w_X5_divisor_15 (Cc : Cx p s m args meth c cX5_divisor 11 RX5 wsX5_divisor (some .long)) {r : Int64} (n : Nat) : ∀ (x4 : Int64) (x6 : Int64) (x8 : Int32), G_X5_divisor_15 z n x4 x6 x8 = some r → ∀ ls, lv_has ls 11 [(4, .long x4), (6, .long x6), (8, .int x8)] → W p l e rm_X5_divisor s m args below meth c s.heap [] 0 0 (MQ below (qP (.long r)) args s 0 0 (fun _ => False)) (F0 m 15 ls []) := by
  obtain ⟨hx, hb, hml, hown, hts, hr, hlk, hN⟩ := id Cc
  have hcl : 0 ≤ (rm_X5_divisor).cells := Nat.zero_le _
  have hsl : 0 ≤ (rm_X5_divisor).slots := Nat.zero_le _
  induction n with
  | zero => intro x4 x6 x8 h; cases h
  | succ n ih =>
    intro x4 x6 x8 h ls hl
    rw [G_X5_divisor_15] at h
    refine lv_iload hx hb dX5_divisor_15 (lv_at hl 2 rfl) ?_
    refine lv_sipush (v := (200 : Int32)) hx hb dX5_divisor_17 (by decide) ?_
    refine lv_icmp_ge (tgt := 51) hx hb dX5_divisor_20 (by decide) (fun c1 => ?_) (fun c1 => ?_)
    · have h := gn_t h c1
      refine lv_lload hx hb dX5_divisor_51 (lv_at hl 0 rfl) ?_
      refine lv_lconst (v := (1 : Int64)) hx hb dX5_divisor_53 (by decide) ?_
      refine va_mmax_long hx hb (hml.trans hl.1.symm) hown (hts (.methodLink RX5 15 Lib.MathLoose.max_long.x) (by decide +kernel)) (hts (.static Lib.MathLoose.max_long.x) (by decide +kernel)) (hts (.initialized "java/lang/Math") (by decide +kernel)) (hts (.code Lib.MathLoose.max_long.x Lib.MathLoose.max_long.code 4 (some .long)) (by decide +kernel)) (Nat.le_of_ble_eq_true rfl) (Nat.le_of_ble_eq_true rfl) hcl hsl dX5_divisor_54 ?_
      obtain rfl := gn_some h
      exact W.lret hx hb hr (fun t ht _ => ⟨rfl, ht⟩) (fun _ hq => by cases hq) dX5_divisor_57 hlk
    · have h := gn_f h c1
      refine lv_lload hx hb dX5_divisor_23 (lv_at hl 1 rfl) ?_
      refine lv_lconst (v := (0 : Int64)) hx hb dX5_divisor_25 (by decide) ?_
      refine ll_eq (tgt := 51) hx hb dX5_divisor_26 dX5_divisor_27 (by decide) (fun c2 => ?_) (fun c2 => ?_)
      · have h := gn_t h c2
        refine lv_lload hx hb dX5_divisor_51 (lv_at hl 0 rfl) ?_
        refine lv_lconst (v := (1 : Int64)) hx hb dX5_divisor_53 (by decide) ?_
        refine va_mmax_long hx hb (hml.trans hl.1.symm) hown (hts (.methodLink RX5 15 Lib.MathLoose.max_long.x) (by decide +kernel)) (hts (.static Lib.MathLoose.max_long.x) (by decide +kernel)) (hts (.initialized "java/lang/Math") (by decide +kernel)) (hts (.code Lib.MathLoose.max_long.x Lib.MathLoose.max_long.code 4 (some .long)) (by decide +kernel)) (Nat.le_of_ble_eq_true rfl) (Nat.le_of_ble_eq_true rfl) hcl hsl dX5_divisor_54 ?_
        obtain rfl := gn_some h
        exact W.lret hx hb hr (fun t ht _ => ⟨rfl, ht⟩) (fun _ hq => by cases hq) dX5_divisor_57 hlk
      · have h := gn_f h c2
        refine lv_lload hx hb dX5_divisor_30 (lv_at hl 0 rfl) ?_
        refine lv_lload hx hb dX5_divisor_32 (lv_at hl 1 rfl) ?_
        obtain ⟨n3, h⟩ := gn_nz h
        refine lv_lrem hx hb dX5_divisor_34 n3 ?_
        obtain ⟨v4, ev4, h⟩ := gn_nm h
        refine ln_l ev4 ?_
        refine lv_lstore (lv' := [(9, .long v4), (4, .long x4), (6, .long x6), (8, .int x8)]) hx hb dX5_divisor_35 hl (by decide) rfl (fun ls hl => ?_)
        refine lv_lload hx hb dX5_divisor_37 (lv_at hl 2 rfl) ?_
        refine lv_lstore (lv' := [(4, .long x6), (9, .long v4), (6, .long x6), (8, .int x8)]) hx hb dX5_divisor_39 hl (by decide) rfl (fun ls hl => ?_)
        refine lv_lload hx hb dX5_divisor_41 (lv_at hl 1 rfl) ?_
        refine lv_lstore (lv' := [(6, .long v4), (4, .long x6), (9, .long v4), (8, .int x8)]) hx hb dX5_divisor_43 hl (by decide) rfl (fun ls hl => ?_)
        obtain ⟨v5, ev5, h⟩ := gn_nm h
        refine lv_iinc (v := v5) (lv' := [(8, .int v5), (6, .long v4), (4, .long x6), (9, .long v4)]) hx hb dX5_divisor_45 hl (k := 3) rfl (by rw [ev5]; rfl) (by decide) rfl (fun ls hl => ?_)
        refine lv_goto (tgt := 15) hx hb dX5_divisor_48 (by decide) ?_
        exact ih x6 v4 v5 h ls (lv_sub hl [2, 1, 0] rfl)
end
set_option maxRecDepth 100000 in
theorem c_X5_divisor (l : Launch) (z : Nat) (a0 : Int64) (a1 : Int64) (r : Int64) (h : F_X5_divisor z a0 a1 = some r) : Met l yX5_divisor wsX5_divisor rm_X5_divisor (qA [.long a0, .long a1]) (qP (.long r)) 0 0 (fun _ => False) := by
  refine Met.ofW (cc := cX5_divisor) (maxL := 11) (ret := (some .long)) (by decide) rfl ?_
  intro p e s m args below meth c s₁ B hml hv
  obtain ⟨rfl, hN⟩ := hv
  have hx := B.exec
  have hb := B.bytes
  have hr := B.returns
  have hts := atoms_spec (ws := wsX5_divisor) B.pre
  have hown : s.vm.findClass RX5 = some m.cls := findClass_of_methodNamed B.named
  have hlk := B.notSynchronized
  have hcl : 0 ≤ (rm_X5_divisor).cells := Nat.zero_le _
  have hsl : 0 ≤ (rm_X5_divisor).slots := Nat.zero_le _
  have Cc : Cx p s m _ meth c cX5_divisor 11 RX5 wsX5_divisor (some .long) := ⟨hx, hb, hml, hown, hts, hr, hlk, hN⟩
  have hl := lv_entry ([.long a0, .long a1]) (n := 11) (Nat.le_of_ble_eq_true rfl)
  rw [lg_entry_eq]
  generalize (lg_sl ([.long a0, .long a1]) ++ List.replicate (11 - (lg_sl ([.long a0, .long a1])).length) Slot.unset).toArray = ls at hl ⊢
  have hl : lv_has ls 11 [(0, .long a0), (2, .long a1)] := hl
  rw [F_X5_divisor] at h
  refine lv_lload_n hx hb dX5_divisor_0 rfl (lv_at hl 0 rfl) ?_
  refine va_mabs_long hx hb (hml.trans hl.1.symm) hown (hts (.methodLink RX5 9 Lib.MathLoose.abs_long.x) (by decide +kernel)) (hts (.static Lib.MathLoose.abs_long.x) (by decide +kernel)) (hts (.initialized "java/lang/Math") (by decide +kernel)) (hts (.code Lib.MathLoose.abs_long.x Lib.MathLoose.abs_long.code 2 (some .long)) (by decide +kernel)) (Nat.le_of_ble_eq_true rfl) (Nat.le_of_ble_eq_true rfl) hcl hsl dX5_divisor_1 ?_
  obtain ⟨v1, ev1, h⟩ := gn_nm h
  refine ln_l ev1 ?_
  refine lv_lstore (lv' := [(4, .long v1), (0, .long a0), (2, .long a1)]) hx hb dX5_divisor_4 hl (by decide) rfl (fun ls hl => ?_)
  refine lv_lload_n hx hb dX5_divisor_6 rfl (lv_at hl 2 rfl) ?_
  refine va_mabs_long hx hb (hml.trans hl.1.symm) hown (hts (.methodLink RX5 9 Lib.MathLoose.abs_long.x) (by decide +kernel)) (hts (.static Lib.MathLoose.abs_long.x) (by decide +kernel)) (hts (.initialized "java/lang/Math") (by decide +kernel)) (hts (.code Lib.MathLoose.abs_long.x Lib.MathLoose.abs_long.code 2 (some .long)) (by decide +kernel)) (Nat.le_of_ble_eq_true rfl) (Nat.le_of_ble_eq_true rfl) hcl hsl dX5_divisor_7 ?_
  obtain ⟨v2, ev2, h⟩ := gn_nm h
  refine ln_l ev2 ?_
  refine lv_lstore (lv' := [(6, .long v2), (4, .long v1), (0, .long a0), (2, .long a1)]) hx hb dX5_divisor_10 hl (by decide) rfl (fun ls hl => ?_)
  refine lv_iconst (v := (0 : Int32)) hx hb dX5_divisor_12 (by decide) ?_
  refine lv_istore (lv' := [(8, .int (0 : Int32)), (6, .long v2), (4, .long v1), (0, .long a0), (2, .long a1)]) hx hb dX5_divisor_13 hl (by decide) rfl (fun ls hl => ?_)
  exact w_X5_divisor_15 Cc z v1 v2 (0 : Int32) h ls (lv_sub hl [2, 1, 0] rfl)
def rm_X5_inverse : Room := { frames := 1, cells := 0, slots := 0, locals := 25 }
section
variable {p : Program} {l : Launch} {e : Env} {s : State} {m : MethodId} {args : Array Value} {below : List Frame} {meth : Method} {c : Code} {z : Nat}
set_option maxRecDepth 100000 in
theorem w_X5_inverse_27 (Cc : Cx p s m args meth c cX5_inverse 19 RX5 wsX5_inverse (some .long)) {r : Int64} (n : Nat) : ∀ (x2 : Int64) (x4 : Int64) (x6 : Int64) (x8 : Int64) (x10 : Int64) (x12 : Int32), G_X5_inverse_27 z n x2 x4 x6 x8 x10 x12 = some r → ∀ ls, lv_has ls 19 [(2, .long x2), (4, .long x4), (6, .long x6), (8, .long x8), (10, .long x10), (12, .int x12)] → W p l e rm_X5_inverse s m args below meth c s.heap [] 0 0 (MQ below (qP (.long r)) args s 0 0 (fun _ => False)) (F0 m 27 ls []) := by
  obtain ⟨hx, hb, hml, hown, hts, hr, hlk, hN⟩ := id Cc
  have hcl : 0 ≤ (rm_X5_inverse).cells := Nat.zero_le _
  have hsl : 0 ≤ (rm_X5_inverse).slots := Nat.zero_le _
  induction n with
  | zero => intro x2 x4 x6 x8 x10 x12 h; cases h
  | succ n ih =>
    intro x2 x4 x6 x8 x10 x12 h ls hl
    rw [G_X5_inverse_27] at h
    refine lv_iload hx hb dX5_inverse_27 (lv_at hl 5 rfl) ?_
    refine lv_sipush (v := (200 : Int32)) hx hb dX5_inverse_29 (by decide) ?_
    refine lv_icmp_ge (tgt := 91) hx hb dX5_inverse_32 (by decide) (fun c1 => ?_) (fun c1 => ?_)
    · have h := gn_t h c1
      refine lv_lload hx hb dX5_inverse_91 (lv_at hl 3 rfl) ?_
      refine lv_lload_n hx hb dX5_inverse_93 rfl (lv_at hl 0 rfl) ?_
      obtain ⟨r2, qr2, h⟩ := gn_bd h
      refine pc_S (rest := []) ⟨hx, hb, hml, hown, hts⟩ hN (c_J9_floorMod_f86c9 l z _ _ r2 qr2) (va_cwS 2 hts gX5_inverse_J9_floorMod_f86c9 rfl rfl rfl (by decide +kernel) ⟨(Nat.le_of_ble_eq_true rfl), (Nat.le_of_ble_eq_true rfl)⟩) rfl hl.1 rfl (Nat.le_of_ble_eq_true rfl) dX5_inverse_94 hcl hsl ?_
      obtain rfl := gn_some h
      exact W.lret hx hb hr (fun t ht _ => ⟨rfl, ht⟩) (fun _ hq => by cases hq) dX5_inverse_97 hlk
    · have h := gn_f h c1
      refine lv_lload hx hb dX5_inverse_35 (lv_at hl 2 rfl) ?_
      refine lv_lconst (v := (0 : Int64)) hx hb dX5_inverse_37 (by decide) ?_
      refine ll_eq (tgt := 91) hx hb dX5_inverse_38 dX5_inverse_39 (by decide) (fun c3 => ?_) (fun c3 => ?_)
      · have h := gn_t h c3
        refine lv_lload hx hb dX5_inverse_91 (lv_at hl 3 rfl) ?_
        refine lv_lload_n hx hb dX5_inverse_93 rfl (lv_at hl 0 rfl) ?_
        obtain ⟨r4, qr4, h⟩ := gn_bd h
        refine pc_S (rest := []) ⟨hx, hb, hml, hown, hts⟩ hN (c_J9_floorMod_f86c9 l z _ _ r4 qr4) (va_cwS 2 hts gX5_inverse_J9_floorMod_f86c9 rfl rfl rfl (by decide +kernel) ⟨(Nat.le_of_ble_eq_true rfl), (Nat.le_of_ble_eq_true rfl)⟩) rfl hl.1 rfl (Nat.le_of_ble_eq_true rfl) dX5_inverse_94 hcl hsl ?_
        obtain rfl := gn_some h
        exact W.lret hx hb hr (fun t ht _ => ⟨rfl, ht⟩) (fun _ hq => by cases hq) dX5_inverse_97 hlk
      · have h := gn_f h c3
        refine lv_lload hx hb dX5_inverse_42 (lv_at hl 1 rfl) ?_
        refine lv_lload hx hb dX5_inverse_44 (lv_at hl 2 rfl) ?_
        obtain ⟨n5, h⟩ := gn_nz h
        refine lv_ldiv hx hb dX5_inverse_46 n5 ?_
        obtain ⟨v6, ev6, h⟩ := gn_nm h
        refine ln_l ev6 ?_
        refine lv_lstore (lv' := [(13, .long v6), (2, .long x2), (4, .long x4), (6, .long x6), (8, .long x8), (10, .long x10), (12, .int x12)]) hx hb dX5_inverse_47 hl (by decide) rfl (fun ls hl => ?_)
        refine lv_lload hx hb dX5_inverse_49 (lv_at hl 2 rfl) ?_
        refine lv_lload hx hb dX5_inverse_51 (lv_at hl 0 rfl) ?_
        refine lv_lload hx hb dX5_inverse_53 (lv_at hl 3 rfl) ?_
        refine lv_lmul hx hb dX5_inverse_55 ?_
        refine lv_lsub hx hb dX5_inverse_56 ?_
        obtain ⟨v7, ev7, h⟩ := gn_nm h
        refine ln_l ev7 ?_
        refine lv_lstore (lv' := [(15, .long v7), (13, .long v6), (2, .long x2), (4, .long x4), (6, .long x6), (8, .long x8), (10, .long x10), (12, .int x12)]) hx hb dX5_inverse_57 hl (by decide) rfl (fun ls hl => ?_)
        refine lv_lload hx hb dX5_inverse_59 (lv_at hl 5 rfl) ?_
        refine lv_lload hx hb dX5_inverse_61 (lv_at hl 1 rfl) ?_
        refine lv_lload hx hb dX5_inverse_63 (lv_at hl 6 rfl) ?_
        refine lv_lmul hx hb dX5_inverse_65 ?_
        refine lv_lsub hx hb dX5_inverse_66 ?_
        obtain ⟨v8, ev8, h⟩ := gn_nm h
        refine ln_l ev8 ?_
        refine lv_lstore (lv' := [(17, .long v8), (15, .long v7), (13, .long v6), (2, .long x2), (4, .long x4), (6, .long x6), (8, .long x8), (10, .long x10), (12, .int x12)]) hx hb dX5_inverse_67 hl (by decide) rfl (fun ls hl => ?_)
        refine lv_lload hx hb dX5_inverse_69 (lv_at hl 5 rfl) ?_
        refine lv_lstore (lv' := [(4, .long x6), (17, .long v8), (15, .long v7), (13, .long v6), (2, .long x2), (6, .long x6), (8, .long x8), (10, .long x10), (12, .int x12)]) hx hb dX5_inverse_71 hl (by decide) rfl (fun ls hl => ?_)
        refine lv_lload hx hb dX5_inverse_73 (lv_at hl 2 rfl) ?_
        refine lv_lstore (lv' := [(6, .long v7), (4, .long x6), (17, .long v8), (15, .long v7), (13, .long v6), (2, .long x2), (8, .long x8), (10, .long x10), (12, .int x12)]) hx hb dX5_inverse_75 hl (by decide) rfl (fun ls hl => ?_)
        refine lv_lload hx hb dX5_inverse_77 (lv_at hl 7 rfl) ?_
        refine lv_lstore (lv' := [(8, .long x10), (6, .long v7), (4, .long x6), (17, .long v8), (15, .long v7), (13, .long v6), (2, .long x2), (10, .long x10), (12, .int x12)]) hx hb dX5_inverse_79 hl (by decide) rfl (fun ls hl => ?_)
        refine lv_lload hx hb dX5_inverse_81 (lv_at hl 3 rfl) ?_
        refine lv_lstore (lv' := [(10, .long v8), (8, .long x10), (6, .long v7), (4, .long x6), (17, .long v8), (15, .long v7), (13, .long v6), (2, .long x2), (12, .int x12)]) hx hb dX5_inverse_83 hl (by decide) rfl (fun ls hl => ?_)
        obtain ⟨v9, ev9, h⟩ := gn_nm h
        refine lv_iinc (v := v9) (lv' := [(12, .int v9), (10, .long v8), (8, .long x10), (6, .long v7), (4, .long x6), (17, .long v8), (15, .long v7), (13, .long v6), (2, .long x2)]) hx hb dX5_inverse_85 hl (k := 8) rfl (by rw [ev9]; rfl) (by decide) rfl (fun ls hl => ?_)
        refine lv_goto (tgt := 27) hx hb dX5_inverse_88 (by decide) ?_
        exact ih x2 x6 v7 x10 v8 v9 h ls (lv_sub hl [8, 4, 3, 2, 1, 0] rfl)
end
set_option maxRecDepth 100000 in
theorem c_X5_inverse (l : Launch) (z : Nat) (a0 : Int64) (a1 : Int64) (r : Int64) (h : F_X5_inverse z a0 a1 = some r) : Met l yX5_inverse wsX5_inverse rm_X5_inverse (qA [.long a0, .long a1]) (qP (.long r)) 0 0 (fun _ => False) := by
  refine Met.ofW (cc := cX5_inverse) (maxL := 19) (ret := (some .long)) (by decide) rfl ?_
  intro p e s m args below meth c s₁ B hml hv
  obtain ⟨rfl, hN⟩ := hv
  have hx := B.exec
  have hb := B.bytes
  have hr := B.returns
  have hts := atoms_spec (ws := wsX5_inverse) B.pre
  have hown : s.vm.findClass RX5 = some m.cls := findClass_of_methodNamed B.named
  have hlk := B.notSynchronized
  have hcl : 0 ≤ (rm_X5_inverse).cells := Nat.zero_le _
  have hsl : 0 ≤ (rm_X5_inverse).slots := Nat.zero_le _
  have Cc : Cx p s m _ meth c cX5_inverse 19 RX5 wsX5_inverse (some .long) := ⟨hx, hb, hml, hown, hts, hr, hlk, hN⟩
  have hl := lv_entry ([.long a0, .long a1]) (n := 19) (Nat.le_of_ble_eq_true rfl)
  rw [lg_entry_eq]
  generalize (lg_sl ([.long a0, .long a1]) ++ List.replicate (19 - (lg_sl ([.long a0, .long a1])).length) Slot.unset).toArray = ls at hl ⊢
  have hl : lv_has ls 19 [(0, .long a0), (2, .long a1)] := hl
  rw [F_X5_inverse] at h
  refine lv_lload_n hx hb dX5_inverse_0 rfl (lv_at hl 1 rfl) ?_
  refine lv_lconst (v := (1 : Int64)) hx hb dX5_inverse_1 (by decide) ?_
  refine ll_ge (tgt := 8) hx hb dX5_inverse_2 dX5_inverse_3 (by decide) (fun c1 => ?_) (fun c1 => ?_)
  · have h := gn_t h c1
    refine lv_lload_n hx hb dX5_inverse_8 rfl (lv_at hl 1 rfl) ?_
    refine lv_lstore (lv' := [(4, .long a1), (0, .long a0), (2, .long a1)]) hx hb dX5_inverse_9 hl (by decide) rfl (fun ls hl => ?_)
    refine lv_lload_n hx hb dX5_inverse_11 rfl (lv_at hl 1 rfl) ?_
    refine lv_lload_n hx hb dX5_inverse_12 rfl (lv_at hl 2 rfl) ?_
    obtain ⟨r2, qr2, h⟩ := gn_bd h
    refine pc_S (rest := []) ⟨hx, hb, hml, hown, hts⟩ hN (c_J9_floorMod_f86c9 l z _ _ r2 qr2) (va_cwS 2 hts gX5_inverse_J9_floorMod_f86c9 rfl rfl rfl (by decide +kernel) ⟨(Nat.le_of_ble_eq_true rfl), (Nat.le_of_ble_eq_true rfl)⟩) rfl hl.1 rfl (Nat.le_of_ble_eq_true rfl) dX5_inverse_13 hcl hsl ?_
    refine lv_lstore (lv' := [(6, .long r2), (4, .long a1), (0, .long a0), (2, .long a1)]) hx hb dX5_inverse_16 hl (by decide) rfl (fun ls hl => ?_)
    refine lv_lconst (v := (0 : Int64)) hx hb dX5_inverse_18 (by decide) ?_
    refine lv_lstore (lv' := [(8, .long (0 : Int64)), (6, .long r2), (4, .long a1), (0, .long a0), (2, .long a1)]) hx hb dX5_inverse_19 hl (by decide) rfl (fun ls hl => ?_)
    refine lv_lconst (v := (1 : Int64)) hx hb dX5_inverse_21 (by decide) ?_
    refine lv_lstore (lv' := [(10, .long (1 : Int64)), (8, .long (0 : Int64)), (6, .long r2), (4, .long a1), (0, .long a0), (2, .long a1)]) hx hb dX5_inverse_22 hl (by decide) rfl (fun ls hl => ?_)
    refine lv_iconst (v := (0 : Int32)) hx hb dX5_inverse_24 (by decide) ?_
    refine lv_istore (lv' := [(12, .int (0 : Int32)), (10, .long (1 : Int64)), (8, .long (0 : Int64)), (6, .long r2), (4, .long a1), (0, .long a0), (2, .long a1)]) hx hb dX5_inverse_25 hl (by decide) rfl (fun ls hl => ?_)
    exact w_X5_inverse_27 Cc z a1 a1 r2 (0 : Int64) (1 : Int64) (0 : Int32) h ls (lv_sub hl [6, 4, 3, 2, 1, 0] rfl)
  · have h := gn_f h c1
    refine lv_lconst (v := (0 : Int64)) hx hb dX5_inverse_6 (by decide) ?_
    obtain rfl := gn_some h
    exact W.lret hx hb hr (fun t ht _ => ⟨rfl, ht⟩) (fun _ hq => by cases hq) dX5_inverse_7 hlk
def rm_X5_twelfths : Room := { frames := 1, cells := 0, slots := 0, locals := 25 }
section
variable {p : Program} {l : Launch} {e : Env} {s : State} {m : MethodId} {args : Array Value} {below : List Frame} {meth : Method} {c : Code} {z : Nat}
set_option maxRecDepth 100000 in
theorem w_X5_twelfths_127 (Cc : Cx p s m args meth c cX5_twelfths 25 RX5 wsX5_twelfths (some .long)) {r : Int64} : ∀ (x4 : Int64) (x8 : Int64) (x10 : Int64) (x12 : Int64) (x14 : Int64) (x16 : Int64) (t0 : Int64), G_X5_twelfths_127 z x4 x8 x10 x12 x14 x16 t0 = some r → ∀ ls, lv_has ls 25 [(4, .long x4), (8, .long x8), (10, .long x10), (12, .long x12), (14, .long x14), (16, .long x16)] → W p l e rm_X5_twelfths s m args below meth c s.heap [] 0 0 (MQ below (qP (.long r)) args s 0 0 (fun _ => False)) (F0 m 127 ls [.long t0]) := by
  obtain ⟨hx, hb, hml, hown, hts, hr, hlk, hN⟩ := id Cc
  have hcl : 0 ≤ (rm_X5_twelfths).cells := Nat.zero_le _
  have hsl : 0 ≤ (rm_X5_twelfths).slots := Nat.zero_le _
  intro x4 x8 x10 x12 x14 x16 t0 h ls hl
  rw [G_X5_twelfths_127] at h
  refine lv_lstore (lv' := [(18, .long t0), (4, .long x4), (8, .long x8), (10, .long x10), (12, .long x12), (14, .long x14), (16, .long x16)]) hx hb dX5_twelfths_127 hl (by decide) rfl (fun ls hl => ?_)
  refine lv_lload hx hb dX5_twelfths_129 (lv_at hl 1 rfl) ?_
  refine lv_lload hx hb dX5_twelfths_131 (lv_at hl 2 rfl) ?_
  refine lv_lload hx hb dX5_twelfths_133 (lv_at hl 6 rfl) ?_
  refine lv_lload hx hb dX5_twelfths_135 (lv_at hl 4 rfl) ?_
  refine lv_lload hx hb dX5_twelfths_137 (lv_at hl 0 rfl) ?_
  refine lv_lsub hx hb dX5_twelfths_139 ?_
  refine lv_lmul hx hb dX5_twelfths_140 ?_
  refine lv_lload hx hb dX5_twelfths_141 (lv_at hl 3 rfl) ?_
  refine lv_lload hx hb dX5_twelfths_143 (lv_at hl 5 rfl) ?_
  refine lv_lmul hx hb dX5_twelfths_145 ?_
  refine lv_lsub hx hb dX5_twelfths_146 ?_
  refine lv_lmul hx hb dX5_twelfths_147 ?_
  refine lv_ladd hx hb dX5_twelfths_148 ?_
  obtain rfl := gn_some h
  exact W.lret hx hb hr (fun t ht _ => ⟨rfl, ht⟩) (fun _ hq => by cases hq) dX5_twelfths_149 hlk
set_option maxRecDepth 100000 in
theorem w_X5_twelfths_113 (Cc : Cx p s m args meth c cX5_twelfths 25 RX5 wsX5_twelfths (some .long)) {r : Int64} : ∀ (x4 : Int64) (x8 : Int64) (x10 : Int64) (x12 : Int64) (x14 : Int64) (x16 : Int64), G_X5_twelfths_113 z x4 x8 x10 x12 x14 x16 = some r → ∀ ls, lv_has ls 25 [(4, .long x4), (8, .long x8), (10, .long x10), (12, .long x12), (14, .long x14), (16, .long x16)] → W p l e rm_X5_twelfths s m args below meth c s.heap [] 0 0 (MQ below (qP (.long r)) args s 0 0 (fun _ => False)) (F0 m 113 ls []) := by
  obtain ⟨hx, hb, hml, hown, hts, hr, hlk, hN⟩ := id Cc
  have hcl : 0 ≤ (rm_X5_twelfths).cells := Nat.zero_le _
  have hsl : 0 ≤ (rm_X5_twelfths).slots := Nat.zero_le _
  intro x4 x8 x10 x12 x14 x16 h ls hl
  rw [G_X5_twelfths_113] at h
  refine lv_lload hx hb dX5_twelfths_113 (lv_at hl 2 rfl) ?_
  refine lv_lconst (v := (0 : Int64)) hx hb dX5_twelfths_115 (by decide) ?_
  refine ll_ge (tgt := 126) hx hb dX5_twelfths_116 dX5_twelfths_117 (by decide) (fun c1 => ?_) (fun c1 => ?_)
  · have h := gn_t h c1
    refine lv_lconst (v := (0 : Int64)) hx hb dX5_twelfths_126 (by decide) ?_
    exact w_X5_twelfths_127 Cc x4 x8 x10 x12 x14 x16 (0 : Int64) h ls (lv_sub hl [0, 1, 2, 3, 4, 5] rfl)
  · have h := gn_f h c1
    refine lv_ldc2 hx hb hown (hts (.constantLong RX5 22 (3)) (by decide +kernel)) dX5_twelfths_120 ?_
    refine lv_goto (tgt := 127) hx hb dX5_twelfths_123 (by decide) ?_
    exact w_X5_twelfths_127 Cc x4 x8 x10 x12 x14 x16 (3 : Int64) h ls (lv_sub hl [0, 1, 2, 3, 4, 5] rfl)
set_option maxRecDepth 100000 in
theorem w_X5_twelfths_37 (Cc : Cx p s m args meth c cX5_twelfths 25 RX5 wsX5_twelfths (some .long)) {r : Int64} (n : Nat) : ∀ (x4 : Int64) (x6 : Int64) (x8 : Int64) (x10 : Int64) (x12 : Int64) (x14 : Int64) (x16 : Int64) (x18 : Int32), G_X5_twelfths_37 z n x4 x6 x8 x10 x12 x14 x16 x18 = some r → ∀ ls, lv_has ls 25 [(4, .long x4), (6, .long x6), (8, .long x8), (10, .long x10), (12, .long x12), (14, .long x14), (16, .long x16), (18, .int x18)] → W p l e rm_X5_twelfths s m args below meth c s.heap [] 0 0 (MQ below (qP (.long r)) args s 0 0 (fun _ => False)) (F0 m 37 ls []) := by
  obtain ⟨hx, hb, hml, hown, hts, hr, hlk, hN⟩ := id Cc
  have hcl : 0 ≤ (rm_X5_twelfths).cells := Nat.zero_le _
  have hsl : 0 ≤ (rm_X5_twelfths).slots := Nat.zero_le _
  induction n with
  | zero => intro x4 x6 x8 x10 x12 x14 x16 x18 h; cases h
  | succ n ih =>
    intro x4 x6 x8 x10 x12 x14 x16 x18 h ls hl
    rw [G_X5_twelfths_37] at h
    refine lv_iload hx hb dX5_twelfths_37 (lv_at hl 7 rfl) ?_
    refine lv_sipush (v := (200 : Int32)) hx hb dX5_twelfths_39 (by decide) ?_
    refine lv_icmp_ge (tgt := 113) hx hb dX5_twelfths_42 (by decide) (fun c1 => ?_) (fun c1 => ?_)
    · have h := gn_t h c1
      exact w_X5_twelfths_113 Cc x4 x8 x10 x12 x14 x16 h ls (lv_sub hl [0, 2, 3, 4, 5, 6] rfl)
    · have h := gn_f h c1
      refine lv_lload hx hb dX5_twelfths_45 (lv_at hl 1 rfl) ?_
      refine lv_lconst (v := (0 : Int64)) hx hb dX5_twelfths_47 (by decide) ?_
      refine ll_eq (tgt := 113) hx hb dX5_twelfths_48 dX5_twelfths_49 (by decide) (fun c2 => ?_) (fun c2 => ?_)
      · have h := gn_t h c2
        exact w_X5_twelfths_113 Cc x4 x8 x10 x12 x14 x16 h ls (lv_sub hl [0, 2, 3, 4, 5, 6] rfl)
      · have h := gn_f h c2
        refine lv_lload hx hb dX5_twelfths_52 (lv_at hl 2 rfl) ?_
        refine lv_lload hx hb dX5_twelfths_54 (lv_at hl 1 rfl) ?_
        obtain ⟨n3, h⟩ := gn_nz h
        refine lv_ldiv hx hb dX5_twelfths_56 n3 ?_
        obtain ⟨v4, ev4, h⟩ := gn_nm h
        refine ln_l ev4 ?_
        refine lv_lstore (lv' := [(19, .long v4), (4, .long x4), (6, .long x6), (8, .long x8), (10, .long x10), (12, .long x12), (14, .long x14), (16, .long x16), (18, .int x18)]) hx hb dX5_twelfths_57 hl (by decide) rfl (fun ls hl => ?_)
        refine lv_lload hx hb dX5_twelfths_59 (lv_at hl 3 rfl) ?_
        refine lv_lload hx hb dX5_twelfths_61 (lv_at hl 2 rfl) ?_
        obtain ⟨n5, h⟩ := gn_nz h
        refine lv_lrem hx hb dX5_twelfths_63 n5 ?_
        obtain ⟨v6, ev6, h⟩ := gn_nm h
        refine ln_l ev6 ?_
        refine lv_lstore (lv' := [(21, .long v6), (19, .long v4), (4, .long x4), (6, .long x6), (8, .long x8), (10, .long x10), (12, .long x12), (14, .long x14), (16, .long x16), (18, .int x18)]) hx hb dX5_twelfths_64 hl (by decide) rfl (fun ls hl => ?_)
        refine lv_lload hx hb dX5_twelfths_66 (lv_at hl 6 rfl) ?_
        refine lv_lload hx hb dX5_twelfths_68 (lv_at hl 5 rfl) ?_
        refine lv_lload hx hb dX5_twelfths_70 (lv_at hl 1 rfl) ?_
        refine lv_lmul hx hb dX5_twelfths_72 ?_
        refine lv_ladd hx hb dX5_twelfths_73 ?_
        obtain ⟨v7, ev7, h⟩ := gn_nm h
        refine ln_l ev7 ?_
        refine lv_lstore (lv' := [(12, .long v7), (21, .long v6), (19, .long v4), (4, .long x4), (6, .long x6), (8, .long x8), (10, .long x10), (14, .long x14), (16, .long x16), (18, .int x18)]) hx hb dX5_twelfths_74 hl (by decide) rfl (fun ls hl => ?_)
        refine lv_lload hx hb dX5_twelfths_76 (lv_at hl 6 rfl) ?_
        refine lv_lneg hx hb dX5_twelfths_78 ?_
        obtain ⟨v8, ev8, h⟩ := gn_nm h
        refine ln_l ev8 ?_
        refine lv_lstore (lv' := [(10, .long v8), (12, .long v7), (21, .long v6), (19, .long v4), (4, .long x4), (6, .long x6), (8, .long x8), (14, .long x14), (16, .long x16), (18, .int x18)]) hx hb dX5_twelfths_79 hl (by decide) rfl (fun ls hl => ?_)
        refine lv_lload hx hb dX5_twelfths_81 (lv_at hl 3 rfl) ?_
        refine lv_lload hx hb dX5_twelfths_83 (lv_at hl 8 rfl) ?_
        refine lv_lmul hx hb dX5_twelfths_85 ?_
        refine lv_lload hx hb dX5_twelfths_86 (lv_at hl 7 rfl) ?_
        refine lv_ladd hx hb dX5_twelfths_88 ?_
        obtain ⟨v9, ev9, h⟩ := gn_nm h
        refine ln_l ev9 ?_
        refine lv_lstore (lv' := [(23, .long v9), (10, .long v8), (12, .long v7), (21, .long v6), (19, .long v4), (4, .long x4), (6, .long x6), (8, .long x8), (14, .long x14), (16, .long x16), (18, .int x18)]) hx hb dX5_twelfths_89 hl (by decide) rfl (fun ls hl => ?_)
        refine lv_lload hx hb dX5_twelfths_91 (lv_at hl 9 rfl) ?_
        refine lv_lstore (lv' := [(14, .long x16), (23, .long v9), (10, .long v8), (12, .long v7), (21, .long v6), (19, .long v4), (4, .long x4), (6, .long x6), (8, .long x8), (16, .long x16), (18, .int x18)]) hx hb dX5_twelfths_93 hl (by decide) rfl (fun ls hl => ?_)
        refine lv_lload hx hb dX5_twelfths_95 (lv_at hl 1 rfl) ?_
        refine lv_lstore (lv' := [(16, .long v9), (14, .long x16), (23, .long v9), (10, .long v8), (12, .long v7), (21, .long v6), (19, .long v4), (4, .long x4), (6, .long x6), (8, .long x8), (18, .int x18)]) hx hb dX5_twelfths_97 hl (by decide) rfl (fun ls hl => ?_)
        refine lv_lload hx hb dX5_twelfths_99 (lv_at hl 8 rfl) ?_
        refine lv_lstore (lv' := [(8, .long x6), (16, .long v9), (14, .long x16), (23, .long v9), (10, .long v8), (12, .long v7), (21, .long v6), (19, .long v4), (4, .long x4), (6, .long x6), (18, .int x18)]) hx hb dX5_twelfths_101 hl (by decide) rfl (fun ls hl => ?_)
        refine lv_lload hx hb dX5_twelfths_103 (lv_at hl 6 rfl) ?_
        refine lv_lstore (lv' := [(6, .long v6), (8, .long x6), (16, .long v9), (14, .long x16), (23, .long v9), (10, .long v8), (12, .long v7), (21, .long v6), (19, .long v4), (4, .long x4), (18, .int x18)]) hx hb dX5_twelfths_105 hl (by decide) rfl (fun ls hl => ?_)
        obtain ⟨v10, ev10, h⟩ := gn_nm h
        refine lv_iinc (v := v10) (lv' := [(18, .int v10), (6, .long v6), (8, .long x6), (16, .long v9), (14, .long x16), (23, .long v9), (10, .long v8), (12, .long v7), (21, .long v6), (19, .long v4), (4, .long x4)]) hx hb dX5_twelfths_107 hl (k := 10) rfl (by rw [ev10]; rfl) (by decide) rfl (fun ls hl => ?_)
        refine lv_goto (tgt := 37) hx hb dX5_twelfths_110 (by decide) ?_
        exact ih x4 v6 x6 v8 v7 x16 v9 v10 h ls (lv_sub hl [10, 1, 2, 6, 7, 4, 3, 0] rfl)
end
set_option maxRecDepth 100000 in
theorem c_X5_twelfths (l : Launch) (z : Nat) (a0 : Int64) (a1 : Int64) (r : Int64) (h : F_X5_twelfths z a0 a1 = some r) : Met l yX5_twelfths wsX5_twelfths rm_X5_twelfths (qA [.long a0, .long a1]) (qP (.long r)) 0 0 (fun _ => False) := by
  refine Met.ofW (cc := cX5_twelfths) (maxL := 25) (ret := (some .long)) (by decide) rfl ?_
  intro p e s m args below meth c s₁ B hml hv
  obtain ⟨rfl, hN⟩ := hv
  have hx := B.exec
  have hb := B.bytes
  have hr := B.returns
  have hts := atoms_spec (ws := wsX5_twelfths) B.pre
  have hown : s.vm.findClass RX5 = some m.cls := findClass_of_methodNamed B.named
  have hlk := B.notSynchronized
  have hcl : 0 ≤ (rm_X5_twelfths).cells := Nat.zero_le _
  have hsl : 0 ≤ (rm_X5_twelfths).slots := Nat.zero_le _
  have Cc : Cx p s m _ meth c cX5_twelfths 25 RX5 wsX5_twelfths (some .long) := ⟨hx, hb, hml, hown, hts, hr, hlk, hN⟩
  have hl := lv_entry ([.long a0, .long a1]) (n := 25) (Nat.le_of_ble_eq_true rfl)
  rw [lg_entry_eq]
  generalize (lg_sl ([.long a0, .long a1]) ++ List.replicate (25 - (lg_sl ([.long a0, .long a1])).length) Slot.unset).toArray = ls at hl ⊢
  have hl : lv_has ls 25 [(0, .long a0), (2, .long a1)] := hl
  rw [F_X5_twelfths] at h
  refine lv_lload_n hx hb dX5_twelfths_0 rfl (lv_at hl 1 rfl) ?_
  refine lv_lconst (v := (1 : Int64)) hx hb dX5_twelfths_1 (by decide) ?_
  refine ll_ge (tgt := 8) hx hb dX5_twelfths_2 dX5_twelfths_3 (by decide) (fun c1 => ?_) (fun c1 => ?_)
  · have h := gn_t h c1
    refine lv_lload_n hx hb dX5_twelfths_8 rfl (lv_at hl 0 rfl) ?_
    refine lv_lload_n hx hb dX5_twelfths_9 rfl (lv_at hl 1 rfl) ?_
    obtain ⟨r2, qr2, h⟩ := gn_bd h
    refine pc_S (rest := []) ⟨hx, hb, hml, hown, hts⟩ hN (c_J9_floorMod_f86c9 l z _ _ r2 qr2) (va_cwS 2 hts gX5_twelfths_J9_floorMod_f86c9 rfl rfl rfl (by decide +kernel) ⟨(Nat.le_of_ble_eq_true rfl), (Nat.le_of_ble_eq_true rfl)⟩) rfl hl.1 rfl (Nat.le_of_ble_eq_true rfl) dX5_twelfths_10 hcl hsl ?_
    refine lv_lstore (lv' := [(4, .long r2), (0, .long a0), (2, .long a1)]) hx hb dX5_twelfths_13 hl (by decide) rfl (fun ls hl => ?_)
    refine lv_lload hx hb dX5_twelfths_15 (lv_at hl 0 rfl) ?_
    refine lv_lstore (lv' := [(6, .long r2), (4, .long r2), (0, .long a0), (2, .long a1)]) hx hb dX5_twelfths_17 hl (by decide) rfl (fun ls hl => ?_)
    refine lv_lload_n hx hb dX5_twelfths_19 rfl (lv_at hl 3 rfl) ?_
    refine lv_lstore (lv' := [(8, .long a1), (6, .long r2), (4, .long r2), (0, .long a0), (2, .long a1)]) hx hb dX5_twelfths_20 hl (by decide) rfl (fun ls hl => ?_)
    refine lv_lconst (v := (1 : Int64)) hx hb dX5_twelfths_22 (by decide) ?_
    refine lv_lstore (lv' := [(10, .long (1 : Int64)), (8, .long a1), (6, .long r2), (4, .long r2), (0, .long a0), (2, .long a1)]) hx hb dX5_twelfths_23 hl (by decide) rfl (fun ls hl => ?_)
    refine lv_lconst (v := (0 : Int64)) hx hb dX5_twelfths_25 (by decide) ?_
    refine lv_lstore (lv' := [(12, .long (0 : Int64)), (10, .long (1 : Int64)), (8, .long a1), (6, .long r2), (4, .long r2), (0, .long a0), (2, .long a1)]) hx hb dX5_twelfths_26 hl (by decide) rfl (fun ls hl => ?_)
    refine lv_lconst (v := (0 : Int64)) hx hb dX5_twelfths_28 (by decide) ?_
    refine lv_lstore (lv' := [(14, .long (0 : Int64)), (12, .long (0 : Int64)), (10, .long (1 : Int64)), (8, .long a1), (6, .long r2), (4, .long r2), (0, .long a0), (2, .long a1)]) hx hb dX5_twelfths_29 hl (by decide) rfl (fun ls hl => ?_)
    refine lv_lconst (v := (1 : Int64)) hx hb dX5_twelfths_31 (by decide) ?_
    refine lv_lstore (lv' := [(16, .long (1 : Int64)), (14, .long (0 : Int64)), (12, .long (0 : Int64)), (10, .long (1 : Int64)), (8, .long a1), (6, .long r2), (4, .long r2), (0, .long a0), (2, .long a1)]) hx hb dX5_twelfths_32 hl (by decide) rfl (fun ls hl => ?_)
    refine lv_iconst (v := (0 : Int32)) hx hb dX5_twelfths_34 (by decide) ?_
    refine lv_istore (lv' := [(18, .int (0 : Int32)), (16, .long (1 : Int64)), (14, .long (0 : Int64)), (12, .long (0 : Int64)), (10, .long (1 : Int64)), (8, .long a1), (6, .long r2), (4, .long r2), (0, .long a0), (2, .long a1)]) hx hb dX5_twelfths_35 hl (by decide) rfl (fun ls hl => ?_)
    exact w_X5_twelfths_37 Cc z r2 r2 a1 (1 : Int64) (0 : Int64) (0 : Int64) (1 : Int64) (0 : Int32) h ls (lv_sub hl [7, 6, 5, 4, 3, 2, 1, 0] rfl)
  · have h := gn_f h c1
    refine lv_lconst (v := (0 : Int64)) hx hb dX5_twelfths_6 (by decide) ?_
    obtain rfl := gn_some h
    exact W.lret hx hb hr (fun t ht _ => ⟨rfl, ht⟩) (fun _ hq => by cases hq) dX5_twelfths_7 hlk
def rm_X5_floorSum : Room := { frames := 1, cells := 0, slots := 0, locals := 25 }
section
variable {p : Program} {l : Launch} {e : Env} {s : State} {m : MethodId} {args : Array Value} {below : List Frame} {meth : Method} {c : Code} {z : Nat}
set_option maxRecDepth 100000 in
theorem w_X5_floorSum_20 (Cc : Cx p s m args meth c cX5_floorSum 23 RX5 wsX5_floorSum (some .long)) {r : Int64} (n : Nat) : ∀ (x8 : Int64) (x10 : Int64) (x12 : Int64) (x14 : Int64) (x16 : Int64) (x18 : Int32), G_X5_floorSum_20 z n x8 x10 x12 x14 x16 x18 = some r → ∀ ls, lv_has ls 23 [(8, .long x8), (10, .long x10), (12, .long x12), (14, .long x14), (16, .long x16), (18, .int x18)] → W p l e rm_X5_floorSum s m args below meth c s.heap [] 0 0 (MQ below (qP (.long r)) args s 0 0 (fun _ => False)) (F0 m 20 ls []) := by
  obtain ⟨hx, hb, hml, hown, hts, hr, hlk, hN⟩ := id Cc
  have hcl : 0 ≤ (rm_X5_floorSum).cells := Nat.zero_le _
  have hsl : 0 ≤ (rm_X5_floorSum).slots := Nat.zero_le _
  induction n with
  | zero => intro x8 x10 x12 x14 x16 x18 h; cases h
  | succ n ih =>
    intro x8 x10 x12 x14 x16 x18 h ls hl
    rw [G_X5_floorSum_20] at h
    refine lv_iload hx hb dX5_floorSum_20 (lv_at hl 5 rfl) ?_
    refine lv_sipush (v := (200 : Int32)) hx hb dX5_floorSum_22 (by decide) ?_
    refine lv_icmp_ge (tgt := 133) hx hb dX5_floorSum_25 (by decide) (fun c1 => ?_) (fun c1 => ?_)
    · have h := gn_t h c1
      refine lv_lload hx hb dX5_floorSum_133 (lv_at hl 0 rfl) ?_
      obtain rfl := gn_some h
      exact W.lret hx hb hr (fun t ht _ => ⟨rfl, ht⟩) (fun _ hq => by cases hq) dX5_floorSum_135 hlk
    · have h := gn_f h c1
      refine lv_lload hx hb dX5_floorSum_28 (lv_at hl 3 rfl) ?_
      refine lv_lconst (v := (0 : Int64)) hx hb dX5_floorSum_30 (by decide) ?_
      refine ll_le (tgt := 133) hx hb dX5_floorSum_31 dX5_floorSum_32 (by decide) (fun c2 => ?_) (fun c2 => ?_)
      · have h := gn_t h c2
        refine lv_lload hx hb dX5_floorSum_133 (lv_at hl 0 rfl) ?_
        obtain rfl := gn_some h
        exact W.lret hx hb hr (fun t ht _ => ⟨rfl, ht⟩) (fun _ hq => by cases hq) dX5_floorSum_135 hlk
      · have h := gn_f h c2
        refine lv_lload hx hb dX5_floorSum_35 (lv_at hl 0 rfl) ?_
        refine lv_lload hx hb dX5_floorSum_37 (lv_at hl 4 rfl) ?_
        refine lv_lload hx hb dX5_floorSum_39 (lv_at hl 4 rfl) ?_
        refine lv_lconst (v := (1 : Int64)) hx hb dX5_floorSum_41 (by decide) ?_
        refine lv_lsub hx hb dX5_floorSum_42 ?_
        refine lv_lmul hx hb dX5_floorSum_43 ?_
        refine lv_ldc2 hx hb hown (hts (.constantLong RX5 24 (2)) (by decide +kernel)) dX5_floorSum_44 ?_
        refine lv_ldiv hx hb dX5_floorSum_47 (by decide) ?_
        refine lv_lload hx hb dX5_floorSum_48 (lv_at hl 1 rfl) ?_
        refine lv_lload hx hb dX5_floorSum_50 (lv_at hl 3 rfl) ?_
        obtain ⟨r3, qr3, h⟩ := gn_bd h
        refine pc_S (rest := [.long ((x16 * (x16 - (1 : Int64))) / (2 : Int64)), .long x8]) ⟨hx, hb, hml, hown, hts⟩ hN (c_J9_floorDiv_f86c9 l z _ _ r3 qr3) (va_cwS 2 hts gX5_floorSum_J9_floorDiv_f86c9 rfl rfl rfl (by decide +kernel) ⟨(Nat.le_of_ble_eq_true rfl), (Nat.le_of_ble_eq_true rfl)⟩) rfl hl.1 rfl (Nat.le_of_ble_eq_true rfl) dX5_floorSum_52 hcl hsl ?_
        refine lv_lmul hx hb dX5_floorSum_55 ?_
        refine lv_lload hx hb dX5_floorSum_56 (lv_at hl 4 rfl) ?_
        refine lv_lload hx hb dX5_floorSum_58 (lv_at hl 2 rfl) ?_
        refine lv_lload hx hb dX5_floorSum_60 (lv_at hl 3 rfl) ?_
        obtain ⟨r4, qr4, h⟩ := gn_bd h
        refine pc_S (rest := [.long x16, .long (((x16 * (x16 - (1 : Int64))) / (2 : Int64)) * r3), .long x8]) ⟨hx, hb, hml, hown, hts⟩ hN (c_J9_floorDiv_f86c9 l z _ _ r4 qr4) (va_cwS 2 hts gX5_floorSum_J9_floorDiv_f86c9 rfl rfl rfl (by decide +kernel) ⟨(Nat.le_of_ble_eq_true rfl), (Nat.le_of_ble_eq_true rfl)⟩) rfl hl.1 rfl (Nat.le_of_ble_eq_true rfl) dX5_floorSum_62 hcl hsl ?_
        refine lv_lmul hx hb dX5_floorSum_65 ?_
        refine lv_ladd hx hb dX5_floorSum_66 ?_
        refine lv_ladd hx hb dX5_floorSum_67 ?_
        obtain ⟨v5, ev5, h⟩ := gn_nm h
        refine ln_l ev5 ?_
        refine lv_lstore (lv' := [(8, .long v5), (10, .long x10), (12, .long x12), (14, .long x14), (16, .long x16), (18, .int x18)]) hx hb dX5_floorSum_68 hl (by decide) rfl (fun ls hl => ?_)
        refine lv_lload hx hb dX5_floorSum_70 (lv_at hl 1 rfl) ?_
        refine lv_lload hx hb dX5_floorSum_72 (lv_at hl 3 rfl) ?_
        obtain ⟨r6, qr6, h⟩ := gn_bd h
        refine pc_S (rest := []) ⟨hx, hb, hml, hown, hts⟩ hN (c_J9_floorMod_f86c9 l z _ _ r6 qr6) (va_cwS 2 hts gX5_floorSum_J9_floorMod_f86c9 rfl rfl rfl (by decide +kernel) ⟨(Nat.le_of_ble_eq_true rfl), (Nat.le_of_ble_eq_true rfl)⟩) rfl hl.1 rfl (Nat.le_of_ble_eq_true rfl) dX5_floorSum_74 hcl hsl ?_
        refine lv_lstore (lv' := [(19, .long r6), (8, .long v5), (10, .long x10), (12, .long x12), (14, .long x14), (16, .long x16), (18, .int x18)]) hx hb dX5_floorSum_77 hl (by decide) rfl (fun ls hl => ?_)
        refine lv_lload hx hb dX5_floorSum_79 (lv_at hl 0 rfl) ?_
        refine lv_lload hx hb dX5_floorSum_81 (lv_at hl 5 rfl) ?_
        refine lv_lmul hx hb dX5_floorSum_83 ?_
        refine lv_lload hx hb dX5_floorSum_84 (lv_at hl 3 rfl) ?_
        refine lv_lload hx hb dX5_floorSum_86 (lv_at hl 4 rfl) ?_
        obtain ⟨r7, qr7, h⟩ := gn_bd h
        refine pc_S (rest := [.long (r6 * x16)]) ⟨hx, hb, hml, hown, hts⟩ hN (c_J9_floorMod_f86c9 l z _ _ r7 qr7) (va_cwS 2 hts gX5_floorSum_J9_floorMod_f86c9 rfl rfl rfl (by decide +kernel) ⟨(Nat.le_of_ble_eq_true rfl), (Nat.le_of_ble_eq_true rfl)⟩) rfl hl.1 rfl (Nat.le_of_ble_eq_true rfl) dX5_floorSum_88 hcl hsl ?_
        refine lv_ladd hx hb dX5_floorSum_91 ?_
        obtain ⟨v8, ev8, h⟩ := gn_nm h
        refine ln_l ev8 ?_
        refine lv_lstore (lv' := [(21, .long v8), (19, .long r6), (8, .long v5), (10, .long x10), (12, .long x12), (14, .long x14), (16, .long x16), (18, .int x18)]) hx hb dX5_floorSum_92 hl (by decide) rfl (fun ls hl => ?_)
        refine lv_lload hx hb dX5_floorSum_94 (lv_at hl 0 rfl) ?_
        refine lv_lload hx hb dX5_floorSum_96 (lv_at hl 5 rfl) ?_
        refine ll_ge (tgt := 105) hx hb dX5_floorSum_98 dX5_floorSum_99 (by decide) (fun c9 => ?_) (fun c9 => ?_)
        · have h := gn_t h c9
          refine lv_lload hx hb dX5_floorSum_105 (lv_at hl 0 rfl) ?_
          refine lv_lload hx hb dX5_floorSum_107 (lv_at hl 5 rfl) ?_
          obtain ⟨n10, h⟩ := gn_nz h
          refine lv_ldiv hx hb dX5_floorSum_109 n10 ?_
          obtain ⟨v11, ev11, h⟩ := gn_nm h
          refine ln_l ev11 ?_
          refine lv_lstore (lv' := [(16, .long v11), (21, .long v8), (19, .long r6), (8, .long v5), (10, .long x10), (12, .long x12), (14, .long x14), (18, .int x18)]) hx hb dX5_floorSum_110 hl (by decide) rfl (fun ls hl => ?_)
          refine lv_lload hx hb dX5_floorSum_112 (lv_at hl 1 rfl) ?_
          refine lv_lload hx hb dX5_floorSum_114 (lv_at hl 6 rfl) ?_
          obtain ⟨n12, h⟩ := gn_nz h
          refine lv_lrem hx hb dX5_floorSum_116 n12 ?_
          obtain ⟨v13, ev13, h⟩ := gn_nm h
          refine ln_l ev13 ?_
          refine lv_lstore (lv' := [(12, .long v13), (16, .long v11), (21, .long v8), (19, .long r6), (8, .long v5), (10, .long x10), (14, .long x14), (18, .int x18)]) hx hb dX5_floorSum_117 hl (by decide) rfl (fun ls hl => ?_)
          refine lv_lload hx hb dX5_floorSum_119 (lv_at hl 6 rfl) ?_
          refine lv_lstore (lv' := [(10, .long x14), (12, .long v13), (16, .long v11), (21, .long v8), (19, .long r6), (8, .long v5), (14, .long x14), (18, .int x18)]) hx hb dX5_floorSum_121 hl (by decide) rfl (fun ls hl => ?_)
          refine lv_lload hx hb dX5_floorSum_123 (lv_at hl 4 rfl) ?_
          refine lv_lstore (lv' := [(14, .long r6), (10, .long x14), (12, .long v13), (16, .long v11), (21, .long v8), (19, .long r6), (8, .long v5), (18, .int x18)]) hx hb dX5_floorSum_125 hl (by decide) rfl (fun ls hl => ?_)
          obtain ⟨v14, ev14, h⟩ := gn_nm h
          refine lv_iinc (v := v14) (lv' := [(18, .int v14), (14, .long r6), (10, .long x14), (12, .long v13), (16, .long v11), (21, .long v8), (19, .long r6), (8, .long v5)]) hx hb dX5_floorSum_127 hl (k := 7) rfl (by rw [ev14]; rfl) (by decide) rfl (fun ls hl => ?_)
          refine lv_goto (tgt := 20) hx hb dX5_floorSum_130 (by decide) ?_
          exact ih v5 x14 v13 r6 v11 v14 h ls (lv_sub hl [7, 2, 3, 1, 4, 0] rfl)
        · have h := gn_f h c9
          refine lv_goto (tgt := 133) hx hb dX5_floorSum_102 (by decide) ?_
          refine lv_lload hx hb dX5_floorSum_133 (lv_at hl 2 rfl) ?_
          obtain rfl := gn_some h
          exact W.lret hx hb hr (fun t ht _ => ⟨rfl, ht⟩) (fun _ hq => by cases hq) dX5_floorSum_135 hlk
end
set_option maxRecDepth 100000 in
theorem c_X5_floorSum (l : Launch) (z : Nat) (a0 : Int64) (a1 : Int64) (a2 : Int64) (a3 : Int64) (r : Int64) (h : F_X5_floorSum z a0 a1 a2 a3 = some r) : Met l yX5_floorSum wsX5_floorSum rm_X5_floorSum (qA [.long a0, .long a1, .long a2, .long a3]) (qP (.long r)) 0 0 (fun _ => False) := by
  refine Met.ofW (cc := cX5_floorSum) (maxL := 23) (ret := (some .long)) (by decide) rfl ?_
  intro p e s m args below meth c s₁ B hml hv
  obtain ⟨rfl, hN⟩ := hv
  have hx := B.exec
  have hb := B.bytes
  have hr := B.returns
  have hts := atoms_spec (ws := wsX5_floorSum) B.pre
  have hown : s.vm.findClass RX5 = some m.cls := findClass_of_methodNamed B.named
  have hlk := B.notSynchronized
  have hcl : 0 ≤ (rm_X5_floorSum).cells := Nat.zero_le _
  have hsl : 0 ≤ (rm_X5_floorSum).slots := Nat.zero_le _
  have Cc : Cx p s m _ meth c cX5_floorSum 23 RX5 wsX5_floorSum (some .long) := ⟨hx, hb, hml, hown, hts, hr, hlk, hN⟩
  have hl := lv_entry ([.long a0, .long a1, .long a2, .long a3]) (n := 23) (Nat.le_of_ble_eq_true rfl)
  rw [lg_entry_eq]
  generalize (lg_sl ([.long a0, .long a1, .long a2, .long a3]) ++ List.replicate (23 - (lg_sl ([.long a0, .long a1, .long a2, .long a3])).length) Slot.unset).toArray = ls at hl ⊢
  have hl : lv_has ls 23 [(0, .long a0), (2, .long a1), (4, .long a2), (6, .long a3)] := hl
  rw [F_X5_floorSum] at h
  refine lv_lconst (v := (0 : Int64)) hx hb dX5_floorSum_0 (by decide) ?_
  refine lv_lstore (lv' := [(8, .long (0 : Int64)), (0, .long a0), (2, .long a1), (4, .long a2), (6, .long a3)]) hx hb dX5_floorSum_1 hl (by decide) rfl (fun ls hl => ?_)
  refine lv_lload_n hx hb dX5_floorSum_3 rfl (lv_at hl 1 rfl) ?_
  refine lv_lstore (lv' := [(10, .long a0), (8, .long (0 : Int64)), (0, .long a0), (2, .long a1), (4, .long a2), (6, .long a3)]) hx hb dX5_floorSum_4 hl (by decide) rfl (fun ls hl => ?_)
  refine lv_lload_n hx hb dX5_floorSum_6 rfl (lv_at hl 3 rfl) ?_
  refine lv_lstore (lv' := [(12, .long a1), (10, .long a0), (8, .long (0 : Int64)), (0, .long a0), (2, .long a1), (4, .long a2), (6, .long a3)]) hx hb dX5_floorSum_7 hl (by decide) rfl (fun ls hl => ?_)
  refine lv_lload hx hb dX5_floorSum_9 (lv_at hl 5 rfl) ?_
  refine lv_lstore (lv' := [(14, .long a2), (12, .long a1), (10, .long a0), (8, .long (0 : Int64)), (0, .long a0), (2, .long a1), (4, .long a2), (6, .long a3)]) hx hb dX5_floorSum_11 hl (by decide) rfl (fun ls hl => ?_)
  refine lv_lload hx hb dX5_floorSum_13 (lv_at hl 7 rfl) ?_
  refine lv_lstore (lv' := [(16, .long a3), (14, .long a2), (12, .long a1), (10, .long a0), (8, .long (0 : Int64)), (0, .long a0), (2, .long a1), (4, .long a2), (6, .long a3)]) hx hb dX5_floorSum_15 hl (by decide) rfl (fun ls hl => ?_)
  refine lv_iconst (v := (0 : Int32)) hx hb dX5_floorSum_17 (by decide) ?_
  refine lv_istore (lv' := [(18, .int (0 : Int32)), (16, .long a3), (14, .long a2), (12, .long a1), (10, .long a0), (8, .long (0 : Int64)), (0, .long a0), (2, .long a1), (4, .long a2), (6, .long a3)]) hx hb dX5_floorSum_18 hl (by decide) rfl (fun ls hl => ?_)
  exact w_X5_floorSum_20 Cc z (0 : Int64) a0 a1 a2 a3 (0 : Int32) h ls (lv_sub hl [5, 4, 3, 2, 1, 0] rfl)
def rm_X5_pointsBelow : Room := { frames := 2, cells := 0, slots := 0, locals := 67 }
section
variable {p : Program} {l : Launch} {e : Env} {s : State} {m : MethodId} {args : Array Value} {below : List Frame} {meth : Method} {c : Code} {z : Nat}
end
set_option maxRecDepth 100000 in
theorem c_X5_pointsBelow (l : Launch) (z : Nat) (a0 : Int64) (a1 : Int64) (a2 : Int64) (r : Int64) (h : F_X5_pointsBelow z a0 a1 a2 = some r) : Met l yX5_pointsBelow wsX5_pointsBelow rm_X5_pointsBelow (qA [.long a0, .long a1, .long a2]) (qP (.long r)) 0 0 (fun _ => False) := by
  refine Met.ofW (cc := cX5_pointsBelow) (maxL := 8) (ret := (some .long)) (by decide) rfl ?_
  intro p e s m args below meth c s₁ B hml hv
  obtain ⟨rfl, hN⟩ := hv
  have hx := B.exec
  have hb := B.bytes
  have hr := B.returns
  have hts := atoms_spec (ws := wsX5_pointsBelow) B.pre
  have hown : s.vm.findClass RX5 = some m.cls := findClass_of_methodNamed B.named
  have hlk := B.notSynchronized
  have hcl : 0 ≤ (rm_X5_pointsBelow).cells := Nat.zero_le _
  have hsl : 0 ≤ (rm_X5_pointsBelow).slots := Nat.zero_le _
  have Cc : Cx p s m _ meth c cX5_pointsBelow 8 RX5 wsX5_pointsBelow (some .long) := ⟨hx, hb, hml, hown, hts, hr, hlk, hN⟩
  have hl := lv_entry ([.long a0, .long a1, .long a2]) (n := 8) (Nat.le_of_ble_eq_true rfl)
  rw [lg_entry_eq]
  generalize (lg_sl ([.long a0, .long a1, .long a2]) ++ List.replicate (8 - (lg_sl ([.long a0, .long a1, .long a2])).length) Slot.unset).toArray = ls at hl ⊢
  have hl : lv_has ls 8 [(0, .long a0), (2, .long a1), (4, .long a2)] := hl
  rw [F_X5_pointsBelow] at h
  refine lv_lload_n hx hb dX5_pointsBelow_0 rfl (lv_at hl 0 rfl) ?_
  refine lv_lconst (v := (1 : Int64)) hx hb dX5_pointsBelow_1 (by decide) ?_
  refine ll_lt (tgt := 19) hx hb dX5_pointsBelow_2 dX5_pointsBelow_3 (by decide) (fun c1 => ?_) (fun c1 => ?_)
  · have h := gn_t h c1
    refine lv_lconst (v := (0 : Int64)) hx hb dX5_pointsBelow_19 (by decide) ?_
    obtain rfl := gn_some h
    exact W.lret hx hb hr (fun t ht _ => ⟨rfl, ht⟩) (fun _ hq => by cases hq) dX5_pointsBelow_20 hlk
  · have h := gn_f h c1
    refine lv_lload_n hx hb dX5_pointsBelow_6 rfl (lv_at hl 1 rfl) ?_
    refine lv_lconst (v := (1 : Int64)) hx hb dX5_pointsBelow_7 (by decide) ?_
    refine ll_lt (tgt := 19) hx hb dX5_pointsBelow_8 dX5_pointsBelow_9 (by decide) (fun c2 => ?_) (fun c2 => ?_)
    · have h := gn_t h c2
      refine lv_lconst (v := (0 : Int64)) hx hb dX5_pointsBelow_19 (by decide) ?_
      obtain rfl := gn_some h
      exact W.lret hx hb hr (fun t ht _ => ⟨rfl, ht⟩) (fun _ hq => by cases hq) dX5_pointsBelow_20 hlk
    · have h := gn_f h c2
      refine lv_lload hx hb dX5_pointsBelow_12 (lv_at hl 2 rfl) ?_
      refine lv_lconst (v := (0 : Int64)) hx hb dX5_pointsBelow_14 (by decide) ?_
      refine ll_ge (tgt := 21) hx hb dX5_pointsBelow_15 dX5_pointsBelow_16 (by decide) (fun c3 => ?_) (fun c3 => ?_)
      · have h := gn_t h c3
        refine lv_lload hx hb dX5_pointsBelow_21 (lv_at hl 2 rfl) ?_
        refine lv_lload_n hx hb dX5_pointsBelow_23 rfl (lv_at hl 0 rfl) ?_
        obtain ⟨n4, h⟩ := gn_nz h
        refine lv_ldiv hx hb dX5_pointsBelow_24 n4 ?_
        refine lv_lconst (v := (1 : Int64)) hx hb dX5_pointsBelow_25 (by decide) ?_
        refine lv_ladd hx hb dX5_pointsBelow_26 ?_
        obtain ⟨v5, ev5, h⟩ := gn_nm h
        refine ln_l ev5 ?_
        refine lv_lstore (lv' := [(6, .long v5), (0, .long a0), (2, .long a1), (4, .long a2)]) hx hb dX5_pointsBelow_27 hl (by decide) rfl (fun ls hl => ?_)
        refine lv_lload hx hb dX5_pointsBelow_29 (lv_at hl 0 rfl) ?_
        refine lv_lload_n hx hb dX5_pointsBelow_31 rfl (lv_at hl 1 rfl) ?_
        refine lv_lload hx hb dX5_pointsBelow_32 (lv_at hl 3 rfl) ?_
        refine lv_lload_n hx hb dX5_pointsBelow_34 rfl (lv_at hl 1 rfl) ?_
        obtain ⟨n6, h⟩ := gn_nz h
        refine lv_lrem hx hb dX5_pointsBelow_35 n6 ?_
        refine lv_lload_n hx hb dX5_pointsBelow_36 rfl (lv_at hl 2 rfl) ?_
        refine lv_lload hx hb dX5_pointsBelow_37 (lv_at hl 0 rfl) ?_
        obtain ⟨r7, qr7, h⟩ := gn_bd h
        refine pc_S (rest := [.long v5]) ⟨hx, hb, hml, hown, hts⟩ hN (c_X5_floorSum l z _ _ _ _ r7 qr7) (va_cwS 4 hts gX5_pointsBelow_X5_floorSum rfl rfl rfl (by decide +kernel) ⟨(Nat.le_of_ble_eq_true rfl), (Nat.le_of_ble_eq_true rfl)⟩) rfl hl.1 rfl (Nat.le_of_ble_eq_true rfl) dX5_pointsBelow_39 hcl hsl ?_
        refine lv_ladd hx hb dX5_pointsBelow_42 ?_
        obtain rfl := gn_some h
        exact W.lret hx hb hr (fun t ht _ => ⟨rfl, ht⟩) (fun _ hq => by cases hq) dX5_pointsBelow_43 hlk
      · have h := gn_f h c3
        refine lv_lconst (v := (0 : Int64)) hx hb dX5_pointsBelow_19 (by decide) ?_
        obtain rfl := gn_some h
        exact W.lret hx hb hr (fun t ht _ => ⟨rfl, ht⟩) (fun _ hq => by cases hq) dX5_pointsBelow_20 hlk
def rm_X6_areThree : Room := { frames := 2, cells := 0, slots := 0, locals := 54 }
section
variable {p : Program} {l : Launch} {e : Env} {s : State} {m : MethodId} {args : Array Value} {below : List Frame} {meth : Method} {c : Code} {z : Nat}
end
set_option maxRecDepth 100000 in
theorem c_X6_areThree (l : Launch) (z : Nat) (a0 : Int32) (a1 : Int32) (a2 : Int32) (r : Int32) (h : F_X6_areThree z a0 a1 a2 = some r) : Met l yX6_areThree wsX6_areThree rm_X6_areThree (qA [.int a0, .int a1, .int a2]) (qP (.int r)) 0 0 (fun _ => False) := by
  refine Met.ofW (cc := cX6_areThree) (maxL := 3) (ret := (some .boolean)) (by decide) rfl ?_
  intro p e s m args below meth c s₁ B hml hv
  obtain ⟨rfl, hN⟩ := hv
  have hx := B.exec
  have hb := B.bytes
  have hr := B.returns
  have hts := atoms_spec (ws := wsX6_areThree) B.pre
  have hown : s.vm.findClass RX6 = some m.cls := findClass_of_methodNamed B.named
  have hlk := B.notSynchronized
  have hcl : 0 ≤ (rm_X6_areThree).cells := Nat.zero_le _
  have hsl : 0 ≤ (rm_X6_areThree).slots := Nat.zero_le _
  have Cc : Cx p s m _ meth c cX6_areThree 3 RX6 wsX6_areThree (some .boolean) := ⟨hx, hb, hml, hown, hts, hr, hlk, hN⟩
  have hl := lv_entry ([.int a0, .int a1, .int a2]) (n := 3) (Nat.le_of_ble_eq_true rfl)
  rw [lg_entry_eq]
  generalize (lg_sl ([.int a0, .int a1, .int a2]) ++ List.replicate (3 - (lg_sl ([.int a0, .int a1, .int a2])).length) Slot.unset).toArray = ls at hl ⊢
  have hl : lv_has ls 3 [(0, .int a0), (1, .int a1), (2, .int a2)] := hl
  rw [F_X6_areThree] at h
  refine lv_iload_n hx hb dX6_areThree_0 rfl (lv_at hl 0 rfl) ?_
  refine lv_i2l hx hb dX6_areThree_1 rfl ?_
  refine lv_lconst (v := (1 : Int64)) hx hb dX6_areThree_2 (by decide) ?_
  refine lv_ldc2 hx hb hown (hts (.constantLong RX6 104 (1000)) (by decide +kernel)) dX6_areThree_3 ?_
  obtain ⟨r1, qr1, h⟩ := gn_bd h
  refine pc_S (rest := []) ⟨hx, hb, hml, hown, hts⟩ hN (c_X6_lies l z _ _ _ r1 qr1) (va_cwS 3 hts gX6_areThree_X6_lies rfl rfl rfl (by decide +kernel) ⟨(Nat.le_of_ble_eq_true rfl), (Nat.le_of_ble_eq_true rfl)⟩) rfl hl.1 rfl (Nat.le_of_ble_eq_true rfl) dX6_areThree_6 hcl hsl ?_
  refine lv_if_eq (tgt := 76) hx hb dX6_areThree_9 (by decide) (fun c2 => ?_) (fun c2 => ?_)
  · have h := gn_t h c2
    refine lv_iconst (v := (0 : Int32)) hx hb dX6_areThree_76 (by decide) ?_
    obtain rfl := gn_some h
    exact W.zret (ty := .boolean) hx hb hr rfl (fun t ht _ => ⟨rfl, ht⟩) (fun _ hq => by cases hq) dX6_areThree_77 hlk
  · have h := gn_f h c2
    refine lv_iload_n hx hb dX6_areThree_12 rfl (lv_at hl 1 rfl) ?_
    refine lv_i2l hx hb dX6_areThree_13 rfl ?_
    refine lv_lconst (v := (1 : Int64)) hx hb dX6_areThree_14 (by decide) ?_
    refine lv_ldc2 hx hb hown (hts (.constantLong RX6 104 (1000)) (by decide +kernel)) dX6_areThree_15 ?_
    obtain ⟨r3, qr3, h⟩ := gn_bd h
    refine pc_S (rest := []) ⟨hx, hb, hml, hown, hts⟩ hN (c_X6_lies l z _ _ _ r3 qr3) (va_cwS 3 hts gX6_areThree_X6_lies rfl rfl rfl (by decide +kernel) ⟨(Nat.le_of_ble_eq_true rfl), (Nat.le_of_ble_eq_true rfl)⟩) rfl hl.1 rfl (Nat.le_of_ble_eq_true rfl) dX6_areThree_18 hcl hsl ?_
    refine lv_if_eq (tgt := 76) hx hb dX6_areThree_21 (by decide) (fun c4 => ?_) (fun c4 => ?_)
    · have h := gn_t h c4
      refine lv_iconst (v := (0 : Int32)) hx hb dX6_areThree_76 (by decide) ?_
      obtain rfl := gn_some h
      exact W.zret (ty := .boolean) hx hb hr rfl (fun t ht _ => ⟨rfl, ht⟩) (fun _ hq => by cases hq) dX6_areThree_77 hlk
    · have h := gn_f h c4
      refine lv_iload_n hx hb dX6_areThree_24 rfl (lv_at hl 2 rfl) ?_
      refine lv_i2l hx hb dX6_areThree_25 rfl ?_
      refine lv_lconst (v := (1 : Int64)) hx hb dX6_areThree_26 (by decide) ?_
      refine lv_ldc2 hx hb hown (hts (.constantLong RX6 104 (1000)) (by decide +kernel)) dX6_areThree_27 ?_
      obtain ⟨r5, qr5, h⟩ := gn_bd h
      refine pc_S (rest := []) ⟨hx, hb, hml, hown, hts⟩ hN (c_X6_lies l z _ _ _ r5 qr5) (va_cwS 3 hts gX6_areThree_X6_lies rfl rfl rfl (by decide +kernel) ⟨(Nat.le_of_ble_eq_true rfl), (Nat.le_of_ble_eq_true rfl)⟩) rfl hl.1 rfl (Nat.le_of_ble_eq_true rfl) dX6_areThree_30 hcl hsl ?_
      refine lv_if_eq (tgt := 76) hx hb dX6_areThree_33 (by decide) (fun c6 => ?_) (fun c6 => ?_)
      · have h := gn_t h c6
        refine lv_iconst (v := (0 : Int32)) hx hb dX6_areThree_76 (by decide) ?_
        obtain rfl := gn_some h
        exact W.zret (ty := .boolean) hx hb hr rfl (fun t ht _ => ⟨rfl, ht⟩) (fun _ hq => by cases hq) dX6_areThree_77 hlk
      · have h := gn_f h c6
        refine lv_iload_n hx hb dX6_areThree_36 rfl (lv_at hl 0 rfl) ?_
        refine lv_i2l hx hb dX6_areThree_37 rfl ?_
        refine lv_iload_n hx hb dX6_areThree_38 rfl (lv_at hl 1 rfl) ?_
        refine lv_i2l hx hb dX6_areThree_39 rfl ?_
        obtain ⟨r7, qr7, h⟩ := gn_bd h
        refine pc_S (rest := []) ⟨hx, hb, hml, hown, hts⟩ hN (c_X5_divisor l z _ _ r7 qr7) (va_cwS 2 hts gX6_areThree_X5_divisor rfl rfl rfl (by decide +kernel) ⟨(Nat.le_of_ble_eq_true rfl), (Nat.le_of_ble_eq_true rfl)⟩) rfl hl.1 rfl (Nat.le_of_ble_eq_true rfl) dX6_areThree_40 hcl hsl ?_
        refine lv_lconst (v := (1 : Int64)) hx hb dX6_areThree_43 (by decide) ?_
        refine ll_ne (tgt := 76) hx hb dX6_areThree_44 dX6_areThree_45 (by decide) (fun c8 => ?_) (fun c8 => ?_)
        · have h := gn_f h c8
          refine lv_iconst (v := (0 : Int32)) hx hb dX6_areThree_76 (by decide) ?_
          obtain rfl := gn_some h
          exact W.zret (ty := .boolean) hx hb hr rfl (fun t ht _ => ⟨rfl, ht⟩) (fun _ hq => by cases hq) dX6_areThree_77 hlk
        · have h := gn_t h c8
          refine lv_iload_n hx hb dX6_areThree_48 rfl (lv_at hl 1 rfl) ?_
          refine lv_i2l hx hb dX6_areThree_49 rfl ?_
          refine lv_iload_n hx hb dX6_areThree_50 rfl (lv_at hl 2 rfl) ?_
          refine lv_i2l hx hb dX6_areThree_51 rfl ?_
          obtain ⟨r9, qr9, h⟩ := gn_bd h
          refine pc_S (rest := []) ⟨hx, hb, hml, hown, hts⟩ hN (c_X5_divisor l z _ _ r9 qr9) (va_cwS 2 hts gX6_areThree_X5_divisor rfl rfl rfl (by decide +kernel) ⟨(Nat.le_of_ble_eq_true rfl), (Nat.le_of_ble_eq_true rfl)⟩) rfl hl.1 rfl (Nat.le_of_ble_eq_true rfl) dX6_areThree_52 hcl hsl ?_
          refine lv_lconst (v := (1 : Int64)) hx hb dX6_areThree_55 (by decide) ?_
          refine ll_ne (tgt := 76) hx hb dX6_areThree_56 dX6_areThree_57 (by decide) (fun c10 => ?_) (fun c10 => ?_)
          · have h := gn_f h c10
            refine lv_iconst (v := (0 : Int32)) hx hb dX6_areThree_76 (by decide) ?_
            obtain rfl := gn_some h
            exact W.zret (ty := .boolean) hx hb hr rfl (fun t ht _ => ⟨rfl, ht⟩) (fun _ hq => by cases hq) dX6_areThree_77 hlk
          · have h := gn_t h c10
            refine lv_iload_n hx hb dX6_areThree_60 rfl (lv_at hl 0 rfl) ?_
            refine lv_i2l hx hb dX6_areThree_61 rfl ?_
            refine lv_iload_n hx hb dX6_areThree_62 rfl (lv_at hl 2 rfl) ?_
            refine lv_i2l hx hb dX6_areThree_63 rfl ?_
            obtain ⟨r11, qr11, h⟩ := gn_bd h
            refine pc_S (rest := []) ⟨hx, hb, hml, hown, hts⟩ hN (c_X5_divisor l z _ _ r11 qr11) (va_cwS 2 hts gX6_areThree_X5_divisor rfl rfl rfl (by decide +kernel) ⟨(Nat.le_of_ble_eq_true rfl), (Nat.le_of_ble_eq_true rfl)⟩) rfl hl.1 rfl (Nat.le_of_ble_eq_true rfl) dX6_areThree_64 hcl hsl ?_
            refine lv_lconst (v := (1 : Int64)) hx hb dX6_areThree_67 (by decide) ?_
            refine ll_ne (tgt := 76) hx hb dX6_areThree_68 dX6_areThree_69 (by decide) (fun c12 => ?_) (fun c12 => ?_)
            · have h := gn_f h c12
              refine lv_iconst (v := (0 : Int32)) hx hb dX6_areThree_76 (by decide) ?_
              obtain rfl := gn_some h
              exact W.zret (ty := .boolean) hx hb hr rfl (fun t ht _ => ⟨rfl, ht⟩) (fun _ hq => by cases hq) dX6_areThree_77 hlk
            · have h := gn_t h c12
              refine lv_iconst (v := (1 : Int32)) hx hb dX6_areThree_72 (by decide) ?_
              refine lv_goto (tgt := 77) hx hb dX6_areThree_73 (by decide) ?_
              obtain rfl := gn_some h
              exact W.zret (ty := .boolean) hx hb hr rfl (fun t ht _ => ⟨rfl, ht⟩) (fun _ hq => by cases hq) dX6_areThree_77 hlk
def rm_X6_isTriangle : Room := { frames := 1, cells := 0, slots := 0, locals := 25 }
section
variable {p : Program} {l : Launch} {e : Env} {s : State} {m : MethodId} {args : Array Value} {below : List Frame} {meth : Method} {c : Code} {z : Nat}
end
set_option maxRecDepth 100000 in
theorem c_X6_isTriangle (l : Launch) (z : Nat) (a0 : Int32) (a1 : Int32) (a2 : Int32) (r : Int32) (h : F_X6_isTriangle z a0 a1 a2 = some r) : Met l yX6_isTriangle wsX6_isTriangle rm_X6_isTriangle (qA [.int a0, .int a1, .int a2]) (qP (.int r)) 0 0 (fun _ => False) := by
  refine Met.ofW (cc := cX6_isTriangle) (maxL := 3) (ret := (some .boolean)) (by decide) rfl ?_
  intro p e s m args below meth c s₁ B hml hv
  obtain ⟨rfl, hN⟩ := hv
  have hx := B.exec
  have hb := B.bytes
  have hr := B.returns
  have hts := atoms_spec (ws := wsX6_isTriangle) B.pre
  have hown : s.vm.findClass RX6 = some m.cls := findClass_of_methodNamed B.named
  have hlk := B.notSynchronized
  have hcl : 0 ≤ (rm_X6_isTriangle).cells := Nat.zero_le _
  have hsl : 0 ≤ (rm_X6_isTriangle).slots := Nat.zero_le _
  have Cc : Cx p s m _ meth c cX6_isTriangle 3 RX6 wsX6_isTriangle (some .boolean) := ⟨hx, hb, hml, hown, hts, hr, hlk, hN⟩
  have hl := lv_entry ([.int a0, .int a1, .int a2]) (n := 3) (Nat.le_of_ble_eq_true rfl)
  rw [lg_entry_eq]
  generalize (lg_sl ([.int a0, .int a1, .int a2]) ++ List.replicate (3 - (lg_sl ([.int a0, .int a1, .int a2])).length) Slot.unset).toArray = ls at hl ⊢
  have hl : lv_has ls 3 [(0, .int a0), (1, .int a1), (2, .int a2)] := hl
  rw [F_X6_isTriangle] at h
  refine lv_iload_n hx hb dX6_isTriangle_0 rfl (lv_at hl 0 rfl) ?_
  refine lv_i2l hx hb dX6_isTriangle_1 rfl ?_
  refine lv_lconst (v := (1 : Int64)) hx hb dX6_isTriangle_2 (by decide) ?_
  refine lv_ldc2 hx hb hown (hts (.constantLong RX6 129 (1000000)) (by decide +kernel)) dX6_isTriangle_3 ?_
  obtain ⟨r1, qr1, h⟩ := gn_bd h
  refine pc_S (rest := []) ⟨hx, hb, hml, hown, hts⟩ hN (c_X6_lies l z _ _ _ r1 qr1) (va_cwS 3 hts gX6_isTriangle_X6_lies rfl rfl rfl (by decide +kernel) ⟨(Nat.le_of_ble_eq_true rfl), (Nat.le_of_ble_eq_true rfl)⟩) rfl hl.1 rfl (Nat.le_of_ble_eq_true rfl) dX6_isTriangle_6 hcl hsl ?_
  refine lv_if_eq (tgt := 40) hx hb dX6_isTriangle_9 (by decide) (fun c2 => ?_) (fun c2 => ?_)
  · have h := gn_t h c2
    refine lv_iconst (v := (0 : Int32)) hx hb dX6_isTriangle_40 (by decide) ?_
    obtain rfl := gn_some h
    exact W.zret (ty := .boolean) hx hb hr rfl (fun t ht _ => ⟨rfl, ht⟩) (fun _ hq => by cases hq) dX6_isTriangle_41 hlk
  · have h := gn_f h c2
    refine lv_iload_n hx hb dX6_isTriangle_12 rfl (lv_at hl 1 rfl) ?_
    refine lv_i2l hx hb dX6_isTriangle_13 rfl ?_
    refine lv_lconst (v := (1 : Int64)) hx hb dX6_isTriangle_14 (by decide) ?_
    refine lv_ldc2 hx hb hown (hts (.constantLong RX6 129 (1000000)) (by decide +kernel)) dX6_isTriangle_15 ?_
    obtain ⟨r3, qr3, h⟩ := gn_bd h
    refine pc_S (rest := []) ⟨hx, hb, hml, hown, hts⟩ hN (c_X6_lies l z _ _ _ r3 qr3) (va_cwS 3 hts gX6_isTriangle_X6_lies rfl rfl rfl (by decide +kernel) ⟨(Nat.le_of_ble_eq_true rfl), (Nat.le_of_ble_eq_true rfl)⟩) rfl hl.1 rfl (Nat.le_of_ble_eq_true rfl) dX6_isTriangle_18 hcl hsl ?_
    refine lv_if_eq (tgt := 40) hx hb dX6_isTriangle_21 (by decide) (fun c4 => ?_) (fun c4 => ?_)
    · have h := gn_t h c4
      refine lv_iconst (v := (0 : Int32)) hx hb dX6_isTriangle_40 (by decide) ?_
      obtain rfl := gn_some h
      exact W.zret (ty := .boolean) hx hb hr rfl (fun t ht _ => ⟨rfl, ht⟩) (fun _ hq => by cases hq) dX6_isTriangle_41 hlk
    · have h := gn_f h c4
      refine lv_iload_n hx hb dX6_isTriangle_24 rfl (lv_at hl 2 rfl) ?_
      refine lv_i2l hx hb dX6_isTriangle_25 rfl ?_
      refine lv_lconst (v := (0 : Int64)) hx hb dX6_isTriangle_26 (by decide) ?_
      refine lv_ldc2 hx hb hown (hts (.constantLong RX6 61 (1000000000)) (by decide +kernel)) dX6_isTriangle_27 ?_
      obtain ⟨r5, qr5, h⟩ := gn_bd h
      refine pc_S (rest := []) ⟨hx, hb, hml, hown, hts⟩ hN (c_X6_lies l z _ _ _ r5 qr5) (va_cwS 3 hts gX6_isTriangle_X6_lies rfl rfl rfl (by decide +kernel) ⟨(Nat.le_of_ble_eq_true rfl), (Nat.le_of_ble_eq_true rfl)⟩) rfl hl.1 rfl (Nat.le_of_ble_eq_true rfl) dX6_isTriangle_30 hcl hsl ?_
      refine lv_if_eq (tgt := 40) hx hb dX6_isTriangle_33 (by decide) (fun c6 => ?_) (fun c6 => ?_)
      · have h := gn_t h c6
        refine lv_iconst (v := (0 : Int32)) hx hb dX6_isTriangle_40 (by decide) ?_
        obtain rfl := gn_some h
        exact W.zret (ty := .boolean) hx hb hr rfl (fun t ht _ => ⟨rfl, ht⟩) (fun _ hq => by cases hq) dX6_isTriangle_41 hlk
      · have h := gn_f h c6
        refine lv_iconst (v := (1 : Int32)) hx hb dX6_isTriangle_36 (by decide) ?_
        refine lv_goto (tgt := 41) hx hb dX6_isTriangle_37 (by decide) ?_
        obtain rfl := gn_some h
        exact W.zret (ty := .boolean) hx hb hr rfl (fun t ht _ => ⟨rfl, ht⟩) (fun _ hq => by cases hq) dX6_isTriangle_41 hlk
def rm_X6_firstWithGreatestSum : Room := { frames := 2, cells := 0, slots := 0, locals := 69 }
section
variable {p : Program} {l : Launch} {e : Env} {s : State} {m : MethodId} {args : Array Value} {below : List Frame} {meth : Method} {c : Code} {z : Nat}
set_option maxRecDepth 100000 in
theorem w_X6_firstWithGreatestSum_7 (Cc : Cx p s m args meth c cX6_firstWithGreatestSum 7 RX6 wsX6_firstWithGreatestSum (some .int)) {r : Int32} (n : Nat) : ∀ (x0 : Int32) (x1 : Int32) (x2 : Int64) (x4 : Int32), G_X6_firstWithGreatestSum_7 z n x0 x1 x2 x4 = some r → ∀ ls, lv_has ls 7 [(0, .int x0), (1, .int x1), (2, .long x2), (4, .int x4)] → W p l e rm_X6_firstWithGreatestSum s m args below meth c s.heap [] 0 0 (MQ below (qP (.int r)) args s 0 0 (fun _ => False)) (F0 m 7 ls []) := by
  obtain ⟨hx, hb, hml, hown, hts, hr, hlk, hN⟩ := id Cc
  have hcl : 0 ≤ (rm_X6_firstWithGreatestSum).cells := Nat.zero_le _
  have hsl : 0 ≤ (rm_X6_firstWithGreatestSum).slots := Nat.zero_le _
  induction n with
  | zero => intro x0 x1 x2 x4 h; cases h
  | succ n ih =>
    intro x0 x1 x2 x4 h ls hl
    rw [G_X6_firstWithGreatestSum_7] at h
    refine lv_iload hx hb dX6_firstWithGreatestSum_7 (lv_at hl 3 rfl) ?_
    refine lv_iload_n hx hb dX6_firstWithGreatestSum_9 rfl (lv_at hl 0 rfl) ?_
    refine lv_icmp_ge (tgt := 60) hx hb dX6_firstWithGreatestSum_10 (by decide) (fun c1 => ?_) (fun c1 => ?_)
    · have h := gn_t h c1
      refine lv_iload_n hx hb dX6_firstWithGreatestSum_60 rfl (lv_at hl 1 rfl) ?_
      obtain rfl := gn_some h
      exact W.iret hx hb hr (fun t ht _ => ⟨rfl, ht⟩) (fun _ hq => by cases hq) dX6_firstWithGreatestSum_61 hlk
    · have h := gn_f h c1
      refine lv_iload hx hb dX6_firstWithGreatestSum_13 (lv_at hl 3 rfl) ?_
      refine lv_i2l hx hb dX6_firstWithGreatestSum_15 rfl ?_
      refine lv_iload_n hx hb dX6_firstWithGreatestSum_16 rfl (lv_at hl 0 rfl) ?_
      refine lv_i2l hx hb dX6_firstWithGreatestSum_17 rfl ?_
      obtain ⟨r2, qr2, h⟩ := gn_bd h
      refine pc_S (rest := []) ⟨hx, hb, hml, hown, hts⟩ hN (c_X5_divisor l z _ _ r2 qr2) (va_cwS 2 hts gX6_firstWithGreatestSum_X5_divisor rfl rfl rfl (by decide +kernel) ⟨(Nat.le_of_ble_eq_true rfl), (Nat.le_of_ble_eq_true rfl)⟩) rfl hl.1 rfl (Nat.le_of_ble_eq_true rfl) dX6_firstWithGreatestSum_18 hcl hsl ?_
      refine lv_lconst (v := (1 : Int64)) hx hb dX6_firstWithGreatestSum_21 (by decide) ?_
      refine ll_ne (tgt := 54) hx hb dX6_firstWithGreatestSum_22 dX6_firstWithGreatestSum_23 (by decide) (fun c3 => ?_) (fun c3 => ?_)
      · have h := gn_f h c3
        obtain ⟨v4, ev4, h⟩ := gn_nm h
        refine lv_iinc (v := v4) (lv' := [(4, .int v4), (0, .int x0), (1, .int x1), (2, .long x2)]) hx hb dX6_firstWithGreatestSum_54 hl (k := 3) rfl (by rw [ev4]; rfl) (by decide) rfl (fun ls hl => ?_)
        refine lv_goto (tgt := 7) hx hb dX6_firstWithGreatestSum_57 (by decide) ?_
        exact ih x0 x1 x2 v4 h ls (lv_sub hl [1, 2, 3, 0] rfl)
      · have h := gn_t h c3
        refine lv_iload hx hb dX6_firstWithGreatestSum_26 (lv_at hl 3 rfl) ?_
        refine lv_i2l hx hb dX6_firstWithGreatestSum_28 rfl ?_
        refine lv_iload_n hx hb dX6_firstWithGreatestSum_29 rfl (lv_at hl 0 rfl) ?_
        refine lv_i2l hx hb dX6_firstWithGreatestSum_30 rfl ?_
        obtain ⟨r5, qr5, h⟩ := gn_bd h
        refine pc_S (rest := []) ⟨hx, hb, hml, hown, hts⟩ hN (c_X5_twelfths l z _ _ r5 qr5) (va_cwS 2 hts gX6_firstWithGreatestSum_X5_twelfths rfl rfl rfl (by decide +kernel) ⟨(Nat.le_of_ble_eq_true rfl), (Nat.le_of_ble_eq_true rfl)⟩) rfl hl.1 rfl (Nat.le_of_ble_eq_true rfl) dX6_firstWithGreatestSum_31 hcl hsl ?_
        refine lv_lstore (lv' := [(5, .long r5), (0, .int x0), (1, .int x1), (2, .long x2), (4, .int x4)]) hx hb dX6_firstWithGreatestSum_34 hl (by decide) rfl (fun ls hl => ?_)
        refine lv_iload_n hx hb dX6_firstWithGreatestSum_36 rfl (lv_at hl 2 rfl) ?_
        refine lv_iconst (v := (-1 : Int32)) hx hb dX6_firstWithGreatestSum_37 (by decide) ?_
        refine lv_icmp_eq (tgt := 48) hx hb dX6_firstWithGreatestSum_38 (by decide) (fun c6 => ?_) (fun c6 => ?_)
        · have h := gn_t h c6
          refine lv_iload hx hb dX6_firstWithGreatestSum_48 (lv_at hl 4 rfl) ?_
          refine lv_istore_n (lv' := [(1, .int x4), (5, .long r5), (0, .int x0), (2, .long x2), (4, .int x4)]) hx hb dX6_firstWithGreatestSum_50 rfl hl (by decide) rfl (fun ls hl => ?_)
          refine lv_lload hx hb dX6_firstWithGreatestSum_51 (lv_at hl 1 rfl) ?_
          refine lv_lstore_n (lv' := [(2, .long r5), (1, .int x4), (5, .long r5), (0, .int x0), (4, .int x4)]) hx hb dX6_firstWithGreatestSum_53 rfl hl (by decide) rfl (fun ls hl => ?_)
          obtain ⟨v7, ev7, h⟩ := gn_nm h
          refine lv_iinc (v := v7) (lv' := [(4, .int v7), (2, .long r5), (1, .int x4), (5, .long r5), (0, .int x0)]) hx hb dX6_firstWithGreatestSum_54 hl (k := 4) rfl (by rw [ev7]; rfl) (by decide) rfl (fun ls hl => ?_)
          refine lv_goto (tgt := 7) hx hb dX6_firstWithGreatestSum_57 (by decide) ?_
          exact ih x0 x4 r5 v7 h ls (lv_sub hl [4, 2, 1, 0] rfl)
        · have h := gn_f h c6
          refine lv_lload hx hb dX6_firstWithGreatestSum_41 (lv_at hl 0 rfl) ?_
          refine lv_lload_n hx hb dX6_firstWithGreatestSum_43 rfl (lv_at hl 3 rfl) ?_
          refine ll_le (tgt := 54) hx hb dX6_firstWithGreatestSum_44 dX6_firstWithGreatestSum_45 (by decide) (fun c8 => ?_) (fun c8 => ?_)
          · have h := gn_t h c8
            obtain ⟨v9, ev9, h⟩ := gn_nm h
            refine lv_iinc (v := v9) (lv' := [(4, .int v9), (5, .long r5), (0, .int x0), (1, .int x1), (2, .long x2)]) hx hb dX6_firstWithGreatestSum_54 hl (k := 4) rfl (by rw [ev9]; rfl) (by decide) rfl (fun ls hl => ?_)
            refine lv_goto (tgt := 7) hx hb dX6_firstWithGreatestSum_57 (by decide) ?_
            exact ih x0 x1 x2 v9 h ls (lv_sub hl [2, 3, 4, 0] rfl)
          · have h := gn_f h c8
            refine lv_iload hx hb dX6_firstWithGreatestSum_48 (lv_at hl 4 rfl) ?_
            refine lv_istore_n (lv' := [(1, .int x4), (5, .long r5), (0, .int x0), (2, .long x2), (4, .int x4)]) hx hb dX6_firstWithGreatestSum_50 rfl hl (by decide) rfl (fun ls hl => ?_)
            refine lv_lload hx hb dX6_firstWithGreatestSum_51 (lv_at hl 1 rfl) ?_
            refine lv_lstore_n (lv' := [(2, .long r5), (1, .int x4), (5, .long r5), (0, .int x0), (4, .int x4)]) hx hb dX6_firstWithGreatestSum_53 rfl hl (by decide) rfl (fun ls hl => ?_)
            obtain ⟨v10, ev10, h⟩ := gn_nm h
            refine lv_iinc (v := v10) (lv' := [(4, .int v10), (2, .long r5), (1, .int x4), (5, .long r5), (0, .int x0)]) hx hb dX6_firstWithGreatestSum_54 hl (k := 4) rfl (by rw [ev10]; rfl) (by decide) rfl (fun ls hl => ?_)
            refine lv_goto (tgt := 7) hx hb dX6_firstWithGreatestSum_57 (by decide) ?_
            exact ih x0 x4 r5 v10 h ls (lv_sub hl [4, 2, 1, 0] rfl)
end
set_option maxRecDepth 100000 in
theorem c_X6_firstWithGreatestSum (l : Launch) (z : Nat) (a0 : Int32) (r : Int32) (h : F_X6_firstWithGreatestSum z a0 = some r) : Met l yX6_firstWithGreatestSum wsX6_firstWithGreatestSum rm_X6_firstWithGreatestSum (qA [.int a0]) (qP (.int r)) 0 0 (fun _ => False) := by
  refine Met.ofW (cc := cX6_firstWithGreatestSum) (maxL := 7) (ret := (some .int)) (by decide) rfl ?_
  intro p e s m args below meth c s₁ B hml hv
  obtain ⟨rfl, hN⟩ := hv
  have hx := B.exec
  have hb := B.bytes
  have hr := B.returns
  have hts := atoms_spec (ws := wsX6_firstWithGreatestSum) B.pre
  have hown : s.vm.findClass RX6 = some m.cls := findClass_of_methodNamed B.named
  have hlk := B.notSynchronized
  have hcl : 0 ≤ (rm_X6_firstWithGreatestSum).cells := Nat.zero_le _
  have hsl : 0 ≤ (rm_X6_firstWithGreatestSum).slots := Nat.zero_le _
  have Cc : Cx p s m _ meth c cX6_firstWithGreatestSum 7 RX6 wsX6_firstWithGreatestSum (some .int) := ⟨hx, hb, hml, hown, hts, hr, hlk, hN⟩
  have hl := lv_entry ([.int a0]) (n := 7) (Nat.le_of_ble_eq_true rfl)
  rw [lg_entry_eq]
  generalize (lg_sl ([.int a0]) ++ List.replicate (7 - (lg_sl ([.int a0])).length) Slot.unset).toArray = ls at hl ⊢
  have hl : lv_has ls 7 [(0, .int a0)] := hl
  rw [F_X6_firstWithGreatestSum] at h
  refine lv_iconst (v := (-1 : Int32)) hx hb dX6_firstWithGreatestSum_0 (by decide) ?_
  refine lv_istore_n (lv' := [(1, .int (-1 : Int32)), (0, .int a0)]) hx hb dX6_firstWithGreatestSum_1 rfl hl (by decide) rfl (fun ls hl => ?_)
  refine lv_lconst (v := (0 : Int64)) hx hb dX6_firstWithGreatestSum_2 (by decide) ?_
  refine lv_lstore_n (lv' := [(2, .long (0 : Int64)), (1, .int (-1 : Int32)), (0, .int a0)]) hx hb dX6_firstWithGreatestSum_3 rfl hl (by decide) rfl (fun ls hl => ?_)
  refine lv_iconst (v := (0 : Int32)) hx hb dX6_firstWithGreatestSum_4 (by decide) ?_
  refine lv_istore (lv' := [(4, .int (0 : Int32)), (2, .long (0 : Int64)), (1, .int (-1 : Int32)), (0, .int a0)]) hx hb dX6_firstWithGreatestSum_5 hl (by decide) rfl (fun ls hl => ?_)
  exact w_X6_firstWithGreatestSum_7 Cc z a0 (-1 : Int32) (0 : Int64) (0 : Int32) h ls (lv_sub hl [3, 2, 1, 0] rfl)
def rm_X0_isRing : Room := { frames := 2, cells := 0, slots := 0, locals := 54 }
section
variable {p : Program} {l : Launch} {e : Env} {s : State} {m : MethodId} {args : Array Value} {below : List Frame} {meth : Method} {c : Code} {z : Nat}
end
set_option maxRecDepth 100000 in
theorem c_X0_isRing (l : Launch) (z : Nat) (a0 : Int32) (a1 : Int32) (r : Int32) (h : F_X0_isRing z a0 a1 = some r) : Met l yX0_isRing wsX0_isRing rm_X0_isRing (qA [.int a0, .int a1]) (qP (.int r)) 0 0 (fun _ => False) := by
  refine Met.ofW (cc := cX0_isRing) (maxL := 2) (ret := (some .boolean)) (by decide) rfl ?_
  intro p e s m args below meth c s₁ B hml hv
  obtain ⟨rfl, hN⟩ := hv
  have hx := B.exec
  have hb := B.bytes
  have hr := B.returns
  have hts := atoms_spec (ws := wsX0_isRing) B.pre
  have hown : s.vm.findClass RX0 = some m.cls := findClass_of_methodNamed B.named
  have hlk := B.notSynchronized
  have hcl : 0 ≤ (rm_X0_isRing).cells := Nat.zero_le _
  have hsl : 0 ≤ (rm_X0_isRing).slots := Nat.zero_le _
  have Cc : Cx p s m _ meth c cX0_isRing 2 RX0 wsX0_isRing (some .boolean) := ⟨hx, hb, hml, hown, hts, hr, hlk, hN⟩
  have hl := lv_entry ([.int a0, .int a1]) (n := 2) (Nat.le_of_ble_eq_true rfl)
  rw [lg_entry_eq]
  generalize (lg_sl ([.int a0, .int a1]) ++ List.replicate (2 - (lg_sl ([.int a0, .int a1])).length) Slot.unset).toArray = ls at hl ⊢
  have hl : lv_has ls 2 [(0, .int a0), (1, .int a1)] := hl
  rw [F_X0_isRing] at h
  refine lv_iload_n hx hb dX0_isRing_0 rfl (lv_at hl 0 rfl) ?_
  refine lv_i2l hx hb dX0_isRing_1 rfl ?_
  refine lv_ldc2 hx hb hown (hts (.constantLong RX0 23 (2)) (by decide +kernel)) dX0_isRing_2 ?_
  refine lv_ldc2 hx hb hown (hts (.constantLong RX0 25 (1000)) (by decide +kernel)) dX0_isRing_5 ?_
  obtain ⟨r1, qr1, h⟩ := gn_bd h
  refine pc_SN (rest := []) ⟨hx, hb, hml, hown, hts⟩ hN (c_X6_lies l z _ _ _ r1 qr1) ⟨va_cnB 3 hts gX0_isRing_X6_lies_n27 rfl rfl rfl hN.1 (hts (.initialized RX6) (by decide +kernel)) (by decide +kernel) ⟨(Nat.le_of_ble_eq_true rfl), (Nat.le_of_ble_eq_true rfl)⟩, hts (.static yX6_lies) (by decide +kernel), trivial⟩ rfl hl.1 rfl (Nat.le_of_ble_eq_true rfl) dX0_isRing_8 hcl hsl ?_
  refine lv_if_eq (tgt := 30) hx hb dX0_isRing_11 (by decide) (fun c2 => ?_) (fun c2 => ?_)
  · have h := gn_t h c2
    refine lv_iconst (v := (0 : Int32)) hx hb dX0_isRing_30 (by decide) ?_
    obtain rfl := gn_some h
    exact W.zret (ty := .boolean) hx hb hr rfl (fun t ht _ => ⟨rfl, ht⟩) (fun _ hq => by cases hq) dX0_isRing_31 hlk
  · have h := gn_f h c2
    refine lv_iload_n hx hb dX0_isRing_14 rfl (lv_at hl 1 rfl) ?_
    refine lv_i2l hx hb dX0_isRing_15 rfl ?_
    refine lv_iload_n hx hb dX0_isRing_16 rfl (lv_at hl 0 rfl) ?_
    refine lv_i2l hx hb dX0_isRing_17 rfl ?_
    obtain ⟨r3, qr3, h⟩ := gn_bd h
    refine pc_S (rest := []) ⟨hx, hb, hml, hown, hts⟩ hN (c_X5_divisor l z _ _ r3 qr3) (va_cwS 2 hts gX0_isRing_X5_divisor rfl rfl rfl (by decide +kernel) ⟨(Nat.le_of_ble_eq_true rfl), (Nat.le_of_ble_eq_true rfl)⟩) rfl hl.1 rfl (Nat.le_of_ble_eq_true rfl) dX0_isRing_18 hcl hsl ?_
    refine lv_lconst (v := (1 : Int64)) hx hb dX0_isRing_21 (by decide) ?_
    refine ll_ne (tgt := 30) hx hb dX0_isRing_22 dX0_isRing_23 (by decide) (fun c4 => ?_) (fun c4 => ?_)
    · have h := gn_f h c4
      refine lv_iconst (v := (0 : Int32)) hx hb dX0_isRing_30 (by decide) ?_
      obtain rfl := gn_some h
      exact W.zret (ty := .boolean) hx hb hr rfl (fun t ht _ => ⟨rfl, ht⟩) (fun _ hq => by cases hq) dX0_isRing_31 hlk
    · have h := gn_t h c4
      refine lv_iconst (v := (1 : Int32)) hx hb dX0_isRing_26 (by decide) ?_
      refine lv_goto (tgt := 31) hx hb dX0_isRing_27 (by decide) ?_
      obtain rfl := gn_some h
      exact W.zret (ty := .boolean) hx hb hr rfl (fun t ht _ => ⟨rfl, ht⟩) (fun _ hq => by cases hq) dX0_isRing_31 hlk
def rm_X0_match : Room := { frames := 0, cells := 0, slots := 0, locals := 0 }
section
variable {p : Program} {l : Launch} {e : Env} {s : State} {m : MethodId} {args : Array Value} {below : List Frame} {meth : Method} {c : Code} {z : Nat}
end
set_option maxRecDepth 100000 in
theorem c_X0_match (l : Launch) (z : Nat) (a0 : Int32) (a1 : Int32) (a2 : Int32) (r : Int32) (h : F_X0_match z a0 a1 a2 = some r) : Met l yX0_match wsX0_match rm_X0_match (qA [.int a0, .int a1, .int a2]) (qP (.int r)) 0 0 (fun _ => False) := by
  refine Met.ofW (cc := cX0_match) (maxL := 3) (ret := (some .boolean)) (by decide) rfl ?_
  intro p e s m args below meth c s₁ B hml hv
  obtain ⟨rfl, hN⟩ := hv
  have hx := B.exec
  have hb := B.bytes
  have hr := B.returns
  have hts := atoms_spec (ws := wsX0_match) B.pre
  have hown : s.vm.findClass RX0 = some m.cls := findClass_of_methodNamed B.named
  have hlk := B.notSynchronized
  have hcl : 0 ≤ (rm_X0_match).cells := Nat.zero_le _
  have hsl : 0 ≤ (rm_X0_match).slots := Nat.zero_le _
  have Cc : Cx p s m _ meth c cX0_match 3 RX0 wsX0_match (some .boolean) := ⟨hx, hb, hml, hown, hts, hr, hlk, hN⟩
  have hl := lv_entry ([.int a0, .int a1, .int a2]) (n := 3) (Nat.le_of_ble_eq_true rfl)
  rw [lg_entry_eq]
  generalize (lg_sl ([.int a0, .int a1, .int a2]) ++ List.replicate (3 - (lg_sl ([.int a0, .int a1, .int a2])).length) Slot.unset).toArray = ls at hl ⊢
  have hl : lv_has ls 3 [(0, .int a0), (1, .int a1), (2, .int a2)] := hl
  rw [F_X0_match] at h
  refine lv_iload_n hx hb dX0_match_0 rfl (lv_at hl 1 rfl) ?_
  refine lv_iload_n hx hb dX0_match_1 rfl (lv_at hl 2 rfl) ?_
  refine lv_icmp_eq (tgt := 18) hx hb dX0_match_2 (by decide) (fun c1 => ?_) (fun c1 => ?_)
  · have h := gn_t h c1
    refine lv_iconst (v := (1 : Int32)) hx hb dX0_match_18 (by decide) ?_
    refine lv_goto (tgt := 23) hx hb dX0_match_19 (by decide) ?_
    obtain rfl := gn_some h
    exact W.zret (ty := .boolean) hx hb hr rfl (fun t ht _ => ⟨rfl, ht⟩) (fun _ hq => by cases hq) dX0_match_23 hlk
  · have h := gn_f h c1
    refine lv_iload_n hx hb dX0_match_5 rfl (lv_at hl 0 rfl) ?_
    refine lv_if_le (tgt := 22) hx hb dX0_match_6 (by decide) (fun c2 => ?_) (fun c2 => ?_)
    · have h := gn_t h c2
      refine lv_iconst (v := (0 : Int32)) hx hb dX0_match_22 (by decide) ?_
      obtain rfl := gn_some h
      exact W.zret (ty := .boolean) hx hb hr rfl (fun t ht _ => ⟨rfl, ht⟩) (fun _ hq => by cases hq) dX0_match_23 hlk
    · have h := gn_f h c2
      refine lv_iload_n hx hb dX0_match_9 rfl (lv_at hl 1 rfl) ?_
      refine lv_iload_n hx hb dX0_match_10 rfl (lv_at hl 2 rfl) ?_
      refine lv_imul hx hb dX0_match_11 ?_
      refine lv_iload_n hx hb dX0_match_12 rfl (lv_at hl 0 rfl) ?_
      obtain ⟨n3, h⟩ := gn_nz h
      refine lv_irem hx hb dX0_match_13 n3 ?_
      refine lv_iconst (v := (1 : Int32)) hx hb dX0_match_14 (by decide) ?_
      refine lv_icmp_ne (tgt := 22) hx hb dX0_match_15 (by decide) (fun c4 => ?_) (fun c4 => ?_)
      · have h := gn_f h c4
        refine lv_iconst (v := (0 : Int32)) hx hb dX0_match_22 (by decide) ?_
        obtain rfl := gn_some h
        exact W.zret (ty := .boolean) hx hb hr rfl (fun t ht _ => ⟨rfl, ht⟩) (fun _ hq => by cases hq) dX0_match_23 hlk
      · have h := gn_t h c4
        refine lv_iconst (v := (1 : Int32)) hx hb dX0_match_18 (by decide) ?_
        refine lv_goto (tgt := 23) hx hb dX0_match_19 (by decide) ?_
        obtain rfl := gn_some h
        exact W.zret (ty := .boolean) hx hb hr rfl (fun t ht _ => ⟨rfl, ht⟩) (fun _ hq => by cases hq) dX0_match_23 hlk
def rm_X0_leastOf : Room := { frames := 2, cells := 0, slots := 0, locals := 63 }
section
variable {p : Program} {l : Launch} {e : Env} {s : State} {m : MethodId} {args : Array Value} {below : List Frame} {meth : Method} {c : Code} {z : Nat}
end
set_option maxRecDepth 100000 in
theorem c_X0_leastOf (l : Launch) (z : Nat) (a0 : Int32) (a1 : Int32) (r : Int32) (h : F_X0_leastOf z a0 a1 = some r) : Met l yX0_leastOf wsX0_leastOf rm_X0_leastOf (qA [.int a0, .int a1]) (qP (.int r)) 0 0 (fun _ => False) := by
  refine Met.ofW (cc := cX0_leastOf) (maxL := 4) (ret := (some .int)) (by decide) rfl ?_
  intro p e s m args below meth c s₁ B hml hv
  obtain ⟨rfl, hN⟩ := hv
  have hx := B.exec
  have hb := B.bytes
  have hr := B.returns
  have hts := atoms_spec (ws := wsX0_leastOf) B.pre
  have hown : s.vm.findClass RX0 = some m.cls := findClass_of_methodNamed B.named
  have hlk := B.notSynchronized
  have hcl : 0 ≤ (rm_X0_leastOf).cells := Nat.zero_le _
  have hsl : 0 ≤ (rm_X0_leastOf).slots := Nat.zero_le _
  have Cc : Cx p s m _ meth c cX0_leastOf 4 RX0 wsX0_leastOf (some .int) := ⟨hx, hb, hml, hown, hts, hr, hlk, hN⟩
  have hl := lv_entry ([.int a0, .int a1]) (n := 4) (Nat.le_of_ble_eq_true rfl)
  rw [lg_entry_eq]
  generalize (lg_sl ([.int a0, .int a1]) ++ List.replicate (4 - (lg_sl ([.int a0, .int a1])).length) Slot.unset).toArray = ls at hl ⊢
  have hl : lv_has ls 4 [(0, .int a0), (1, .int a1)] := hl
  rw [F_X0_leastOf] at h
  refine lv_iload_n hx hb dX0_leastOf_0 rfl (lv_at hl 0 rfl) ?_
  refine lv_iconst (v := (1 : Int32)) hx hb dX0_leastOf_1 (by decide) ?_
  refine lv_icmp_ge (tgt := 7) hx hb dX0_leastOf_2 (by decide) (fun c1 => ?_) (fun c1 => ?_)
  · have h := gn_t h c1
    refine lv_iload_n hx hb dX0_leastOf_7 rfl (lv_at hl 1 rfl) ?_
    refine lv_iload_n hx hb dX0_leastOf_8 rfl (lv_at hl 0 rfl) ?_
    obtain ⟨r2, qr2, h⟩ := gn_bd h
    refine pc_S (rest := []) ⟨hx, hb, hml, hown, hts⟩ hN (c_J9_floorMod_7cf53 l z _ _ r2 qr2) (va_cwS 2 hts gX0_leastOf_J9_floorMod_7cf53 rfl rfl rfl (by decide +kernel) ⟨(Nat.le_of_ble_eq_true rfl), (Nat.le_of_ble_eq_true rfl)⟩) rfl hl.1 rfl (Nat.le_of_ble_eq_true rfl) dX0_leastOf_9 hcl hsl ?_
    refine lv_istore_n (lv' := [(2, .int r2), (0, .int a0), (1, .int a1)]) hx hb dX0_leastOf_12 rfl hl (by decide) rfl (fun ls hl => ?_)
    refine lv_iload_n hx hb dX0_leastOf_13 rfl (lv_at hl 2 rfl) ?_
    refine lv_i2l hx hb dX0_leastOf_14 rfl ?_
    refine lv_iload_n hx hb dX0_leastOf_15 rfl (lv_at hl 1 rfl) ?_
    refine lv_i2l hx hb dX0_leastOf_16 rfl ?_
    obtain ⟨r3, qr3, h⟩ := gn_bd h
    refine pc_S (rest := []) ⟨hx, hb, hml, hown, hts⟩ hN (c_X5_inverse l z _ _ r3 qr3) (va_cwS 2 hts gX0_leastOf_X5_inverse rfl rfl rfl (by decide +kernel) ⟨(Nat.le_of_ble_eq_true rfl), (Nat.le_of_ble_eq_true rfl)⟩) rfl hl.1 rfl (Nat.le_of_ble_eq_true rfl) dX0_leastOf_17 hcl hsl ?_
    refine lv_l2i hx hb dX0_leastOf_20 rfl ?_
    obtain ⟨v4, ev4, h⟩ := gn_nm h
    refine ln_i ev4 ?_
    refine lv_istore_n (lv' := [(3, .int v4), (2, .int r2), (0, .int a0), (1, .int a1)]) hx hb dX0_leastOf_21 rfl hl (by decide) rfl (fun ls hl => ?_)
    refine lv_iload_n hx hb dX0_leastOf_22 rfl (lv_at hl 1 rfl) ?_
    refine lv_iload_n hx hb dX0_leastOf_23 rfl (lv_at hl 2 rfl) ?_
    refine lv_iload_n hx hb dX0_leastOf_24 rfl (lv_at hl 1 rfl) ?_
    refine lv_isub hx hb dX0_leastOf_25 ?_
    refine va_mmin hx hb (hml.trans hl.1.symm) hown (hts (.methodLink RX0 46 Lib.Math.min.name) (by decide +kernel)) (hts (.static Lib.Math.min.name) (by decide +kernel)) (hts (.initialized "java/lang/Math") (by decide +kernel)) (hts (.code Lib.Math.min.name Lib.Math.min.code 2 (some .int)) (by decide +kernel)) (Nat.le_of_ble_eq_true rfl) (Nat.le_of_ble_eq_true rfl) hcl hsl dX0_leastOf_26 ?_
    refine lv_iload_n hx hb dX0_leastOf_29 rfl (lv_at hl 0 rfl) ?_
    refine lv_iload_n hx hb dX0_leastOf_30 rfl (lv_at hl 2 rfl) ?_
    refine lv_iload_n hx hb dX0_leastOf_31 rfl (lv_at hl 0 rfl) ?_
    refine lv_isub hx hb dX0_leastOf_32 ?_
    refine va_mmin hx hb (hml.trans hl.1.symm) hown (hts (.methodLink RX0 46 Lib.Math.min.name) (by decide +kernel)) (hts (.static Lib.Math.min.name) (by decide +kernel)) (hts (.initialized "java/lang/Math") (by decide +kernel)) (hts (.code Lib.Math.min.name Lib.Math.min.code 2 (some .int)) (by decide +kernel)) (Nat.le_of_ble_eq_true rfl) (Nat.le_of_ble_eq_true rfl) hcl hsl dX0_leastOf_33 ?_
    refine va_mmin hx hb (hml.trans hl.1.symm) hown (hts (.methodLink RX0 46 Lib.Math.min.name) (by decide +kernel)) (hts (.static Lib.Math.min.name) (by decide +kernel)) (hts (.initialized "java/lang/Math") (by decide +kernel)) (hts (.code Lib.Math.min.name Lib.Math.min.code 2 (some .int)) (by decide +kernel)) (Nat.le_of_ble_eq_true rfl) (Nat.le_of_ble_eq_true rfl) hcl hsl dX0_leastOf_36 ?_
    obtain rfl := gn_some h
    exact W.iret hx hb hr (fun t ht _ => ⟨rfl, ht⟩) (fun _ hq => by cases hq) dX0_leastOf_39 hlk
  · have h := gn_f h c1
    refine lv_iconst (v := (-1 : Int32)) hx hb dX0_leastOf_5 (by decide) ?_
    obtain rfl := gn_some h
    exact W.iret hx hb hr (fun t ht _ => ⟨rfl, ht⟩) (fun _ hq => by cases hq) dX0_leastOf_6 hlk
def rm_X2_isMatrix : Room := { frames := 1, cells := 0, slots := 0, locals := 25 }
section
variable {p : Program} {l : Launch} {e : Env} {s : State} {m : MethodId} {args : Array Value} {below : List Frame} {meth : Method} {c : Code} {z : Nat}
end
set_option maxRecDepth 100000 in
theorem c_X2_isMatrix (l : Launch) (z : Nat) (a0 : Int64) (a1 : Int64) (a2 : Int64) (a3 : Int64) (r : Int32) (h : F_X2_isMatrix z a0 a1 a2 a3 = some r) : Met l yX2_isMatrix wsX2_isMatrix rm_X2_isMatrix (qA [.long a0, .long a1, .long a2, .long a3]) (qP (.int r)) 0 0 (fun _ => False) := by
  refine Met.ofW (cc := cX2_isMatrix) (maxL := 8) (ret := (some .boolean)) (by decide) rfl ?_
  intro p e s m args below meth c s₁ B hml hv
  obtain ⟨rfl, hN⟩ := hv
  have hx := B.exec
  have hb := B.bytes
  have hr := B.returns
  have hts := atoms_spec (ws := wsX2_isMatrix) B.pre
  have hown : s.vm.findClass RX2 = some m.cls := findClass_of_methodNamed B.named
  have hlk := B.notSynchronized
  have hcl : 0 ≤ (rm_X2_isMatrix).cells := Nat.zero_le _
  have hsl : 0 ≤ (rm_X2_isMatrix).slots := Nat.zero_le _
  have Cc : Cx p s m _ meth c cX2_isMatrix 8 RX2 wsX2_isMatrix (some .boolean) := ⟨hx, hb, hml, hown, hts, hr, hlk, hN⟩
  have hl := lv_entry ([.long a0, .long a1, .long a2, .long a3]) (n := 8) (Nat.le_of_ble_eq_true rfl)
  rw [lg_entry_eq]
  generalize (lg_sl ([.long a0, .long a1, .long a2, .long a3]) ++ List.replicate (8 - (lg_sl ([.long a0, .long a1, .long a2, .long a3])).length) Slot.unset).toArray = ls at hl ⊢
  have hl : lv_has ls 8 [(0, .long a0), (2, .long a1), (4, .long a2), (6, .long a3)] := hl
  rw [F_X2_isMatrix] at h
  refine lv_lload_n hx hb dX2_isMatrix_0 rfl (lv_at hl 0 rfl) ?_
  refine lv_ldc2 hx hb hown (hts (.constantLong RX2 24 (-1000000000)) (by decide +kernel)) dX2_isMatrix_1 ?_
  refine lv_ldc2 hx hb hown (hts (.constantLong RX2 26 (1000000000)) (by decide +kernel)) dX2_isMatrix_4 ?_
  obtain ⟨r1, qr1, h⟩ := gn_bd h
  refine pc_SN (rest := []) ⟨hx, hb, hml, hown, hts⟩ hN (c_X6_lies l z _ _ _ r1 qr1) ⟨va_cnB 3 hts gX2_isMatrix_X6_lies_n28 rfl rfl rfl hN.2.1 (hts (.initialized RX6) (by decide +kernel)) (by decide +kernel) ⟨(Nat.le_of_ble_eq_true rfl), (Nat.le_of_ble_eq_true rfl)⟩, hts (.static yX6_lies) (by decide +kernel), trivial⟩ rfl hl.1 rfl (Nat.le_of_ble_eq_true rfl) dX2_isMatrix_7 hcl hsl ?_
  refine lv_if_eq (tgt := 72) hx hb dX2_isMatrix_10 (by decide) (fun c2 => ?_) (fun c2 => ?_)
  · have h := gn_t h c2
    refine lv_iconst (v := (0 : Int32)) hx hb dX2_isMatrix_72 (by decide) ?_
    obtain rfl := gn_some h
    exact W.zret (ty := .boolean) hx hb hr rfl (fun t ht _ => ⟨rfl, ht⟩) (fun _ hq => by cases hq) dX2_isMatrix_73 hlk
  · have h := gn_f h c2
    refine lv_lload_n hx hb dX2_isMatrix_13 rfl (lv_at hl 1 rfl) ?_
    refine lv_ldc2 hx hb hown (hts (.constantLong RX2 24 (-1000000000)) (by decide +kernel)) dX2_isMatrix_14 ?_
    refine lv_ldc2 hx hb hown (hts (.constantLong RX2 26 (1000000000)) (by decide +kernel)) dX2_isMatrix_17 ?_
    obtain ⟨r3, qr3, h⟩ := gn_bd h
    refine pc_SN (rest := []) ⟨hx, hb, hml, hown, hts⟩ hN (c_X6_lies l z _ _ _ r3 qr3) ⟨va_cnB 3 hts gX2_isMatrix_X6_lies_n28 rfl rfl rfl hN.2.1 (hts (.initialized RX6) (by decide +kernel)) (by decide +kernel) ⟨(Nat.le_of_ble_eq_true rfl), (Nat.le_of_ble_eq_true rfl)⟩, hts (.static yX6_lies) (by decide +kernel), trivial⟩ rfl hl.1 rfl (Nat.le_of_ble_eq_true rfl) dX2_isMatrix_20 hcl hsl ?_
    refine lv_if_eq (tgt := 72) hx hb dX2_isMatrix_23 (by decide) (fun c4 => ?_) (fun c4 => ?_)
    · have h := gn_t h c4
      refine lv_iconst (v := (0 : Int32)) hx hb dX2_isMatrix_72 (by decide) ?_
      obtain rfl := gn_some h
      exact W.zret (ty := .boolean) hx hb hr rfl (fun t ht _ => ⟨rfl, ht⟩) (fun _ hq => by cases hq) dX2_isMatrix_73 hlk
    · have h := gn_f h c4
      refine lv_lload hx hb dX2_isMatrix_26 (lv_at hl 2 rfl) ?_
      refine lv_ldc2 hx hb hown (hts (.constantLong RX2 24 (-1000000000)) (by decide +kernel)) dX2_isMatrix_28 ?_
      refine lv_ldc2 hx hb hown (hts (.constantLong RX2 26 (1000000000)) (by decide +kernel)) dX2_isMatrix_31 ?_
      obtain ⟨r5, qr5, h⟩ := gn_bd h
      refine pc_SN (rest := []) ⟨hx, hb, hml, hown, hts⟩ hN (c_X6_lies l z _ _ _ r5 qr5) ⟨va_cnB 3 hts gX2_isMatrix_X6_lies_n28 rfl rfl rfl hN.2.1 (hts (.initialized RX6) (by decide +kernel)) (by decide +kernel) ⟨(Nat.le_of_ble_eq_true rfl), (Nat.le_of_ble_eq_true rfl)⟩, hts (.static yX6_lies) (by decide +kernel), trivial⟩ rfl hl.1 rfl (Nat.le_of_ble_eq_true rfl) dX2_isMatrix_34 hcl hsl ?_
      refine lv_if_eq (tgt := 72) hx hb dX2_isMatrix_37 (by decide) (fun c6 => ?_) (fun c6 => ?_)
      · have h := gn_t h c6
        refine lv_iconst (v := (0 : Int32)) hx hb dX2_isMatrix_72 (by decide) ?_
        obtain rfl := gn_some h
        exact W.zret (ty := .boolean) hx hb hr rfl (fun t ht _ => ⟨rfl, ht⟩) (fun _ hq => by cases hq) dX2_isMatrix_73 hlk
      · have h := gn_f h c6
        refine lv_lload hx hb dX2_isMatrix_40 (lv_at hl 3 rfl) ?_
        refine lv_ldc2 hx hb hown (hts (.constantLong RX2 24 (-1000000000)) (by decide +kernel)) dX2_isMatrix_42 ?_
        refine lv_ldc2 hx hb hown (hts (.constantLong RX2 26 (1000000000)) (by decide +kernel)) dX2_isMatrix_45 ?_
        obtain ⟨r7, qr7, h⟩ := gn_bd h
        refine pc_SN (rest := []) ⟨hx, hb, hml, hown, hts⟩ hN (c_X6_lies l z _ _ _ r7 qr7) ⟨va_cnB 3 hts gX2_isMatrix_X6_lies_n28 rfl rfl rfl hN.2.1 (hts (.initialized RX6) (by decide +kernel)) (by decide +kernel) ⟨(Nat.le_of_ble_eq_true rfl), (Nat.le_of_ble_eq_true rfl)⟩, hts (.static yX6_lies) (by decide +kernel), trivial⟩ rfl hl.1 rfl (Nat.le_of_ble_eq_true rfl) dX2_isMatrix_48 hcl hsl ?_
        refine lv_if_eq (tgt := 72) hx hb dX2_isMatrix_51 (by decide) (fun c8 => ?_) (fun c8 => ?_)
        · have h := gn_t h c8
          refine lv_iconst (v := (0 : Int32)) hx hb dX2_isMatrix_72 (by decide) ?_
          obtain rfl := gn_some h
          exact W.zret (ty := .boolean) hx hb hr rfl (fun t ht _ => ⟨rfl, ht⟩) (fun _ hq => by cases hq) dX2_isMatrix_73 hlk
        · have h := gn_f h c8
          refine lv_lload_n hx hb dX2_isMatrix_54 rfl (lv_at hl 0 rfl) ?_
          refine lv_lload hx hb dX2_isMatrix_55 (lv_at hl 3 rfl) ?_
          refine lv_lmul hx hb dX2_isMatrix_57 ?_
          refine lv_lload_n hx hb dX2_isMatrix_58 rfl (lv_at hl 1 rfl) ?_
          refine lv_lload hx hb dX2_isMatrix_59 (lv_at hl 2 rfl) ?_
          refine lv_lmul hx hb dX2_isMatrix_61 ?_
          refine lv_lsub hx hb dX2_isMatrix_62 ?_
          refine lv_lconst (v := (1 : Int64)) hx hb dX2_isMatrix_63 (by decide) ?_
          refine ll_ne (tgt := 72) hx hb dX2_isMatrix_64 dX2_isMatrix_65 (by decide) (fun c9 => ?_) (fun c9 => ?_)
          · have h := gn_f h c9
            refine lv_iconst (v := (0 : Int32)) hx hb dX2_isMatrix_72 (by decide) ?_
            obtain rfl := gn_some h
            exact W.zret (ty := .boolean) hx hb hr rfl (fun t ht _ => ⟨rfl, ht⟩) (fun _ hq => by cases hq) dX2_isMatrix_73 hlk
          · have h := gn_t h c9
            refine lv_iconst (v := (1 : Int32)) hx hb dX2_isMatrix_68 (by decide) ?_
            refine lv_goto (tgt := 73) hx hb dX2_isMatrix_69 (by decide) ?_
            obtain rfl := gn_some h
            exact W.zret (ty := .boolean) hx hb hr rfl (fun t ht _ => ⟨rfl, ht⟩) (fun _ hq => by cases hq) dX2_isMatrix_73 hlk
