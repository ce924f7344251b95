/-! the law as a function: what a call does to the class's state, the reference's and the latest fraction, if both answer alike -/
abbrev LSt : Type := CS × MS × (Int64 × Int64)
def bo (x : Int32) : Int32 := if x = 0 then 0 else 1

def bd4 {α β γ δ ε : Type} (o : Option (α × β × γ × δ)) (f : α → β → γ → δ → Option ε) : Option ε := o.bind fun q => f q.1 q.2.1 q.2.2.1 q.2.2.2
theorem gn_bd4 {α β γ δ ε : Type} {o : Option (α × β × γ × δ)} {f : α → β → γ → δ → Option ε} {r : ε} (h : bd4 o f = some r) : ∃ a b c d, o = some (a, b, c, d) ∧ f a b c d = some r := by
  cases o with
  | none => cases h
  | some q => exact ⟨q.1, q.2.1, q.2.2.1, q.2.2.2, rfl, h⟩
def lc0 (z : Nat) (x1 x2 x3 x4 x5 : Int32) (C : CS) (M : MS) (lt : Int64 × Int64) : Option LSt :=
  (F_X6_saw z x1 x2 (bo x3)).bind fun r => bd2 (F_X7_saw z x1 x2 (bo x3) M) fun q M1 => if r = q then some (C, M1, lt) else none
def lc1 (z : Nat) (x1 x2 x3 x4 x5 : Int32) (C : CS) (M : MS) (lt : Int64 × Int64) : Option LSt :=
  (F_X6_sum z x1 x2 (bo x3)).bind fun r => bd2 (F_X7_sum z x1 x2 (bo x3) M) fun q M1 => if r = q then some (C, M1, lt) else none
def lc2 (z : Nat) (x1 x2 x3 x4 x5 : Int32) (C : CS) (M : MS) (lt : Int64 × Int64) : Option LSt :=
  (F_X6_both z x1 x2 (bo x3)).bind fun r => bd2 (F_X7_both z x1 x2 (bo x3) M) fun q M1 => if r = q then some (C, M1, lt) else none
def lc3 (z : Nat) (x1 x2 x3 x4 x5 : Int32) (C : CS) (M : MS) (lt : Int64 × Int64) : Option LSt :=
  (F_X6_three z x1 x2 x3 (bo x4)).bind fun r => bd2 (F_X7_three z x1 x2 x3 (bo x4) M) fun q M1 => if r = q then some (C, M1, lt) else none
def lc4 (z : Nat) (x1 x2 x3 x4 x5 : Int32) (C : CS) (M : MS) (lt : Int64 × Int64) : Option LSt :=
  bd2 (F_X6_above z x1 x2 x3 C) fun r C1 => bd2 (F_X7_above z x1 x2 x3 M) fun q M1 => if r = q then some (C1, M1, lt) else none
def lc5 (z : Nat) (x1 x2 x3 x4 x5 : Int32) (C : CS) (M : MS) (lt : Int64 × Int64) : Option LSt :=
  bd2 (F_X6_chain z x1 x2 x3 C) fun r C1 => bd2 (F_X7_chain z x1 x2 x3 M) fun q M1 => if r = q then some (C1, M1, lt) else none
def lc6 (z : Nat) (x1 x2 x3 x4 x5 : Int32) (C : CS) (M : MS) (lt : Int64 × Int64) : Option LSt :=
  bd2 (F_X6_minus z x1 x2 x3 C) fun r C1 => bd2 (F_X7_minus z x1 x2 x3 M) fun q M1 => if r = q then some (C1, M1, lt) else none
def lc7 (z : Nat) (x1 x2 x3 x4 x5 : Int32) (C : CS) (M : MS) (lt : Int64 × Int64) : Option LSt :=
  bd2 (F_X6_alike z x1 x2 x3 C) fun r C1 => bd2 (F_X7_alike z x1 x2 x3 M) fun q M1 => if r = q then some (C1, M1, lt) else none
def lc8 (z : Nat) (x1 x2 x3 x4 x5 : Int32) (C : CS) (M : MS) (lt : Int64 × Int64) : Option LSt :=
  bd2 (F_X6_sorts z x1 x2 C) fun r C1 => bd2 (F_X7_sorts z x1 x2 M) fun q M1 => if r = q then some (C1, M1, lt) else none
def lc9 (z : Nat) (x1 x2 x3 x4 x5 : Int32) (C : CS) (M : MS) (lt : Int64 × Int64) : Option LSt :=
  bd2 (F_X6_steps z x1 x2 x3 x4 C) fun r C1 => bd2 (F_X7_steps z x1 x2 x3 x4 M) fun q M1 => if r = q then some (C1, M1, lt) else none
def lc10 (z : Nat) (x1 x2 x3 x4 x5 : Int32) (C : CS) (M : MS) (lt : Int64 × Int64) : Option LSt :=
  bd2 (F_X6_triangle z x1 x2 x3 C) fun r C1 => bd2 (F_X7_triangle z x1 x2 x3 M) fun q M1 => if r = q then some (C1, M1, lt) else none
def lc11 (z : Nat) (x1 x2 x3 x4 x5 : Int32) (C : CS) (M : MS) (lt : Int64 × Int64) : Option LSt :=
  bd2 (F_X6_inside z x1 x2 x3 C) fun r C1 => bd2 (F_X7_inside z x1 x2 x3 M) fun q M1 => if r = q then some (C1, M1, lt) else none
def lc12 (z : Nat) (x1 x2 x3 x4 x5 : Int32) (C : CS) (M : MS) (lt : Int64 × Int64) : Option LSt :=
  bd2 (F_X6_pyramid z x1 x2 x3 C) fun r C1 => bd2 (F_X7_pyramid z x1 x2 x3 M) fun q M1 => if r = q then some (C1, M1, lt) else none
def lc13 (z : Nat) (x1 x2 x3 x4 x5 : Int32) (C : CS) (M : MS) (lt : Int64 × Int64) : Option LSt :=
  bd2 (F_X7_of z x1 M) fun q M1 => bd2 (F_X7_thrown z M1) fun q1 M2 => match ofV x1 C with
    | some r => if q1 = 0 ∧ Int32.toInt64 r = Int32.toInt64 q then some (C, M2, lt) else none
    | none => if q1 = 1 then some (C, M2, lt) else none
def lc14 (z : Nat) (x1 x2 x3 x4 x5 : Int32) (C : CS) (M : MS) (lt : Int64 × Int64) : Option LSt :=
  bd2 (F_X6_set z x1 x2 x3 x4 C) fun r C1 => bd2 (F_X7_set z x1 x2 x3 x4 M) fun q M1 => if r = q then some (C1, M1, lt) else none
def lc15 (z : Nat) (x1 x2 x3 x4 x5 : Int32) (C : CS) (M : MS) (lt : Int64 × Int64) : Option LSt :=
  bd2 (F_X6_turn z  C) fun r C1 => bd2 (F_X7_turn z  M) fun q M1 => if r = q then some (C1, M1, lt) else none
def lc16 (z : Nat) (x1 x2 x3 x4 x5 : Int32) (C : CS) (M : MS) (lt : Int64 × Int64) : Option LSt :=
  bd2 (F_X6_shift z x1 C) fun r C1 => bd2 (F_X7_shift z x1 M) fun q M1 => if r = q then some (C1, M1, lt) else none
def lc17 (z : Nat) (x1 x2 x3 x4 x5 : Int32) (C : CS) (M : MS) (lt : Int64 × Int64) : Option LSt :=
  bd2 (F_X6_times z x1 x2 x3 x4 C) fun r C1 => bd2 (F_X7_times z x1 x2 x3 x4 M) fun q M1 => if r = q then some (C1, M1, lt) else none
def lc18 (z : Nat) (x1 x2 x3 x4 x5 : Int32) (C : CS) (M : MS) (lt : Int64 × Int64) : Option LSt :=
  bd2 (F_X6_invert z  C) fun r C1 => bd2 (F_X7_invert z  M) fun q M1 => if r = q then some (C1, M1, lt) else none
def lc19 (z : Nat) (x1 x2 x3 x4 x5 : Int32) (C : CS) (M : MS) (lt : Int64 × Int64) : Option LSt :=
  bd2 (F_X6_phi z x1 C) fun r C1 => bd2 (F_X7_phi_ z x1 M) fun q M1 => if r = q then some (C1, M1, lt) else none
def lc20 (z : Nat) (x1 x2 x3 x4 x5 : Int32) (C : CS) (M : MS) (lt : Int64 × Int64) : Option LSt :=
  bd2 (F_X6_kind z  C) fun r C1 => bd2 (F_X7_kind z  M) fun q M1 => if r = q then some (C1, M1, lt) else none
def lc21 (z : Nat) (x1 x2 x3 x4 x5 : Int32) (C : CS) (M : MS) (lt : Int64 × Int64) : Option LSt :=
  bd2 (F_X6_order z  C) fun r C1 => bd2 (F_X7_order z  M) fun q M1 => if r = q then some (C1, M1, lt) else none
def lc22 (z : Nat) (x1 x2 x3 x4 x5 : Int32) (C : CS) (M : MS) (lt : Int64 × Int64) : Option LSt :=
  bd2 (F_X6_word z x1 C) fun r C1 => bd2 (F_X7_word z x1 M) fun q M1 => if r = q then some (C1, M1, lt) else none
def lc23 (z : Nat) (x1 x2 x3 x4 x5 : Int32) (C : CS) (M : MS) (lt : Int64 × Int64) : Option LSt :=
  bd2 (F_X6_same z x1 x2 x3 C) fun r C1 => bd2 (F_X7_same z x1 x2 x3 M) fun q M1 => if r = q then some (C1, M1, lt) else none
def lc24 (z : Nat) (x1 x2 x3 x4 x5 : Int32) (C : CS) (M : MS) (lt : Int64 × Int64) : Option LSt :=
  bd2 (F_X6_ring z x1 x2 C) fun r C1 => bd2 (F_X7_ring z x1 x2 M) fun q M1 => if r = q then some (C1, M1, lt) else none
def lc25 (z : Nat) (x1 x2 x3 x4 x5 : Int32) (C : CS) (M : MS) (lt : Int64 × Int64) : Option LSt :=
  bd2 (F_X6_rings z x1 x2 C) fun r C1 => bd2 (F_X7_rings z x1 x2 M) fun q M1 => if r = q then some (C1, M1, lt) else none
def lc26 (z : Nat) (x1 x2 x3 x4 x5 : Int32) (C : CS) (M : MS) (lt : Int64 × Int64) : Option LSt :=
  bd2 (F_X6_twins z x1 x2 C) fun r C1 => bd2 (F_X7_twins z x1 x2 M) fun q M1 => if r = q then some (C1, M1, lt) else none
def lc27 (z : Nat) (x1 x2 x3 x4 x5 : Int32) (C : CS) (M : MS) (lt : Int64 × Int64) : Option LSt :=
  bd2 (F_X6_feed z x1 x2 x3 x4 x5 C) fun r C1 => bd2 (F_X7_feed z x1 x2 x3 x4 x5 M) fun q M1 => if r = q then some (C1, M1, lt) else none
def lc28 (z : Nat) (x1 x2 x3 x4 x5 : Int32) (C : CS) (M : MS) (lt : Int64 × Int64) : Option LSt :=
  bd2 (F_X6_end z x1 C) fun r C1 => bd2 (F_X7_end z x1 M) fun q M1 => if r = q then some (C1, M1, lt) else none
def lc29 (z : Nat) (x1 x2 x3 x4 x5 : Int32) (C : CS) (M : MS) (lt : Int64 × Int64) : Option LSt :=
  bd4 (F_X6_tell z 0 lt C) fun r C1 lt1 n1 => if n1 ≤ 620 then (bd2 (F_X7_tell z  M) fun q M1 => if r = q then some (C1, M1, lt1) else none) else none
def lc30 (z : Nat) (x1 x2 x3 x4 x5 : Int32) (C : CS) (M : MS) (lt : Int64 × Int64) : Option LSt :=
  (F_X6_told z lt (bo x1)).bind fun r => bd2 (F_X7_told z (bo x1) M) fun q M1 => if r = q then some (C, M1, lt) else none
def lc31 (z : Nat) (x1 x2 x3 x4 x5 : Int32) (C : CS) (M : MS) (lt : Int64 × Int64) : Option LSt :=
  bd2 (F_X6_count z x1 C) fun r C1 => bd2 (F_X7_count z x1 M) fun q M1 => if r = q then some (C1, M1, lt) else none
def lawStep (z : Nat) (x0 x1 x2 x3 x4 x5 : Int32) (C : CS) (M : MS) (lt : Int64 × Int64) : Option LSt :=
  if x0 &&& 31 = 0 then lc0 z x1 x2 x3 x4 x5 C M lt else
  if x0 &&& 31 = 1 then lc1 z x1 x2 x3 x4 x5 C M lt else
  if x0 &&& 31 = 2 then lc2 z x1 x2 x3 x4 x5 C M lt else
  if x0 &&& 31 = 3 then lc3 z x1 x2 x3 x4 x5 C M lt else
  if x0 &&& 31 = 4 then lc4 z x1 x2 x3 x4 x5 C M lt else
  if x0 &&& 31 = 5 then lc5 z x1 x2 x3 x4 x5 C M lt else
  if x0 &&& 31 = 6 then lc6 z x1 x2 x3 x4 x5 C M lt else
  if x0 &&& 31 = 7 then lc7 z x1 x2 x3 x4 x5 C M lt else
  if x0 &&& 31 = 8 then lc8 z x1 x2 x3 x4 x5 C M lt else
  if x0 &&& 31 = 9 then lc9 z x1 x2 x3 x4 x5 C M lt else
  if x0 &&& 31 = 10 then lc10 z x1 x2 x3 x4 x5 C M lt else
  if x0 &&& 31 = 11 then lc11 z x1 x2 x3 x4 x5 C M lt else
  if x0 &&& 31 = 12 then lc12 z x1 x2 x3 x4 x5 C M lt else
  if x0 &&& 31 = 13 then lc13 z x1 x2 x3 x4 x5 C M lt else
  if x0 &&& 31 = 14 then lc14 z x1 x2 x3 x4 x5 C M lt else
  if x0 &&& 31 = 15 then lc15 z x1 x2 x3 x4 x5 C M lt else
  if x0 &&& 31 = 16 then lc16 z x1 x2 x3 x4 x5 C M lt else
  if x0 &&& 31 = 17 then lc17 z x1 x2 x3 x4 x5 C M lt else
  if x0 &&& 31 = 18 then lc18 z x1 x2 x3 x4 x5 C M lt else
  if x0 &&& 31 = 19 then lc19 z x1 x2 x3 x4 x5 C M lt else
  if x0 &&& 31 = 20 then lc20 z x1 x2 x3 x4 x5 C M lt else
  if x0 &&& 31 = 21 then lc21 z x1 x2 x3 x4 x5 C M lt else
  if x0 &&& 31 = 22 then lc22 z x1 x2 x3 x4 x5 C M lt else
  if x0 &&& 31 = 23 then lc23 z x1 x2 x3 x4 x5 C M lt else
  if x0 &&& 31 = 24 then lc24 z x1 x2 x3 x4 x5 C M lt else
  if x0 &&& 31 = 25 then lc25 z x1 x2 x3 x4 x5 C M lt else
  if x0 &&& 31 = 26 then lc26 z x1 x2 x3 x4 x5 C M lt else
  if x0 &&& 31 = 27 then lc27 z x1 x2 x3 x4 x5 C M lt else
  if x0 &&& 31 = 28 then lc28 z x1 x2 x3 x4 x5 C M lt else
  if x0 &&& 31 = 29 then lc29 z x1 x2 x3 x4 x5 C M lt else
  if x0 &&& 31 = 30 then lc30 z x1 x2 x3 x4 x5 C M lt else
  if x0 &&& 31 = 31 then lc31 z x1 x2 x3 x4 x5 C M lt else
  some (C, M, lt)
def lawF (z : Nat) (xs : Nat → Int32) : Nat → Nat → LSt → Option LSt
  | 0, _, st => some st
  | j + 1, n, st => (lawStep z (xs n) (xs (n + 1)) (xs (n + 2)) (xs (n + 3)) (xs (n + 4)) (xs (n + 5)) st.1 st.2.1 st.2.2).bind (lawF z xs j (n + 6))
