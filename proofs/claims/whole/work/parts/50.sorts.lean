/-! sorts: how many unlike ones -/
theorem nd_le : ∀ (l m : List Int64), l.Nodup → (∀ x, x ∈ l → x ∈ m) → l.length ≤ m.length := by
  intro l
  induction l with
  | nil => intro m _ _; exact Nat.zero_le _
  | cons a l ih =>
    intro m hn hs
    obtain ⟨h1, h2⟩ := List.nodup_cons.mp hn
    have ha : a ∈ m := hs a List.mem_cons_self
    have h3 := ih (m.erase a) h2 (fun x hx => (List.mem_erase_of_ne (fun (h : x = a) => h1 (h ▸ hx))).mpr (hs x (List.mem_cons_of_mem _ hx)))
    rw [List.length_erase_of_mem ha] at h3
    have h4 : 0 < m.length := List.length_pos_of_mem ha
    show l.length + 1 ≤ m.length
    omega
theorem nd_eq {l m : List Int64} (h1 : l.Nodup) (h2 : m.Nodup) (h : ∀ x, x ∈ l ↔ x ∈ m) : l.length = m.length := Nat.le_antisymm (nd_le l m h1 (fun x hx => (h x).mp hx)) (nd_le m l h2 (fun x hx => (h x).mpr hx))
/-- the values that a row's first n places hold -/
def inR (n : Nat) (f : Nat → Int64) (v : Int64) : Prop := ∃ i, i < n ∧ f i = v
/-! the class's sorting: nothing is lost -/
theorem upd_same (f : Nat → Int64) (k : Nat) : vp_updL f k (f k) = f := by
  funext j
  unfold vp_updL
  split
  · rename_i h; rw [h]
  · rfl
theorem inR_move {n : Nat} {f : Nat → Int64} {a b : Nat} {w : Int64} (ha : a < n) (hb : b < n) (hab : a ≠ b) (v : Int64) : inR n (vp_updL (vp_updL f a (f b)) b w) v ↔ inR n (vp_updL f a w) v := by
  constructor
  · rintro ⟨i, hi, e⟩
    by_cases h1 : i = b
    · subst h1
      rw [pk_uLs] at e
      exact ⟨a, ha, by rw [pk_uLs]; exact e⟩
    · rw [pk_uLn h1] at e
      by_cases h2 : i = a
      · subst h2
        rw [pk_uLs] at e
        exact ⟨b, hb, by rw [pk_uLn (fun h => hab h.symm)]; exact e⟩
      · rw [pk_uLn h2] at e
        exact ⟨i, hi, by rw [pk_uLn h2]; exact e⟩
  · rintro ⟨i, hi, e⟩
    by_cases h2 : i = a
    · subst h2
      rw [pk_uLs] at e
      exact ⟨b, hb, by rw [pk_uLs]; exact e⟩
    · rw [pk_uLn h2] at e
      by_cases h1 : i = b
      · subst h1
        exact ⟨a, ha, by rw [pk_uLn (fun h => h2 h.symm), pk_uLs]; exact e⟩
      · exact ⟨i, hi, by rw [pk_uLn h1, pk_uLn h2]; exact e⟩
def setV (C : CS) (f : Nat → Int64) : CS := cs_values C f
theorem sink_loop (z : Nat) {n : Nat} (hn : n ≤ 500) {g : Nat} (hg : 0 < g) (hg2 : g ≤ 500) (w : Int64) (d : Nat) : ∀ (m t : Nat) (C : CS), t ≤ d → t < n → d + 1 ≤ m → ∃ f, G_X5_sink_23 z m (J g) w (J t) C = some (cs_values C f) ∧ (∀ v, inR n f v ↔ inR n (vp_updL (cg_values C) t w) v) ∧ (∀ j, t < j → f j = cg_values C j) := by
  have fin : ∀ (t : Nat) (C : CS), t < n → ∃ f, (if ib (J t) 500 = true then ((some (cs_values C (vp_updL (cg_values C) (Int32.toNatClampNeg (J t)) w))).bind fun S3 => some S3) else none) = some (cs_values C f) ∧ (∀ v, inR n f v ↔ inR n (vp_updL (cg_values C) t w) v) ∧ (∀ j, t < j → f j = cg_values C j) := by
    intro t C ht
    rw [if_pos (ibJ (by omega) (by decide)), clampJ (by omega)]
    exact ⟨_, rfl, fun v => Iff.rfl, fun j hj => pk_uLn (by omega)⟩
  induction d with
  | zero =>
    intro m t C htd ht hm
    obtain ⟨m, rfl⟩ : ∃ q, m = q + 1 := ⟨m - 1, by omega⟩
    rw [e_X5_sink_23, if_pos (by rw [J_lt ⟨by omega, by omega⟩ ⟨by omega, by omega⟩]; omega)]
    exact fin t C ht
  | succ d ih =>
    intro m t C htd ht hm
    obtain ⟨m, rfl⟩ : ∃ q, m = q + 1 := ⟨m - 1, by omega⟩
    rw [e_X5_sink_23]
    by_cases c1 : t < g
    · rw [if_pos (by rw [J_lt ⟨by omega, by omega⟩ ⟨by omega, by omega⟩]; omega)]
      exact fin t C ht
    · have eS : J t - J g = J ((t - g : Nat) : Int) := by rw [J_sub]; congr 1; omega
      rw [if_neg (by rw [J_lt ⟨by omega, by omega⟩ ⟨by omega, by omega⟩]; omega), eS, if_pos (ibJ (by omega) (by decide)), clampJ (by omega)]
      by_cases c2 : cg_values C (t - g) ≤ w
      · rw [if_pos c2]
        exact fin t C ht
      · rw [if_neg c2, if_pos (ibJ (by omega) (by decide)), if_pos (ibJ (by omega) (by decide)), clampJ (by omega)]
        simp only [Option.bind_some]
        obtain ⟨f, h1, h2, h3⟩ := ih m (t - g) (cs_values C (vp_updL (cg_values C) t (cg_values C (t - g)))) (by omega) (by omega) (by omega)
        refine ⟨f, h1, fun v => (h2 v).trans ?_, fun j hj => ?_⟩
        · exact inR_move (f := cg_values C) (a := t) (b := t - g) ht (by omega) (by omega) v
        · rw [h3 j (by omega)]
          exact pk_uLn (by omega)
theorem sink_ok {z : Nat} (hz : 1000 ≤ z) {n : Nat} (hn : n ≤ 500) {g i : Nat} (hg : 0 < g) (hg2 : g ≤ 500) (hi : i < n) (C : CS) : ∃ f, F_X5_sink z (J i) (J g) C = some (cs_values C f) ∧ (∀ v, inR n f v ↔ inR n (cg_values C) v) ∧ (∀ j, i < j → f j = cg_values C j) := by
  unfold F_X5_sink
  rw [if_neg (by rw [j1, J_lt ⟨by omega, by omega⟩ ⟨by decide, by decide⟩]; omega), if_neg (by rw [j0, J_lt ⟨by omega, by omega⟩ b30]; omega), if_pos (by rw [show (500 : Int32) = J 500 from rfl, J_lt ⟨by omega, by omega⟩ ⟨by decide, by decide⟩]; omega), if_pos (ibJ (by omega) (by decide)), Option.bind_some, clampJ (by omega)]
  obtain ⟨f, h1, h2, h3⟩ := sink_loop z hn hg hg2 (cg_values C i) 500 z i C (by omega) hi (by omega)
  refine ⟨f, h1, fun v => ?_, h3⟩
  rw [h2, upd_same]
/-- with the gap 1 the places up to it are in order -/
def upTo (n : Nat) (f : Nat → Int64) : Prop := ∀ i j, i ≤ j → j < n → f i ≤ f j
theorem sink1_loop (z : Nat) (w : Int64) (i : Nat) (hi : i < 500) (d : Nat) : ∀ (m t : Nat) (C : CS), t ≤ d → t ≤ i → d + 1 ≤ m → upTo t (cg_values C) → (∀ a b, t < a → a ≤ b → b ≤ i → cg_values C a ≤ cg_values C b) → (∀ a b, a < t → t < b → b ≤ i → cg_values C a ≤ cg_values C b) → (∀ b, t < b → b ≤ i → w ≤ cg_values C b) → ∀ C', G_X5_sink_23 z m (J ((1 : Nat) : Int)) w (J t) C = some C' → upTo (i + 1) (cg_values C') := by
  have fin : ∀ (t : Nat) (C : CS), t ≤ i → upTo t (cg_values C) → (∀ a b, t < a → a ≤ b → b ≤ i → cg_values C a ≤ cg_values C b) → (∀ a b, a < t → t < b → b ≤ i → cg_values C a ≤ cg_values C b) → (∀ b, t < b → b ≤ i → w ≤ cg_values C b) → (∀ a, a < t → cg_values C a ≤ w) → upTo (i + 1) (vp_updL (cg_values C) t w) := by
    intro t C ht h1 h2 h3 h4 h5 a b hab hb
    by_cases e1 : b = t
    · subst e1
      rw [pk_uLs]
      by_cases e2 : a = b
      · subst e2; rw [pk_uLs]; exact Int64.le_refl _
      · rw [pk_uLn e2]; exact h5 a (by omega)
    · rw [pk_uLn e1]
      by_cases e2 : a = t
      · subst e2; rw [pk_uLs]; exact h4 b (by omega) (by omega)
      · rw [pk_uLn e2]
        by_cases e3 : b < t
        · exact h1 a b hab e3
        · by_cases e4 : a < t
          · exact h3 a b e4 (by omega) (by omega)
          · exact h2 a b (by omega) hab (by omega)
  induction d with
  | zero =>
    intro m t C htd ht hm h1 h2 h3 h4 C' hC
    obtain ⟨m, rfl⟩ : ∃ q, m = q + 1 := ⟨m - 1, by omega⟩
    have h0 : t = 0 := by omega
    subst h0
    rw [e_X5_sink_23, if_pos (by decide +kernel), if_pos (ibJ (by omega) (by decide)), clampJ (by decide)] at hC
    obtain rfl := gn_some hC
    exact fin 0 C ht h1 h2 h3 h4 (fun a ha => absurd ha (by omega))
  | succ d ih =>
    intro m t C htd ht hm h1 h2 h3 h4 C' hC
    obtain ⟨m, rfl⟩ : ∃ q, m = q + 1 := ⟨m - 1, by omega⟩
    rw [e_X5_sink_23] at hC
    by_cases c1 : t < 1
    · rw [if_pos (by rw [J_lt ⟨by omega, by omega⟩ ⟨by omega, by omega⟩]; omega), if_pos (ibJ (by omega) (by decide)), clampJ (by omega)] at hC
      obtain rfl := gn_some hC
      exact fin t C ht h1 h2 h3 h4 (fun a ha => absurd ha (by omega))
    · have eS : J t - J ((1 : Nat) : Int) = J ((t - 1 : Nat) : Int) := by rw [J_sub]; congr 1; omega
      rw [if_neg (by rw [J_lt ⟨by omega, by omega⟩ ⟨by omega, by omega⟩]; omega), eS, if_pos (ibJ (by omega) (by decide)), clampJ (by omega)] at hC
      by_cases c2 : cg_values C (t - 1) ≤ w
      · rw [if_pos c2, if_pos (ibJ (by omega) (by decide)), clampJ (by omega)] at hC
        obtain rfl := gn_some hC
        exact fin t C ht h1 h2 h3 h4 (fun a ha => Int64.le_trans (h1 a (t - 1) (by omega) (by omega)) c2)
      · rw [if_neg c2, if_pos (ibJ (by omega) (by decide)), if_pos (ibJ (by omega) (by decide)), clampJ (by omega)] at hC
        simp only [Option.bind_some] at hC
        have vals : ∀ j, cg_values (cs_values C (vp_updL (cg_values C) t (cg_values C (t - 1)))) j = if j = t then cg_values C (t - 1) else cg_values C j := fun j => rfl
        refine ih m (t - 1) (cs_values C (vp_updL (cg_values C) t (cg_values C (t - 1)))) (by omega) (by omega) (by omega) ?_ ?_ ?_ ?_ C' hC
        · intro a b hab hb
          rw [vals, vals, if_neg (by omega), if_neg (by omega)]
          exact h1 a b hab (by omega)
        · intro a b ha hab hb
          rw [vals, vals]
          by_cases e1 : a = t
          · rw [if_pos e1]
            by_cases e2 : b = t
            · rw [if_pos e2]; exact Int64.le_refl _
            · rw [if_neg e2]; exact h3 (t - 1) b (by omega) (by omega) hb
          · rw [if_neg e1, if_neg (by omega)]
            exact h2 a b (by omega) hab hb
        · intro a b ha hb hbi
          rw [vals, vals, if_neg (by omega)]
          by_cases e2 : b = t
          · rw [if_pos e2]; exact h1 a (t - 1) (by omega) (by omega)
          · rw [if_neg e2]; exact h3 a b (by omega) (by omega) hbi
        · intro b hb hbi
          rw [vals]
          by_cases e2 : b = t
          · rw [if_pos e2]
            rw [Int64.le_iff_toInt_le] at c2 ⊢
            omega
          · rw [if_neg e2]; exact h4 b (by omega) hbi
/-- a pass with one gap -/
theorem pass_ok {z : Nat} (hz : 1000 ≤ z) {n : Nat} (hn : n ≤ 500) {g : Nat} (hg : 0 < g) (hg2 : g ≤ 500) (k : Int32 → Int32 → CS → Option (Int32 × CS)) (d : Nat) : ∀ (m i : Nat) (C : CS), i + d = n → d + 1 ≤ m → (g = 1 → upTo i (cg_values C)) → ∃ f, G_X5_unlike_23 z k m (J n) (J g) (J i) C = k (J n) (J ((g / 2 : Nat) : Int)) (cs_values C f) ∧ (∀ v, inR n f v ↔ inR n (cg_values C) v) ∧ (g = 1 → upTo n f) := by
  induction d with
  | zero =>
    intro m i C hi hm hu
    obtain ⟨m, rfl⟩ : ∃ q, m = q + 1 := ⟨m - 1, by omega⟩
    have : i = n := by omega
    subst this
    rw [e_X5_unlike_23, if_pos (Int32.le_refl _), Option.bind_some, half2 (by omega)]
    exact ⟨cg_values C, rfl, fun v => Iff.rfl, hu⟩
  | succ d ih =>
    intro m i C hi hm hu
    obtain ⟨m, rfl⟩ : ∃ q, m = q + 1 := ⟨m - 1, by omega⟩
    rw [e_X5_unlike_23, if_neg (by rw [J_le ⟨by omega, by omega⟩ ⟨by omega, by omega⟩]; omega)]
    obtain ⟨f, h1, h2, h3⟩ := sink_ok hz hn hg hg2 (show i < n by omega) C
    rw [h1]
    simp only [Option.bind_some]
    have hu2 : g = 1 → upTo (i + 1) f := by
      intro g1
      subst g1
      unfold F_X5_sink at h1
      rw [if_neg (by decide +kernel), if_neg (by rw [j0, J_lt ⟨by omega, by omega⟩ b30]; omega), if_pos (by rw [show (500 : Int32) = J 500 from rfl, J_lt ⟨by omega, by omega⟩ ⟨by decide, by decide⟩]; omega), if_pos (ibJ (by omega) (by decide)), Option.bind_some, clampJ (by omega)] at h1
      exact sink1_loop z (cg_values C i) i (by omega) 500 z i C (by omega) (by omega) (by omega) (hu rfl) (fun a b h4 h5 h6 => absurd h4 (by omega)) (fun a b h4 h5 h6 => absurd h5 (by omega)) (fun b h4 h5 => absurd h4 (by omega)) _ h1
    obtain ⟨f2, g1, g2, g3⟩ := ih m (i + 1) (cs_values C f) (by omega) (by omega) hu2
    refine ⟨f2, ?_, fun v => (g2 v).trans (h2 v), g3⟩
    rw [j1, J_add]
    exact g1
theorem count_loop (z : Nat) {n : Nat} (hn : n ≤ 500) (C : CS) (hu : upTo n (cg_values C)) (d : Nat) : ∀ (m i : Nat) (D : List Int64), i + d = n → 1 ≤ i → d + 1 ≤ m → D.Nodup → (∀ v, v ∈ D ↔ inR i (cg_values C) v) → D.length ≤ i → ∃ D' : List Int64, G_X5_unlike_51 z m (J n) (J (D.length : Int)) (J i) C = some (J (D'.length : Int), C) ∧ D'.Nodup ∧ (∀ v, v ∈ D' ↔ inR n (cg_values C) v) := by
  induction d with
  | zero =>
    intro m i D hi h1 hm hD hv hl
    obtain ⟨m, rfl⟩ : ∃ q, m = q + 1 := ⟨m - 1, by omega⟩
    have : i = n := by omega
    subst this
    rw [e_X5_unlike_51, if_pos (Int32.le_refl _)]
    exact ⟨D, rfl, hD, hv⟩
  | succ d ih =>
    intro m i D hi h1 hm hD hv hl
    obtain ⟨m, rfl⟩ : ∃ q, m = q + 1 := ⟨m - 1, by omega⟩
    have eS : J i - 1 = J ((i - 1 : Nat) : Int) := by rw [j1, J_sub]; congr 1; omega
    rw [e_X5_unlike_51, if_neg (by rw [J_le ⟨by omega, by omega⟩ ⟨by omega, by omega⟩]; omega), if_pos (ibJ (by omega) (by decide)), eS, if_pos (ibJ (by omega) (by decide)), clampJ (by omega), clampJ (by omega)]
    have grow : ∀ v, inR (i + 1) (cg_values C) v ↔ inR i (cg_values C) v ∨ cg_values C i = v := by
      intro v
      constructor
      · rintro ⟨j, hj, e⟩
        by_cases h : j = i
        · subst h; exact Or.inr e
        · exact Or.inl ⟨j, by omega, e⟩
      · rintro (⟨j, hj, e⟩ | e)
        · exact ⟨j, by omega, e⟩
        · exact ⟨i, by omega, e⟩
    by_cases c : cg_values C i = cg_values C (i - 1)
    · rw [if_pos c, Option.bind_some, j1, J_add]
      refine ih m (i + 1) D (by omega) (by omega) (by omega) hD (fun v => ?_) (by omega)
      rw [grow, hv]
      constructor
      · exact Or.inl
      · rintro (h | h)
        · exact h
        · exact ⟨i - 1, by omega, by rw [← c]; exact h⟩
    · rw [if_neg c]
      simp only [Option.bind_some]
      have hnew : cg_values C i ∉ D := by
        intro h
        obtain ⟨j, hj, e⟩ := (hv _).mp h
        have a1 := hu j (i - 1) (by omega) (by omega)
        have a2 := hu (i - 1) i (by omega) (by omega)
        apply c
        rw [Int64.le_iff_toInt_le] at a1 a2
        rw [e] at a1
        exact Int64.toInt_inj.mp (by omega)
      have hl2 : J (D.length : Int) + 1 = J ((cg_values C i :: D).length : Int) := by rw [j1, J_add]; rfl
      rw [hl2, j1, J_add]
      refine ih m (i + 1) (cg_values C i :: D) (by omega) (by omega) (by omega) (List.nodup_cons.mpr ⟨hnew, hD⟩) (fun v => ?_) (by show D.length + 1 ≤ i + 1; omega)
      rw [grow, List.mem_cons, hv]
      constructor
      · rintro (h | h)
        · exact Or.inr h.symm
        · exact Or.inl h
      · rintro (h | h)
        · exact Or.inr h
        · exact Or.inl h.symm
theorem gaps_ok {z : Nat} (hz : 1000 ≤ z) {n : Nat} (hn0 : 0 < n) (hn : n ≤ 500) (d : Nat) : ∀ (m g : Nat) (C : CS), g < 2 ^ d → g ≤ 500 → g ≤ n → d + 1 ≤ m → (g = 0 → upTo n (cg_values C)) → ∃ (D : List Int64) (f : Nat → Int64), G_X5_unlike_17 z m (J n) (J g) C = some (J (D.length : Int), cs_values C f) ∧ D.Nodup ∧ (∀ v, v ∈ D ↔ inR n (cg_values C) v) := by
  have fin : ∀ (m : Nat) (C : CS), 1 ≤ m → upTo n (cg_values C) → ∃ (D : List Int64) (f : Nat → Int64), G_X5_unlike_17 z m (J n) (J ((0 : Nat) : Int)) C = some (J (D.length : Int), cs_values C f) ∧ D.Nodup ∧ (∀ v, v ∈ D ↔ inR n (cg_values C) v) := by
    intro m C hm hu
    obtain ⟨m, rfl⟩ : ∃ q, m = q + 1 := ⟨m - 1, by omega⟩
    rw [e_X5_unlike_17, if_pos (by decide +kernel)]
    obtain ⟨D, h1, h2, h3⟩ := count_loop z hn C hu (n - 1) z 1 [cg_values C 0] (by omega) (by omega) (by omega) (by simp) (fun v => by
      rw [List.mem_singleton]
      constructor
      · intro h; exact ⟨0, by omega, h.symm⟩
      · rintro ⟨j, hj, e⟩
        have : j = 0 := by omega
        rw [← e, this]) (by simp)
    exact ⟨D, cg_values C, h1, h2, h3⟩
  induction d with
  | zero =>
    intro m g C hg hg2 hgn hm hu
    have : g = 0 := by omega
    subst this
    exact fin m C (by omega) (hu rfl)
  | succ d ih =>
    intro m g C hg hg2 hgn hm hu
    by_cases h0 : g = 0
    · subst h0
      exact fin m C (by omega) (hu rfl)
    obtain ⟨m, rfl⟩ : ∃ q, m = q + 1 := ⟨m - 1, by omega⟩
    rw [e_X5_unlike_17, if_neg (by rw [j0, J_le ⟨by omega, by omega⟩ b30]; omega)]
    obtain ⟨f, h1, h2, h3⟩ := pass_ok hz hn (by omega) hg2 (G_X5_unlike_17 z m) (n - g) z g C (by omega) (by omega) (fun h => by
      subst h
      intro a b hab hb
      have : a = b := by omega
      rw [this]; exact Int64.le_refl _)
    rw [h1]
    obtain ⟨D, f2, q1, q2, q3⟩ := ih m (g / 2) (cs_values C f) (by rw [Nat.pow_succ] at hg; omega) (by omega) (by omega) (by omega) (fun h => h3 (by omega))
    exact ⟨D, f2, q1, q2, fun v => (q3 v).trans (h2 v)⟩
theorem unlike_ok {z : Nat} (hz : 1000 ≤ z) {n : Nat} (hn : n ≤ 500) (C : CS) : ∃ (D : List Int64) (f : Nat → Int64), F_X5_unlike z (J n) C = some (J (D.length : Int), cs_values C f) ∧ D.Nodup ∧ (∀ v, v ∈ D ↔ inR n (cg_values C) v) := by
  unfold F_X5_unlike
  by_cases h0 : n = 0
  · subst h0
    rw [if_pos (by decide +kernel)]
    refine ⟨[], cg_values C, rfl, List.nodup_nil, fun v => ⟨fun h => (by cases h), ?_⟩⟩
    rintro ⟨i, hi, -⟩
    omega
  · rw [if_neg (by rw [j1, J_lt ⟨by omega, by omega⟩ ⟨by decide, by decide⟩]; omega), if_pos (by rw [show (500 : Int32) = J 500 from rfl, J_le ⟨by omega, by omega⟩ ⟨by decide, by decide⟩]; omega), Option.bind_some, half2 (by omega)]
    exact gaps_ok hz (by omega) hn 10 z (n / 2) C (by show n / 2 < 1024; omega) (by omega) (by omega) (by omega) (fun h => by
      intro a b hab hb
      have : a = b := by omega
      rw [this]; exact Int64.le_refl _)
/-- the sums of one k -/
def isV (k h : Nat) (v : Int64) : Prop := ∃ o, o < h ∧ Int.gcd (o : Int) k = 1 ∧ L (Tw o k) = v
theorem isV_s (k h : Nat) (v : Int64) : isV k (h + 1) v ↔ isV k h v ∨ (Int.gcd (h : Int) k = 1 ∧ L (Tw h k) = v) := by
  constructor
  · rintro ⟨o, ho, g, e⟩
    by_cases c : o = h
    · subst c; exact Or.inr ⟨g, e⟩
    · exact Or.inl ⟨o, by omega, g, e⟩
  · rintro (⟨o, ho, g, e⟩ | ⟨g, e⟩)
    · exact ⟨o, by omega, g, e⟩
    · exact ⟨h, by omega, g, e⟩
theorem gather_loop {z : Nat} (hz : 1000 ≤ z) {k : Nat} (hk : 0 < k) (hk2 : k ≤ 500) (d : Nat) : ∀ (m h len : Nat) (C : CS), h + d = k → len ≤ h → d + 1 ≤ m → (∀ v, inR len (cg_values C) v ↔ isV k h v) → ∃ (D : List Int64) (f : Nat → Int64), G_X6_unlikeSums_4 z m (J k) (J len) (J h) C = some (J (D.length : Int), cs_values C f) ∧ D.Nodup ∧ (∀ v, v ∈ D ↔ isV k k v) := by
  induction d with
  | zero =>
    intro m h len C hh hl hm hv
    obtain ⟨m, rfl⟩ : ∃ q, m = q + 1 := ⟨m - 1, by omega⟩
    have : h = k := by omega
    subst this
    rw [e_X6_unlikeSums_4, if_pos (Int32.le_refl _)]
    obtain ⟨D, f, h1, h2, h3⟩ := unlike_ok hz (n := len) (by omega) C
    rw [h1]
    exact ⟨D, f, rfl, h2, fun v => (h3 v).trans (hv v)⟩
  | succ d ih =>
    intro m h len C hh hl hm hv
    obtain ⟨m, rfl⟩ : ∃ q, m = q + 1 := ⟨m - 1, by omega⟩
    have eh : J h + 1 = J ((h + 1 : Nat) : Int) := by rw [j1, J_add]; rfl
    rw [e_X6_unlikeSums_4, if_neg (by rw [J_le ⟨by omega, by omega⟩ ⟨by omega, by omega⟩]; omega), if_neg (by rw [show (500 : Int32) = J 500 from rfl, J_le ⟨by decide, by decide⟩ ⟨by omega, by omega⟩]; omega), J_L ⟨by omega, by omega⟩, J_L ⟨by omega, by omega⟩, divisor_ok (by omega) ⟨by omega, by omega⟩ ⟨by omega, by omega⟩ (by omega) (by omega) (by omega), Option.bind_some]
    have hgl := Int.le_of_dvd (by omega) (Int.gcd_dvd_right (h : Int) k)
    have key : L (Int.gcd (h : Int) k : Nat) = 1 ↔ Int.gcd (h : Int) k = 1 := by rw [l1, L_eq ⟨by omega, by omega⟩ b61]; omega
    by_cases c : Int.gcd (h : Int) k = 1
    · rw [if_pos (key.mpr c), twelfths_ok (by omega) ⟨by omega, by omega⟩ hk (by omega), Option.bind_some, if_pos (ibJ (by omega) (by decide)), clampJ (by omega)]
      simp only [Option.bind_some]
      have el : J len + 1 = J ((len + 1 : Nat) : Int) := by rw [j1, J_add]; rfl
      rw [eh, el]
      obtain ⟨D, f, h1, h2, h3⟩ := ih m (h + 1) (len + 1) (cs_values C (vp_updL (cg_values C) len (L (Tw h k)))) (by omega) (by omega) (by omega) (fun v => by
        rw [isV_s, ← hv]
        constructor
        · rintro ⟨i, hi, e⟩
          by_cases q : i = len
          · subst q
            exact Or.inr ⟨c, by rw [← e]; exact (pk_uLs (f := cg_values C)).symm⟩
          · exact Or.inl ⟨i, by omega, by rw [← e]; exact (pk_uLn (f := cg_values C) q).symm⟩
        · rintro (⟨i, hi, e⟩ | ⟨-, e⟩)
          · exact ⟨i, by omega, by rw [← e]; exact pk_uLn (f := cg_values C) (by omega)⟩
          · exact ⟨len, by omega, by rw [← e]; exact pk_uLs (f := cg_values C)⟩)
      exact ⟨D, f, h1, h2, h3⟩
    · rw [if_neg (fun q => c (key.mp q)), Option.bind_some, eh]
      exact ih m (h + 1) len C (by omega) (by omega) (by omega) (fun v => by
        rw [isV_s, ← hv]
        exact ⟨Or.inl, fun q => q.elim id (fun w => absurd w.1 c)⟩)
/-! the reference -/
theorem scan_ok (z : Nat) (k40 : Int32 → Int32 → Int32 → Int32 → Int64 → Int32 → MS → Option (Int32 × MS)) (x1 x2 best : Int32) (most : Int64) (h : Int32) (v : Int64) (many : Nat) (hm : many < 1000) (M : MS) (d : Nat) : ∀ (m j : Nat), j + d = many → d + 1 ≤ m →
    (G_X7_sorts_127 z k40 m x1 x2 (J many) best most h v 1 (J j) M = k40 x1 x2 (J many) best most (h + 1) M) ∧
    ((∃ i, j ≤ i ∧ i < many ∧ mg_row M i = v) → G_X7_sorts_127 z k40 m x1 x2 (J many) best most h v 0 (J j) M = k40 x1 x2 (J many) best most (h + 1) M) ∧
    ((¬ ∃ i, j ≤ i ∧ i < many ∧ mg_row M i = v) → G_X7_sorts_127 z k40 m x1 x2 (J many) best most h v 0 (J j) M = k40 x1 x2 (J ((many + 1 : Nat) : Int)) best most (h + 1) (ms_row M (vp_updL (mg_row M) many v))) := by
  induction d with
  | zero =>
    intro m j hj hm2
    obtain ⟨m, rfl⟩ : ∃ q, m = q + 1 := ⟨m - 1, by omega⟩
    have : j = many := by omega
    subst this
    refine ⟨?_, ?_, ?_⟩
    · rw [e_X7_sorts_127, if_pos (Int32.le_refl _), if_neg n10, Option.bind_some]
    · rintro ⟨i, h1, h2, -⟩
      omega
    · intro _
      rw [e_X7_sorts_127, if_pos (Int32.le_refl _), if_pos rfl, if_pos (ibJ (by omega) (by decide)), clampJ (by omega)]
      simp only [Option.bind_some]
      rw [show J j + 1 = J ((j + 1 : Nat) : Int) by rw [j1, J_add]; rfl]
  | succ d ih =>
    intro m j hj hm2
    obtain ⟨m, rfl⟩ : ∃ q, m = q + 1 := ⟨m - 1, by omega⟩
    have e : ¬ J many ≤ J j := by rw [J_le ⟨by omega, by omega⟩ ⟨by omega, by omega⟩]; omega
    have ej : J j + 1 = J ((j + 1 : Nat) : Int) := by rw [j1, J_add]; rfl
    obtain ⟨i1, i2, i3⟩ := ih m (j + 1) (by omega) (by omega)
    refine ⟨?_, ?_, ?_⟩
    · rw [e_X7_sorts_127, if_neg e, if_neg n10, Option.bind_some, ej, i1]
    · rintro ⟨i, h1, h2, h3⟩
      rw [e_X7_sorts_127, if_neg e, if_pos rfl, if_pos (ibJ (by omega) (by decide)), clampJ (by omega)]
      by_cases c : mg_row M j = v
      · rw [if_pos c, Option.bind_some, ej, i1]
      · rw [if_neg c, Option.bind_some, ej]
        refine i2 ⟨i, ?_, h2, h3⟩
        rcases Nat.lt_or_ge j i with q | q
        · omega
        · have : i = j := by omega
          subst this
          exact absurd h3 c
    · intro hno
      have c : ¬ mg_row M j = v := fun q => hno ⟨j, by omega, by omega, q⟩
      rw [e_X7_sorts_127, if_neg e, if_pos rfl, if_pos (ibJ (by omega) (by decide)), clampJ (by omega), if_neg c, Option.bind_some, ej]
      exact i3 (fun ⟨i, h1, h2, h3⟩ => hno ⟨i, by omega, h2, h3⟩)
theorem sortM_loop {z : Nat} (hz : 1000 ≤ z) {k : Nat} (hk : 0 < k) (hk2 : k ≤ 500) (what : Int32) (d : Nat) : ∀ (m n h many : Nat) (best : Int32) (most : Int64) (R : List Int64) (M : MS), h + d = k → many ≤ h → d + 1 ≤ m → d + 1 ≤ n → R.Nodup → R.length = many → (∀ v, v ∈ R ↔ inR many (mg_row M) v) → (∀ v, v ∈ R ↔ isV k h v) →
    ∃ (R' : List Int64) (b' : Int32) (M' : MS), G_X7_sorts_40 z m (J k) what (J many) best most (J h) M = some (if what = 0 then J (R'.length : Int) else b', M') ∧ G_X6_firstWithGreatestSum_7 z n (J k) best most (J h) = some b' ∧ R'.Nodup ∧ (∀ v, v ∈ R' ↔ isV k k v) ∧ kM M' = kM M := by
  induction d with
  | zero =>
    intro m n h many best most R M hh hmn hm hn hR hl hv1 hv2
    obtain ⟨m, rfl⟩ : ∃ q, m = q + 1 := ⟨m - 1, by omega⟩
    obtain ⟨n, rfl⟩ : ∃ q, n = q + 1 := ⟨n - 1, by omega⟩
    have : h = k := by omega
    subst this
    refine ⟨R, best, M, ?_, ?_, hR, hv2, rfl⟩
    · rw [e_X7_sorts_40, if_pos (Int32.le_refl _)]
      by_cases c : what = 0
      · rw [if_pos c, if_pos c, hl]
      · rw [if_neg c, if_neg c]
    · rw [e_X6_firstWithGreatestSum_7, if_pos (Int32.le_refl _)]
  | succ d ih =>
    intro m n h many best most R M hh hmn hm hn hR hl hv1 hv2
    obtain ⟨m, rfl⟩ : ∃ q, m = q + 1 := ⟨m - 1, by omega⟩
    obtain ⟨n, rfl⟩ : ∃ q, n = q + 1 := ⟨n - 1, by omega⟩
    have eh : J h + 1 = J ((h + 1 : Nat) : Int) := by rw [j1, J_add]; rfl
    have e : ¬ J k ≤ J h := by rw [J_le ⟨by omega, by omega⟩ ⟨by omega, by omega⟩]; omega
    have hgl := Int.le_of_dvd (by omega) (Int.gcd_dvd_right (h : Int) k)
    have key : L (Int.gcd (h : Int) k : Nat) = 1 ↔ Int.gcd (h : Int) k = 1 := by rw [l1, L_eq ⟨by omega, by omega⟩ b61]; omega
    rw [e_X7_sorts_40, if_neg e, e_X6_firstWithGreatestSum_7, if_neg e, J_L ⟨by omega, by omega⟩, J_L ⟨by omega, by omega⟩, divisor_ok (by omega) ⟨by omega, by omega⟩ ⟨by omega, by omega⟩ (by omega) (by omega) (by omega), common_ok (by omega) ⟨by omega, by omega⟩ ⟨by omega, by omega⟩ (by omega) (by omega)]
    simp only [Option.bind_some]
    by_cases c : Int.gcd (h : Int) k = 1
    · rw [if_pos (key.mpr c), if_pos (key.mpr c), twelfths_ok (by omega) ⟨by omega, by omega⟩ hk (by omega), twelve_ok (by omega) ⟨by omega, by omega⟩ hk (by omega) c]
      simp only [Option.bind_some]
      -- behind the choice of the best: the row
      have go : ∀ (b : Int32) (s : Int64), ∃ (R' : List Int64) (b' : Int32) (M' : MS), G_X7_sorts_127 z (G_X7_sorts_40 z m) z (J k) what (J many) b s (J h) (L (Tw h k)) 0 0 M = some (if what = 0 then J (R'.length : Int) else b', M') ∧ G_X6_firstWithGreatestSum_7 z n (J k) b s (J ((h + 1 : Nat) : Int)) = some b' ∧ R'.Nodup ∧ (∀ v, v ∈ R' ↔ isV k k v) ∧ kM M' = kM M := by
        intro b s
        obtain ⟨-, s2, s3⟩ := scan_ok z (G_X7_sorts_40 z m) (J k) what b s (J h) (L (Tw h k)) many (by omega) M many z 0 (by omega) (by omega)
        by_cases q : ∃ i, 0 ≤ i ∧ i < many ∧ mg_row M i = L (Tw h k)
        · obtain ⟨R', b', M', t1, t2, t3, t4, t5⟩ := ih m n (h + 1) many b s R M (by omega) (by omega) (by omega) (by omega) hR hl hv1 (fun v => by
            rw [isV_s, ← hv2]
            refine ⟨Or.inl, fun w => w.elim id (fun w => ?_)⟩
            obtain ⟨i, -, i2, i3⟩ := q
            exact (hv1 v).mpr ⟨i, i2, i3.trans w.2⟩)
          refine ⟨R', b', M', ?_, t2, t3, t4, t5⟩
          exact (s2 q).trans (by rw [eh]; exact t1)
        · have hno : L (Tw h k) ∉ R := fun w => by
            obtain ⟨i, i1, i2⟩ := (hv1 _).mp w
            exact q ⟨i, by omega, i1, i2⟩
          obtain ⟨R', b', M', t1, t2, t3, t4, t5⟩ := ih m n (h + 1) (many + 1) b s (L (Tw h k) :: R) (ms_row M (vp_updL (mg_row M) many (L (Tw h k)))) (by omega) (by omega) (by omega) (by omega) (List.nodup_cons.mpr ⟨hno, hR⟩) (by show R.length + 1 = many + 1; omega) (fun v => by
            rw [List.mem_cons, hv1]
            constructor
            · rintro (w | ⟨i, i1, i2⟩)
              · exact ⟨many, by omega, by rw [w]; exact pk_uLs (f := mg_row M)⟩
              · exact ⟨i, by omega, by rw [← i2]; exact pk_uLn (f := mg_row M) (by omega)⟩
            · rintro ⟨i, i1, i2⟩
              by_cases w : i = many
              · subst w
                exact Or.inl (by rw [← i2]; exact pk_uLs (f := mg_row M))
              · exact Or.inr ⟨i, by omega, by rw [← i2]; exact (pk_uLn (f := mg_row M) w).symm⟩) (fun v => by
            rw [List.mem_cons, isV_s, hv2]
            constructor
            · rintro (w | w)
              · exact Or.inr ⟨c, w.symm⟩
              · exact Or.inl w
            · rintro (w | ⟨-, w⟩)
              · exact Or.inr w
              · exact Or.inl w.symm)
          refine ⟨R', b', M', ?_, t2, t3, t4, t5⟩
          exact (s3 q).trans (by rw [eh]; exact t1)
      by_cases c1 : best = -1
      · rw [if_pos c1, if_pos c1, eh]
        unfold G_X7_sorts_86 G_X7_sorts_105
        rw [if_neg n10, if_neg n10]
        exact go (J h) (L (Tw h k))
      · rw [if_neg c1, if_neg c1]
        by_cases c2 : L (Tw h k) ≤ most
        · rw [if_pos c2, if_pos c2, eh, if_pos trivial]
          unfold G_X7_sorts_105
          rw [if_pos rfl]
          exact go best most
        · rw [if_neg c2, if_neg c2, eh]
          unfold G_X7_sorts_86 G_X7_sorts_105
          rw [if_neg n10, if_neg n10]
          exact go (J h) (L (Tw h k))
    · rw [if_neg (fun q => c (key.mp q)), if_neg (fun q => c (key.mp q)), eh]
      exact ih m n (h + 1) many best most R M (by omega) (by omega) (by omega) (by omega) hR hl hv1 (fun v => by
        rw [isV_s, ← hv2]
        exact ⟨Or.inl, fun q => q.elim id (fun w => absurd w.1 c)⟩)
theorem lc8_ok {z : Nat} (hz : 2000 ≤ z) (x1 x2 x3 x4 x5 : Int32) {C : CS} {M : MS} {lt : Int64 × Int64} (hI : Inv C M lt) : Okc (lc8 z x1 x2 x3 x4 x5 C M lt) := by
  obtain ⟨k, hk, rfl⟩ := J_of x1
  obtain ⟨w, hw, rfl⟩ := J_of x2
  have e1 : F_X6_lies z (Int32.toInt64 (J k)) (1 : Int64) (500 : Int64) = some (if 1 ≤ k ∧ k ≤ 500 then 1 else 0) := by rw [l5h, l1]; exact liesI z hk b61 b5h
  have e2 : F_X7_isIn z (Int32.toInt64 (J k)) (1 : Int64) (500 : Int64) = some (if 1 ≤ k ∧ k ≤ 500 then 1 else 0) := by rw [l5h, l1]; exact isinI z hk b61 b5h
  have e3 : F_X7_isIn z (Int32.toInt64 (J w)) (0 : Int64) (1 : Int64) = some (if 0 ≤ w ∧ w ≤ 1 then 1 else 0) := by rw [l0, l1]; exact isinI z hw b60 b61
  have goal : ∃ r C1 M1, F_X6_sorts z (J k) (J w) C = some (r, C1) ∧ F_X7_sorts z (J k) (J w) M = some (r, M1) ∧ kC C1 = kC C ∧ kM M1 = kM M := by
    unfold F_X6_sorts F_X7_sorts
    simp only [e1, e2, e3, Option.bind_some]
    by_cases c1 : 1 ≤ k ∧ k ≤ 500
    · rw [if_pos c1, if_neg n10, if_neg n10]
      obtain ⟨k, rfl⟩ : ∃ q : Nat, k = q := ⟨k.toNat, by omega⟩
      have q0 : J w = 0 ↔ w = 0 := by rw [j0, J_eq hw b30]
      have q1 : J w = 1 ↔ w = 1 := by rw [j1, J_eq hw ⟨by decide, by decide⟩]
      obtain ⟨R, b, M1, t1, t2, t3, t4, t5⟩ := sortM_loop (z := z) (by omega) (k := k) (by omega) (by omega) (J w) k z z 0 0 (-1) 0 [] (ms_thrown M 0) (by omega) (by omega) (by omega) (by omega) List.nodup_nil rfl (fun v => ⟨fun h => (by cases h), fun ⟨i, hi, _⟩ => absurd hi (by omega)⟩) (fun v => ⟨fun h => (by cases h), fun ⟨i, hi, _⟩ => absurd hi (by omega)⟩)
      have t1 : G_X7_sorts_40 z z (J k) (J w) 0 (-1) 0 0 (ms_thrown M 0) = some (if J w = 0 then J (R.length : Int) else b, M1) := t1
      have t2 : G_X6_firstWithGreatestSum_7 z z (J k) (-1) 0 0 = some b := t2
      by_cases c2 : w = 0
      · obtain ⟨D, f, s1, s2, s3⟩ := gather_loop (z := z) (by omega) (k := k) (by omega) (by omega) k z 0 0 C (by omega) (by omega) (by omega) (fun v => ⟨fun ⟨i, hi, _⟩ => absurd hi (by omega), fun ⟨i, hi, _⟩ => absurd hi (by omega)⟩)
        have s1 : G_X6_unlikeSums_4 z z (J k) 0 0 C = some (J (D.length : Int), cs_values C f) := s1
        rw [if_pos (q0.mpr c2)] at t1
        rw [if_pos (q0.mpr c2), if_pos (show 0 ≤ w ∧ w ≤ 1 by omega), if_neg n10, t1]
        unfold F_X6_unlikeSums
        rw [s1]
        have hlen : D.length = R.length := nd_eq s2 t3 (fun v => (s3 v).trans (t4 v).symm)
        rw [← hlen]
        exact ⟨_, _, M1, rfl, rfl, rfl, t5⟩
      · rw [if_neg (fun h => c2 (q0.mp h))]
        by_cases c3 : w = 1
        · rw [if_neg (fun h => c2 (q0.mp h))] at t1
          rw [if_pos (q1.mpr c3), if_pos (show 0 ≤ w ∧ w ≤ 1 by omega), if_neg n10, t1]
          unfold F_X6_firstWithGreatestSum
          rw [t2]
          exact ⟨_, C, M1, rfl, rfl, rfl, t5⟩
        · rw [if_neg (fun h => c3 (q1.mp h)), if_neg (show ¬ (0 ≤ w ∧ w ≤ 1) by omega), if_pos rfl]
          exact ⟨_, _, _, rfl, rfl, rfl, rfl⟩
    · rw [if_neg c1, if_pos rfl, if_pos rfl]
      exact ⟨_, _, _, rfl, rfl, rfl, rfl⟩
  obtain ⟨r, C1, M1, g1, g2, g3, g4⟩ := goal
  exact ok_S hI g1 g2 g3 g4
