/-! THE ABSTRACT HOUSE: ((airs, sitters, steps, turn, taken), (kind, figure, cell, way, crowned), (seat, shawls, on), (step, number), (shut, warm)) -/
abbrev AH : Type := (Nat × Nat × Nat × Nat × Nat) × ((Nat → Nat) × (Nat → Nat) × (Nat → Nat) × (Nat → Nat) × (Nat → Bool)) × ((Nat → Nat) × (Nat → Nat) × (Nat → Bool)) × ((Nat → Nat) × (Nat → Nat)) × ((Nat → Bool) × (Nat → UInt32))
def aA (h : AH) : Nat := h.1.1
def aS (h : AH) : Nat := h.1.2.1
def aHc (h : AH) : Nat := h.1.2.2.1
def aTn (h : AH) : Nat := h.1.2.2.2.1
def aTk (h : AH) : Nat := h.1.2.2.2.2
def aKd (h : AH) : Nat → Nat := h.2.1.1
def aFg (h : AH) : Nat → Nat := h.2.1.2.1
def aAc (h : AH) : Nat → Nat := h.2.1.2.2.1
def aWy (h : AH) : Nat → Nat := h.2.1.2.2.2.1
def aCr (h : AH) : Nat → Bool := h.2.1.2.2.2.2
def aSt (h : AH) : Nat → Nat := h.2.2.1.1
def aSh (h : AH) : Nat → Nat := h.2.2.1.2.1
def aOn (h : AH) : Nat → Bool := h.2.2.1.2.2
def aHs (h : AH) : Nat → Nat := h.2.2.2.1.1
def aHn (h : AH) : Nat → Nat := h.2.2.2.1.2
def aSd (h : AH) : Nat → Bool := h.2.2.2.2.1
def aWm (h : AH) : Nat → UInt32 := h.2.2.2.2.2
/-- f, but v at k -/
def up {α : Type} (f : Nat → α) (k : Nat) (v : α) : Nat → α := fun j => if j = k then v else f j
theorem up_s {α : Type} {f : Nat → α} {k : Nat} {v : α} : up f k v k = v := if_pos rfl
theorem up_n {α : Type} {f : Nat → α} {k j : Nat} {v : α} (h : j ≠ k) : up f k v j = f j := if_neg h
/-- bits as a number -/
def bN (p : Nat → Bool) : Nat → Nat
  | 0 => 0
  | n + 1 => bN p n + (if p n = true then 2 ^ n else 0)
theorem bN_lt (p : Nat → Bool) : ∀ n : Nat, bN p n < 2 ^ n
  | 0 => Nat.one_pos
  | n + 1 => by
    have := bN_lt p n
    unfold bN
    rw [Nat.pow_succ]
    split <;> omega
theorem bN_bit (p : Nat → Bool) : ∀ (n i : Nat), i < n → (bN p n).testBit i = p i
  | n + 1, i, h => by
    have hl := bN_lt p n
    unfold bN
    by_cases hi : i = n
    · subst hi
      by_cases hp : p i = true
      · rw [if_pos hp, hp, Nat.add_comm, Nat.testBit_two_pow_add_eq, Nat.testBit_lt_two_pow hl]
        rfl
      · rw [if_neg hp, Nat.add_zero, Nat.testBit_lt_two_pow hl]
        simpa using hp
    · have ih := bN_bit p n i (by omega)
      by_cases hp : p n = true
      · rw [if_pos hp, Nat.add_comm, Nat.testBit_two_pow_add_gt (by omega)]
        exact ih
      · rw [if_neg hp, Nat.add_zero]
        exact ih
theorem bN_hi (p : Nat → Bool) {n i : Nat} (h : n ≤ i) : (bN p n).testBit i = false := Nat.testBit_lt_two_pow (Nat.lt_of_lt_of_le (bN_lt p n) (Nat.pow_le_pow_right (by omega) h))
theorem bN_ext {p q : Nat → Bool} : ∀ {n : Nat}, (∀ i, i < n → p i = q i) → bN p n = bN q n
  | 0, _ => rfl
  | n + 1, h => by
    unfold bN
    rw [bN_ext (fun i hi => h i (by omega)), h n (by omega)]
/-- a number with the bits of p -/
theorem bN_of {p : Nat → Bool} {n x : Nat} (hx : x < 2 ^ n) (h : ∀ i, i < n → x.testBit i = p i) : x = bN p n := by
  refine Nat.eq_of_testBit_eq fun i => ?_
  by_cases hi : i < n
  · rw [h i hi, bN_bit p n i hi]
  · rw [bN_hi p (by omega)]
    exact Nat.testBit_lt_two_pow (Nat.lt_of_lt_of_le hx (Nat.pow_le_pow_right (by omega) (by omega)))
theorem b6_get : ∀ (B : Fin 64) (i : Fin 6), (((nI B.val >>> (nI i.val &&& 31)) &&& (1 : Int32)) = (1 : Int32)) ↔ B.val.testBit i.val = true := by decide +kernel
theorem b6_clr : ∀ (B : Fin 64) (i : Fin 6), ∃ C : Fin 64, (nI B.val &&& (((1 : Int32) <<< (nI i.val &&& 31)) ^^^ (-1 : Int32))) = nI C.val ∧ ∀ j : Fin 6, C.val.testBit j.val = (if j = i then false else B.val.testBit j.val) := by decide +kernel
theorem b6_set : ∀ (B : Fin 64) (i : Fin 6), ∃ C : Fin 64, (nI B.val ||| ((1 : Int32) <<< (nI i.val &&& 31))) = nI C.val ∧ ∀ j : Fin 6, C.val.testBit j.val = (if j = i then true else B.val.testBit j.val) := by decide +kernel
theorem bN6 (p : Nat → Bool) {n : Nat} (h : n ≤ 6) : bN p n < 64 := Nat.lt_of_lt_of_le (bN_lt p n) (show 2 ^ n ≤ 2 ^ 6 from Nat.pow_le_pow_right (by omega) h)
theorem bits_get {p : Nat → Bool} {n i : Nat} (hn : n ≤ 6) (hi : i < n) : (((nI (bN p n) >>> (nI i &&& 31)) &&& (1 : Int32)) = (1 : Int32)) ↔ p i = true := by
  rw [← bN_bit p n i hi]
  exact b6_get ⟨bN p n, bN6 p hn⟩ ⟨i, by omega⟩
theorem bits_clr {p : Nat → Bool} {n i : Nat} (hn : n ≤ 6) (hi : i < n) : (nI (bN p n) &&& (((1 : Int32) <<< (nI i &&& 31)) ^^^ (-1 : Int32))) = nI (bN (up p i false) n) := by
  obtain ⟨C, h1, h2⟩ := b6_clr ⟨bN p n, bN6 p hn⟩ ⟨i, by omega⟩
  rw [h1]
  congr 1
  have key : ∀ j, j < 6 → C.val.testBit j = (if j = i then false else (bN p n).testBit j) := fun j hj => by
    have := h2 ⟨j, hj⟩
    simpa [Fin.ext_iff] using this
  have hz : ∀ j, n ≤ j → C.val.testBit j = false := fun j hj => by
    by_cases h6 : j < 6
    · rw [key j h6, bN_hi p hj, ite_self]
    · exact Nat.testBit_lt_two_pow (Nat.lt_of_lt_of_le C.isLt (show 2 ^ 6 ≤ 2 ^ j from Nat.pow_le_pow_right (by omega) (by omega)))
  refine Nat.eq_of_testBit_eq fun j => ?_
  by_cases hj : j < n
  · rw [key j (by omega), bN_bit p n j hj, bN_bit (up p i false) n j hj]
    unfold up
    rfl
  · rw [hz j (by omega), bN_hi _ (by omega)]
theorem bits_set {p : Nat → Bool} {n i : Nat} (hn : n ≤ 6) (hi : i < n) : (nI (bN p n) ||| ((1 : Int32) <<< (nI i &&& 31))) = nI (bN (up p i true) n) := by
  obtain ⟨C, h1, h2⟩ := b6_set ⟨bN p n, bN6 p hn⟩ ⟨i, by omega⟩
  rw [h1]
  congr 1
  have key : ∀ j, j < 6 → C.val.testBit j = (if j = i then true else (bN p n).testBit j) := fun j hj => by
    have := h2 ⟨j, hj⟩
    simpa [Fin.ext_iff] using this
  have hz : ∀ j, n ≤ j → C.val.testBit j = false := fun j hj => by
    by_cases h6 : j < 6
    · rw [key j h6, bN_hi p hj, if_neg (by omega)]
    · exact Nat.testBit_lt_two_pow (Nat.lt_of_lt_of_le C.isLt (show 2 ^ 6 ≤ 2 ^ j from Nat.pow_le_pow_right (by omega) (by omega)))
  refine Nat.eq_of_testBit_eq fun j => ?_
  by_cases hj : j < n
  · rw [key j (by omega), bN_bit p n j hj, bN_bit (up p i true) n j hj]
    unfold up
    rfl
  · rw [hz j (by omega), bN_hi _ (by omega)]
/-! the cells: six by six -/
/-- the next cell by a way -/
def nxt (c w : Nat) : Option Nat :=
  if (if w = 1 ∨ w = 2 then c / 6 + 1 < 6 else 0 < c / 6) ∧ (if w < 2 then c % 6 + 1 < 6 else 0 < c % 6) then
    some (6 * (if w = 1 ∨ w = 2 then c / 6 + 1 else c / 6 - 1) + (if w < 2 then c % 6 + 1 else c % 6 - 1)) else none
theorem nxt_lt {c w d : Nat} (h : nxt c w = some d) (hc : c < 36) : d < 36 := by
  unfold nxt at h
  rw [Option.ite_none_right_eq_some] at h
  obtain ⟨⟨h1, h2⟩, h3⟩ := h
  rw [Option.some.injEq] at h3
  by_cases p : (w = 1 ∨ w = 2)
  · rw [if_pos p] at h1 h3
    by_cases q : w < 2
    · rw [if_pos q] at h2 h3
      omega
    · rw [if_neg q] at h2 h3
      omega
  · rw [if_neg p] at h1 h3
    by_cases q : w < 2
    · rw [if_pos q] at h2 h3
      omega
    · rw [if_neg q] at h2 h3
      omega
theorem nextCell_dec : ∀ (c : Fin 36) (w : Fin 4), f_X2_nextCell (nI c.val) (nI w.val) = some (eN (-1) (nxt c.val w.val)) := by
  unfold f_X2_nextCell f_X2_nextCell_b19 f_X2_nextCell_b35
  simp only [dq_let, dq_if_ite]
  decide +kernel
theorem nextCell_ok {c w : Nat} (hc : c < 36) (hw : w < 4) : f_X2_nextCell (nI c) (nI w) = some (eN (-1) (nxt c w)) := nextCell_dec ⟨c, hc⟩ ⟨w, hw⟩
/-- how many leaps -/
def leapsS (kd fg : Nat) : Nat := if kd = 0 then 1 else if kd = 1 then 1 + fg / 3 else if kd = 2 then 1 else if kd = 3 then 2 * (1 + fg / 3) else if kd = 5 then fg / 2 else if kd = 6 then 2 * (1 + fg / 3) + 1 else if kd = 7 then fg / 2 - 1 else 0
theorem leaps_dec : ∀ (k : Fin 8) (f : Fin 10), f_X0_leaps (nI k.val) (nI f.val) = some (nI (leapsS k.val f.val)) := by
  unfold f_X0_leaps f_X0_gustLeaps
  simp only [dq_let, dq_if_ite, dq_bd]
  decide +kernel
theorem leaps_ok {k f : Nat} (hk : k < 8) (hf : f ≤ 9) : f_X0_leaps (nI k) (nI f) = some (nI (leapsS k f)) := leaps_dec ⟨k, hk⟩ ⟨f, by omega⟩
