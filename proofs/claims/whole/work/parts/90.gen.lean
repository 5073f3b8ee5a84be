/-! THE PURE LAYER: words -/
theorem dq_if_pos {α : Type} {c : Prop} {a b : Option α} (h : c) : dq_if c a b = a := by
  unfold dq_if
  exact if_pos h
theorem dq_if_neg {α : Type} {c : Prop} {a b : Option α} (h : ¬ c) : dq_if c a b = b := by
  unfold dq_if
  exact if_neg h
theorem dq_gd_pos {α : Type} {c : Prop} {a : Option α} (h : c) : dq_gd c a = a := dq_if_pos h
theorem dq_if_ite {α : Type} {c : Prop} [Decidable c] {a b : Option α} : dq_if c a b = if c then a else b := by
  by_cases h : c
  · rw [dq_if_pos h, if_pos h]
  · rw [dq_if_neg h, if_neg h]
theorem dq_gd_ite {α : Type} {c : Prop} [Decidable c] {a : Option α} : dq_gd c a = if c then a else none := dq_if_ite
theorem dq_bd_s {β α : Type} {x : Option β} {y : β} {f : β → Option α} (h : x = some y) : dq_bd x f = f y := by rw [h]; rfl
/-- the first match below n -/
def fM (p : Nat → Bool) : Nat → Option Nat
  | 0 => none
  | n + 1 => match fM p n with
    | some a => some a
    | none => if p n = true then some n else none
theorem fM_none {p : Nat → Bool} : ∀ {n : Nat}, fM p n = none ↔ ∀ b, b < n → p b = false
  | 0 => ⟨fun _ b h => absurd h (by omega), fun _ => rfl⟩
  | n + 1 => by
    have ih := fM_none (p := p) (n := n)
    unfold fM
    cases h : fM p n with
    | some a =>
      simp only [reduceCtorEq, false_iff]
      intro q
      have := ih.mpr (fun b hb => q b (by omega))
      rw [h] at this
      cases this
    | none =>
      have h1 := ih.mp h
      simp only
      by_cases hp : p n = true
      · rw [if_pos hp]
        simp only [reduceCtorEq, false_iff]
        intro q
        have := q n (by omega)
        rw [hp] at this
        cases this
      · rw [if_neg hp]
        simp only [true_iff]
        intro b hb
        by_cases hbn : b = n
        · subst hbn
          simpa using hp
        · exact h1 b (by omega)
theorem fM_some {p : Nat → Bool} : ∀ {n a : Nat}, fM p n = some a ↔ (a < n ∧ p a = true ∧ ∀ b, b < a → p b = false)
  | 0, a => ⟨fun h => (by cases h), fun h => absurd h.1 (by omega)⟩
  | n + 1, a => by
    have ih := fun c => fM_some (p := p) (n := n) (a := c)
    unfold fM
    cases h : fM p n with
    | some c =>
      have h1 := (ih c).mp h
      simp only [Option.some.injEq]
      constructor
      · rintro rfl
        exact ⟨by omega, h1.2⟩
      · rintro ⟨h2, h3, h4⟩
        rcases Nat.lt_trichotomy c a with q | q | q
        · have := h4 c q
          rw [h1.2.1] at this
          cases this
        · exact q
        · have := h1.2.2 a q
          rw [h3] at this
          cases this
    | none =>
      have h1 := fM_none.mp h
      simp only
      by_cases hp : p n = true
      · rw [if_pos hp]
        simp only [Option.some.injEq]
        constructor
        · rintro rfl
          exact ⟨by omega, hp, h1⟩
        · rintro ⟨h2, h3, h4⟩
          by_cases q : a = n
          · exact q.symm
          · have := h1 a (by omega)
            rw [h3] at this
            cases this
      · rw [if_neg hp]
        simp only [reduceCtorEq, false_iff]
        rintro ⟨h2, h3, h4⟩
        by_cases q : a = n
        · subst q
          exact hp h3
        · have := h1 a (by omega)
          rw [h3] at this
          cases this
/-- a place, or the number d for none -/
def eN (d : Int32) : Option Nat → Int32
  | none => d
  | some a => nI a
/-! floats: bounds by the exponent -/
def fB (K : Nat) (w : UInt32) : Prop := w.toNat % 2 ^ 31 < K * 2 ^ 23
theorem fB.n {K : Nat} {w : UInt32} (h : fB K w) (hK : K ≤ 255) : vf_n32 w := by
  unfold vf_n32
  rw [UInt32.le_iff_toNat_le, UInt32.toNat_and]
  show w.toNat &&& (2 ^ 31 - 1) ≤ 2139095040
  rw [Nat.and_two_pow_sub_one_eq_mod]
  unfold fB at h
  omega
theorem fB.mono {K L : Nat} {w : UInt32} (h : fB K w) (hk : K ≤ L) : fB L w := Nat.lt_of_lt_of_le h (Nat.mul_le_mul_right _ hk)
theorem fB_mul {a b : UInt32} {Ka Kb K : Nat} (ha : fB Ka a) (hb : fB Kb b) (h1 : Ka ≤ 255) (h2 : Kb ≤ 255) (h : Ka + Kb - 129 + 3 ≤ K) : fB K (FP.fmul a b) := fB.mono (FP.Core.fmul_mag ha hb h1 h2) h
theorem fB_add {a b : UInt32} {K L : Nat} (ha : fB K a) (hb : fB K b) (hK : K ≤ 255) (h : K + 2 ≤ L) : fB L (FP.fadd a b) := fB.mono (FP.Core.fadd_mag ha hb hK) h
theorem fB_sub {a b : UInt32} {K L : Nat} (ha : fB K a) (hb : fB K b) (hK : K ≤ 255) (h : K + 2 ≤ L) : fB L (FP.fsub a b) := fB.mono (FP.Core.fsub_mag ha hb hK) h
theorem fB_div {a b : UInt32} {K L M : Nat} (ha : fB K a) (hb : L * 2 ^ 23 ≤ b.toNat % 2 ^ 31) (hb2 : fB 255 b) (hK : K ≤ 255) (hL : 1 ≤ L) (h : K + (149 - 23 - 1) - L + 3 ≤ M) : fB M (FP.fdiv a b) := fB.mono (FP.Core.fdiv_mag ha hb hb2 hK hL) h
theorem fB_i2f (v : Int32) : fB 160 (FP.i2f v) := FP.Core.i2f_mag v
theorem fB_small {v : Int32} (h : v.toInt.natAbs ≤ 2 ^ 7) : fB 135 (FP.i2f v) := by
  have h1 := FP.Core.fromInt_mag32 (FP.Core.toNat_i2f v) (j := 7) (K := 134) h (by omega) (by omega)
  unfold fB
  show (FP.Core.i2f v).toNat % 2 ^ 31 < _
  omega
theorem fB_nI {n : Nat} (h : n ≤ 128) : fB 135 (FP.i2f (nI n)) := fB_small (by rw [nI_toInt (by omega)]; omega)
/-- one step of the hearth -/
def stepF (st : Nat) (n w : UInt32) : UInt32 := if st = 0 then FP.fadd w (FP.fmul (FP.fsub n w) 1040187392) else if st = 1 then FP.fmul w (FP.fdiv n 1098907648) else if st = 2 then FP.fadd w (FP.fdiv n 1090519040) else if st = 3 then FP.fsub w (FP.fdiv n 1090519040) else if st = 4 then (if 0 ≤ Op.cmpValue (FP.fcmp w n) .g then w else n) else if st = 5 then (if Op.cmpValue (FP.fcmp w n) .l ≤ 0 then w else n) else FP.i2f (FP.f2i w)
theorem stepF_ok {K st : Nat} {n w : UInt32} (hw : fB K w) (hn : fB 135 n) (hK : 160 ≤ K) (hK2 : K ≤ 240) (hst : st < 7) : f_X1_stepped (nI st) n w = some (stepF st n w) ∧ fB (K + 6) (stepF st n w) := by
  have c8 : fB 125 (1040187392 : UInt32) := by unfold fB; decide
  have d16 : fB 132 (FP.fdiv n 1098907648) := fB_div (L := 131) hn (by decide) (by unfold fB; decide) (by omega) (by omega) (by omega)
  have d8 : fB 133 (FP.fdiv n 1090519040) := fB_div (L := 130) hn (by decide) (by unfold fB; decide) (by omega) (by omega) (by omega)
  have hnK : fB K n := hn.mono (by omega)
  rcases (show st = 0 ∨ st = 1 ∨ st = 2 ∨ st = 3 ∨ st = 4 ∨ st = 5 ∨ st = 6 by omega) with rfl | rfl | rfl | rfl | rfl | rfl | rfl
  · have a1 : fB (K + 2) (FP.fsub n w) := fB_sub hnK hw (by omega) (by omega)
    have a2 : fB (K + 1) (FP.fmul (FP.fsub n w) 1040187392) := fB_mul a1 c8 (by omega) (by omega) (by omega)
    have a3 : fB (K + 6) (FP.fadd w (FP.fmul (FP.fsub n w) 1040187392)) := fB_add (hw.mono (L := K + 1) (by omega)) a2 (by omega) (by omega)
    refine ⟨?_, a3⟩
    unfold f_X1_stepped
    rw [dq_if_pos (by decide)]
    simp only [dq_let]
    rw [dq_gd_pos (a1.n (by omega)), dq_gd_pos (a2.n (by omega)), dq_gd_pos (a3.n (by omega))]
    rfl
  · have a1 : fB (K + 6) (FP.fmul w (FP.fdiv n 1098907648)) := fB_mul hw d16 (by omega) (by omega) (by omega)
    refine ⟨?_, a1⟩
    unfold f_X1_stepped
    rw [dq_if_neg (by decide), dq_if_pos (by decide)]
    simp only [dq_let]
    rw [dq_gd_pos (d16.n (by omega)), dq_gd_pos (a1.n (by omega))]
    rfl
  · have a1 : fB (K + 6) (FP.fadd w (FP.fdiv n 1090519040)) := fB_add hw (d8.mono (by omega)) (by omega) (by omega)
    refine ⟨?_, a1⟩
    unfold f_X1_stepped
    rw [dq_if_neg (by decide), dq_if_neg (by decide), dq_if_pos (by decide)]
    simp only [dq_let]
    rw [dq_gd_pos (d8.n (by omega)), dq_gd_pos (a1.n (by omega))]
    rfl
  · have a1 : fB (K + 6) (FP.fsub w (FP.fdiv n 1090519040)) := fB_sub hw (d8.mono (by omega)) (by omega) (by omega)
    refine ⟨?_, a1⟩
    unfold f_X1_stepped
    rw [dq_if_neg (by decide), dq_if_neg (by decide), dq_if_neg (by decide), dq_if_pos (by decide)]
    simp only [dq_let]
    rw [dq_gd_pos (d8.n (by omega)), dq_gd_pos (a1.n (by omega))]
    rfl
  · unfold f_X1_stepped
    rw [dq_if_neg (by decide), dq_if_neg (by decide), dq_if_neg (by decide), dq_if_neg (by decide), dq_if_pos (by decide)]
    show dq_if _ _ _ = some (if 0 ≤ Op.cmpValue (FP.fcmp w n) .g then w else n) ∧ fB (K + 6) (if 0 ≤ Op.cmpValue (FP.fcmp w n) .g then w else n)
    by_cases h : 0 ≤ Op.cmpValue (FP.fcmp w n) .g
    · rw [dq_if_pos h, if_pos h]
      exact ⟨rfl, hw.mono (by omega)⟩
    · rw [dq_if_neg h, if_neg h]
      exact ⟨rfl, hnK.mono (by omega)⟩
  · unfold f_X1_stepped
    rw [dq_if_neg (by decide), dq_if_neg (by decide), dq_if_neg (by decide), dq_if_neg (by decide), dq_if_neg (by decide), dq_if_pos (by decide)]
    show dq_if _ _ _ = some (if Op.cmpValue (FP.fcmp w n) .l ≤ 0 then w else n) ∧ fB (K + 6) (if Op.cmpValue (FP.fcmp w n) .l ≤ 0 then w else n)
    by_cases h : Op.cmpValue (FP.fcmp w n) .l ≤ 0
    · rw [dq_if_pos h, if_pos h]
      exact ⟨rfl, hw.mono (by omega)⟩
    · rw [dq_if_neg h, if_neg h]
      exact ⟨rfl, hnK.mono (by omega)⟩
  · refine ⟨?_, (fB_i2f _).mono (by omega)⟩
    unfold f_X1_stepped
    rw [dq_if_neg (by decide), dq_if_neg (by decide), dq_if_neg (by decide), dq_if_neg (by decide), dq_if_neg (by decide), dq_if_neg (by decide)]
    rfl
/-- held: from -100 to 100 -/
def heldF (w : UInt32) : UInt32 := if Op.cmpValue (FP.fcmp w 1120403456) .l ≤ 0 then (if 0 ≤ Op.cmpValue (FP.fcmp w 3267887104) .g then w else 3267887104) else 1120403456
theorem heldF_ok (w : UInt32) : f_X1_held w = some (heldF w) := by
  unfold f_X1_held heldF
  by_cases h : Op.cmpValue (FP.fcmp w 1120403456) .l ≤ 0
  · rw [dq_if_pos h, if_pos h]
    by_cases h2 : 0 ≤ Op.cmpValue (FP.fcmp w 3267887104) .g
    · rw [dq_if_pos h2, if_pos h2]
    · rw [dq_if_neg h2, if_neg h2]
  · rw [dq_if_neg h, if_neg h]
/-- the steps one behind the other -/
def wlF (hs hn : Nat → Nat) : Nat → UInt32 → UInt32
  | 0, w => w
  | k + 1, w => stepF (hs k) (FP.i2f (nI (hn k))) (wlF hs hn k w)
theorem wlF_b {hs hn : Nat → Nat} {w : UInt32} (hw : fB 160 w) : ∀ {k : Nat}, k ≤ 6 → (∀ i, i < k → hs i < 7 ∧ hn i ≤ 99) → fB (160 + 6 * k) (wlF hs hn k w)
  | 0, _, _ => hw
  | k + 1, hk, h => by
    have ih := wlF_b hw (k := k) (by omega) (fun i hi => h i (by omega))
    have h1 := h k (by omega)
    exact (stepF_ok ih (fB_nI (by omega)) (by omega) (by omega) h1.1).2.mono (by omega)
def warmF (hc : Nat) (hs hn : Nat → Nat) (w : UInt32) : UInt32 := heldF (wlF hs hn hc w)
theorem warmed_loop {hc : Nat} {hs hn : Nat → Nat} {es en : Nat → Int32} {w : UInt32} (hw : fB 160 w) (hc6 : hc ≤ 6) (hr : ∀ i, i < hc → hs i < 7 ∧ hn i ≤ 99) (he : ∀ i, i < hc → es i = nI (hs i) ∧ en i = nI (hn i)) : ∀ (d k m : Nat), k + d = hc → d < m → f_X1_warmed_b4 (nI hc) es en m (wlF hs hn k w) (nI k) = some (warmF hc hs hn w)
  | 0, k, 0, _, h => absurd h (by omega)
  | d + 1, k, 0, _, h => absurd h (by omega)
  | 0, k, m + 1, hk, _ => by
    have : k = hc := by omega
    subst this
    unfold f_X1_warmed_b4
    rw [dq_if_pos (nI_le (Nat.le_refl _) (by omega)), heldF_ok]
    rfl
  | d + 1, k, m + 1, hk, hm => by
    have hkl : k < hc := by omega
    unfold f_X1_warmed_b4
    rw [dq_if_neg (nI_ge hkl (by omega)), dq_gd_pos (vp_in_nI (by omega) (by omega)), dq_gd_pos (vp_in_nI (by omega) (by omega)), nI_clamp (by omega), (he k hkl).1, (he k hkl).2]
    have h1 := hr k hkl
    have h2 := (stepF_ok (wlF_b hw (k := k) (by omega) (fun i hi => hr i (by omega))) (fB_nI (n := hn k) (by omega)) (by omega) (by omega) h1.1).1
    rw [dq_bd_s h2]
    simp only [dq_let]
    rw [show nI k + (1 : Int32) = nI (k + 1) from nI_1 k]
    exact warmed_loop hw hc6 hr he d (k + 1) m (by omega) (by omega)
theorem warmed_ok {hc : Nat} {hs hn : Nat → Nat} {es en : Nat → Int32} {w : UInt32} (hw : fB 160 w) (hc6 : hc ≤ 6) (hr : ∀ i, i < hc → hs i < 7 ∧ hn i ≤ 99) (he : ∀ i, i < hc → es i = nI (hs i) ∧ en i = nI (hn i)) : f_X1_warmed (nI hc) es en w = some (warmF hc hs hn w) := by
  unfold f_X1_warmed
  rw [show (0 : Int32) = nI 0 from nI_0.symm]
  exact warmed_loop hw hc6 hr he hc 0 4096 (by omega) (by omega)
