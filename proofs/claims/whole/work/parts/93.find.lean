/-! bits of longs: pasted from the family that is given for it -/
theorem wb_tb (n : Nat) : (lN n).toBitVec = BitVec.ofNat 64 n := rfl
theorem wb_inj {a b : Int64} (h : a.toBitVec = b.toBitVec) : a = b := Int64.toBitVec_inj.mp h
theorem wb_tn {n : Nat} (h : n < 2 ^ 64) : (lN n).toBitVec.toNat = n := by rw [wb_tb, BitVec.toNat_ofNat, Nat.mod_eq_of_lt h]
theorem wb_of (x : Int64) : ∃ n, n < 2 ^ 64 ∧ x = lN n := ⟨x.toBitVec.toNat, x.toBitVec.isLt, wb_inj (by rw [wb_tb]; simp)⟩
theorem wb_of32 (x : Int32) : ∃ n, n < 2 ^ 32 ∧ x = nI n := ⟨x.toBitVec.toNat, x.toBitVec.isLt, Int32.toBitVec_inj.mp (by show _ = BitVec.ofNat 32 _; simp)⟩
theorem wb_c : ∀ k, k < 64 → ((nI k).toInt64 &&& 63) = lN k := by decide +kernel
theorem wb_cu : ∀ k, k < 64 → ((nI k).toInt64.toUInt64 &&& Int64.toUInt64 63) = UInt64.ofNat k := by decide +kernel
theorem wb_sm : ∀ k, k < 64 → (BitVec.ofNat 64 k).smod 64 = BitVec.ofNat 64 k := by decide +kernel
theorem wb_pw {a b : Nat} (h : a ≤ b) : 2 ^ b = 2 ^ a * 2 ^ (b - a) := by rw [← Nat.pow_add]; congr 1; omega
theorem wb_lt2 {a b : Nat} (h : a < b) : 2 ^ a < 2 ^ b := Nat.pow_lt_pow_right (by decide) h
theorem wb_mod (n : Nat) : lN n = lN (n % 2 ^ 64) := wb_inj (by rw [wb_tb, wb_tb]; apply BitVec.eq_of_toNat_eq; rw [BitVec.toNat_ofNat, BitVec.toNat_ofNat, Nat.mod_mod])
theorem wb_shr {n k : Nat} (hn : n < 2 ^ 64) (hk : k < 64) : ((lN n).toUInt64 >>> ((nI k).toInt64.toUInt64 &&& Int64.toUInt64 63)).toInt64 = lN (n / 2 ^ k) := by
  rw [wb_cu k hk]
  apply wb_inj
  apply BitVec.eq_of_toNat_eq
  show ((lN n).toUInt64 >>> UInt64.ofNat k).toNat = (BitVec.ofNat 64 _).toNat
  have h1 : (UInt64.ofNat k).toNat = k := by
    show (BitVec.ofNat 64 k).toNat = k
    rw [BitVec.toNat_ofNat, Nat.mod_eq_of_lt (by omega)]
  have h2 : (lN n).toUInt64.toNat = n := wb_tn hn
  rw [UInt64.toNat_shiftRight, h1, h2, Nat.mod_eq_of_lt hk, Nat.shiftRight_eq_div_pow, BitVec.toNat_ofNat, Nat.mod_eq_of_lt (Nat.lt_of_le_of_lt (Nat.div_le_self _ _) hn)]
theorem wb_shl (n : Nat) {k : Nat} (hk : k < 64) : lN n <<< ((nI k).toInt64 &&& 63) = lN (n * 2 ^ k) := by
  rw [wb_c k hk]
  apply wb_inj
  rw [Int64.toBitVec_shiftLeft, wb_tb, wb_tb, wb_tb, wb_sm k hk]
  apply BitVec.eq_of_toNat_eq
  rw [BitVec.shiftLeft_eq', BitVec.toNat_shiftLeft, BitVec.toNat_ofNat, BitVec.toNat_ofNat, BitVec.toNat_ofNat, Nat.mod_eq_of_lt (show k < 2 ^ 64 by omega), Nat.shiftLeft_eq, Nat.mul_mod, Nat.mod_mod, ← Nat.mul_mod]
theorem wb_and {a b : Nat} (ha : a < 2 ^ 64) (hb : b < 2 ^ 64) : lN a &&& lN b = lN (a &&& b) := by
  apply wb_inj
  rw [Int64.toBitVec_and, wb_tb, wb_tb, wb_tb]
  apply BitVec.eq_of_toNat_eq
  rw [BitVec.toNat_and, BitVec.toNat_ofNat, BitVec.toNat_ofNat, BitVec.toNat_ofNat, Nat.mod_eq_of_lt ha, Nat.mod_eq_of_lt hb, Nat.mod_eq_of_lt (Nat.and_lt_two_pow _ hb)]
theorem wb_or {a b : Nat} (ha : a < 2 ^ 64) (hb : b < 2 ^ 64) : lN a ||| lN b = lN (a ||| b) := by
  apply wb_inj
  rw [Int64.toBitVec_or, wb_tb, wb_tb, wb_tb]
  apply BitVec.eq_of_toNat_eq
  rw [BitVec.toNat_or, BitVec.toNat_ofNat, BitVec.toNat_ofNat, BitVec.toNat_ofNat, Nat.mod_eq_of_lt ha, Nat.mod_eq_of_lt hb, Nat.mod_eq_of_lt (Nat.or_lt_two_pow ha hb)]
theorem wb_mask {n k : Nat} (hn : n < 2 ^ 64) (hk : k < 64) : lN n &&& lN (2 ^ k - 1) = lN (n % 2 ^ k) := by
  rw [wb_and hn (by have := wb_lt2 hk; omega), Nat.and_two_pow_sub_one_eq_mod]
theorem wb_a1 {n : Nat} (hn : n < 2 ^ 64) : lN n &&& 1 = lN (n % 2) := wb_mask (k := 1) hn (by decide)
theorem wb_bit {n k : Nat} (hn : n < 2 ^ 64) (hk : k < 64) : ((lN n).toUInt64 >>> ((nI k).toInt64.toUInt64 &&& Int64.toUInt64 63)).toInt64 &&& 1 = lN (n / 2 ^ k % 2) := by
  rw [wb_shr hn hk, wb_a1 (Nat.lt_of_le_of_lt (Nat.div_le_self _ _) hn)]
theorem pf_lI {a : Nat} (h : a < 2 ^ 63) : (lN a).toInt = (a : Int) := lg_ofNat_toInt h
theorem pf_shr {a d : Nat} {D : Int64} (hD : (D.toBitVec.smod 64).toNat = d) (h : a < 2 ^ 62) : lN a >>> D = lN (a / 2 ^ d) := by
  have hd : a / 2 ^ d ≤ a := Nat.div_le_self _ _
  apply Int64.toInt_inj.mp
  have e : (lN a >>> D).toInt = (lN a).toInt >>> d := by
    rw [← hD]
    exact BitVec.toInt_sshiftRight ..
  rw [e, Int.shiftRight_eq_div_pow, pf_lI (by omega), pf_lI (by omega)]
  rfl
/-! who is on a cell, what is free -/
theorem airOn_loop {A c : Nat} {ac : Nat → Nat} {ec : Nat → Int32} (hA : A ≤ 5) (he : ∀ i, i < A → ec i = nI (ac i)) (hr : ∀ i, i < A → ac i < 36) (hc : c < 36) : ∀ (d k m : Nat), k + d = A → d < m → (∀ b, b < k → (ac b == c) = false) → f_X2_airOn_b2 (nI c) (nI A) ec m (nI k) = some (eN (-9) (fM (fun i => ac i == c) A))
  | d, k, 0, _, h, _ => absurd h (by omega)
  | 0, k, m + 1, hk, _, hb => by
    have : k = A := by omega
    subst this
    unfold f_X2_airOn_b2
    rw [dq_if_pos (nI_le (Nat.le_refl _) (by omega)), fM_none.mpr hb]
    rfl
  | d + 1, k, m + 1, hk, hm, hb => by
    have hkl : k < A := by omega
    unfold f_X2_airOn_b2
    rw [dq_if_neg (nI_ge hkl (by omega)), dq_gd_pos (vp_in_nI (by omega) (by omega)), nI_clamp (by omega), he k hkl]
    by_cases h : ac k = c
    · rw [dq_if_pos (by rw [h]), fM_some.mpr ⟨hkl, by simpa using h, hb⟩]
      rfl
    · rw [dq_if_neg (fun q => h ((nI_eq (by have := hr k hkl; omega) (by omega)).mp q))]
      simp only [dq_let]
      rw [show nI k + (1 : Int32) = nI (k + 1) from nI_1 k]
      refine airOn_loop hA he hr hc d (k + 1) m (by omega) (by omega) (fun b hb2 => ?_)
      by_cases hbk : b = k
      · subst hbk
        simpa using h
      · exact hb b (by omega)
theorem airOn_ok {A c : Nat} {ac : Nat → Nat} {ec : Nat → Int32} (hA : A ≤ 5) (he : ∀ i, i < A → ec i = nI (ac i)) (hr : ∀ i, i < A → ac i < 36) (hc : c < 36) : f_X2_airOn (nI A) ec (nI c) = some (eN (-9) (fM (fun i => ac i == c) A)) := by
  unfold f_X2_airOn
  rw [show (0 : Int32) = nI 0 from nI_0.symm]
  exact airOn_loop hA he hr hc A 0 4096 (by omega) (by omega) (fun b hb => absurd hb (by omega))
theorem sitterOn_loop {S c : Nat} {st : Nat → Nat} {on : Nat → Bool} {es : Nat → Int32} (hS : S ≤ 6) (he : ∀ i, i < S → es i = nI (st i)) (hr : ∀ i, i < S → st i < 36) (hc : c < 36) : ∀ (d k m : Nat), k + d = S → d < m → (∀ b, b < k → (st b == c && on b) = false) → f_X2_sitterOn_b2 (nI c) (nI S) (nI (bN on S)) es m (nI k) = some (eN (-9) (fM (fun i => st i == c && on i) S))
  | d, k, 0, _, h, _ => absurd h (by omega)
  | 0, k, m + 1, hk, _, hb => by
    have : k = S := by omega
    subst this
    unfold f_X2_sitterOn_b2
    rw [dq_if_pos (nI_le (Nat.le_refl _) (by omega)), fM_none.mpr hb]
    rfl
  | d + 1, k, m + 1, hk, hm, hb => by
    have hkl : k < S := by omega
    have go : (st k == c && on k) = false → f_X2_sitterOn_b2 (nI c) (nI S) (nI (bN on S)) es m (nI k + 1) = some (eN (-9) (fM (fun i => st i == c && on i) S)) := by
      intro h
      rw [show nI k + (1 : Int32) = nI (k + 1) from nI_1 k]
      refine sitterOn_loop hS he hr hc d (k + 1) m (by omega) (by omega) (fun b hb2 => ?_)
      by_cases hbk : b = k
      · subst hbk
        exact h
      · exact hb b (by omega)
    unfold f_X2_sitterOn_b2
    rw [dq_if_neg (nI_ge hkl (by omega)), dq_gd_pos (vp_in_nI (by omega) (by omega)), nI_clamp (by omega), he k hkl]
    by_cases h : st k = c
    · rw [dq_if_pos (by rw [h])]
      by_cases ho : on k = true
      · rw [dq_if_pos ((bits_get hS hkl).mpr ho), fM_some.mpr ⟨hkl, by simp [h, ho], hb⟩]
        rfl
      · rw [dq_if_neg (fun q => ho ((bits_get hS hkl).mp q))]
        exact go (by simp [h]; simpa using ho)
    · rw [dq_if_neg (fun q => h ((nI_eq (by have := hr k hkl; omega) (by omega)).mp q))]
      exact go (by simp [h])
theorem sitterOn_ok {S c : Nat} {st : Nat → Nat} {on : Nat → Bool} {es : Nat → Int32} (hS : S ≤ 6) (he : ∀ i, i < S → es i = nI (st i)) (hr : ∀ i, i < S → st i < 36) (hc : c < 36) : f_X2_sitterOn (nI S) (nI (bN on S)) es (nI c) = some (eN (-9) (fM (fun i => st i == c && on i) S)) := by
  unfold f_X2_sitterOn
  rw [show (0 : Int32) = nI 0 from nI_0.symm]
  exact sitterOn_loop hS he hr hc S 0 4096 (by omega) (by omega) (fun b hb => absurd hb (by omega))
theorem lg_eq {x y : Int64} : lg_cmp x y = 0 ↔ x = y := by
  unfold lg_cmp
  constructor
  · intro h
    split at h
    · exact absurd h (by decide)
    · split at h
      · assumption
      · exact absurd h (by decide)
  · rintro rfl
    simp
theorem shut_bit {sd : Nat → Bool} {c : Nat} (hc : c < 36) : ((lN (bN sd 36) >>> ((nI c).toInt64 &&& 63)) &&& (1 : Int64)) = (1 : Int64) ↔ sd c = true := by
  have hb := bN_lt sd 36
  have hl : bN sd 36 < 2 ^ 62 := Nat.lt_trans hb (by decide)
  rw [wb_c c (by omega), pf_shr (d := c) (by rw [wb_tb, wb_sm c (by omega), BitVec.toNat_ofNat]; omega) hl, wb_a1 (Nat.lt_of_le_of_lt (Nat.div_le_self _ _) (by omega))]
  rw [← bN_bit sd 36 c hc, Nat.testBit_eq_decide_div_mod_eq, decide_eq_true_eq]
  rw [show (1 : Int64) = lN 1 from rfl, lN_eq (by omega) (by omega)]
theorem isShut_ok {sd : Nat → Bool} {c : Nat} (hc : c < 36) : f_X2_isShut (lN (bN sd 36)) (nI c) = some (if sd c = true then 1 else 0) := by
  unfold f_X2_isShut
  by_cases h : sd c = true
  · rw [dq_if_pos (lg_eq.mpr ((shut_bit hc).mpr h)), if_pos h]
  · rw [dq_if_neg (fun q => h ((shut_bit hc).mp (lg_eq.mp q))), if_neg h]
/-- the airs, the sitters that are on, on a cell -/
def airAt (h : AH) (c : Nat) : Option Nat := fM (fun i => aAc h i == c) (aA h)
def sitAt (h : AH) (c : Nat) : Option Nat := fM (fun i => aSt h i == c && aOn h i) (aS h)
def freeS (h : AH) (c : Nat) : Bool := !aSd h c && ((airAt h c).isNone && (sitAt h c).isNone)
/-- a house within its bounds -/
def aV (h : AH) : Prop := (aA h ≤ 5 ∧ aS h ≤ 6 ∧ aHc h ≤ 6 ∧ aTn h < 2 ^ 20 ∧ aTk h ≤ 9999) ∧ (∀ i, i < aA h → aKd h i < 8 ∧ aFg h i ≤ 9 ∧ aAc h i < 36 ∧ aWy h i < 4) ∧ (∀ i, i < aS h → aSt h i < 36 ∧ aSh h i ≤ 9) ∧ (∀ i, i < aHc h → aHs h i < 7 ∧ aHn h i ≤ 99) ∧ (∀ c, c < 36 → fH (aWm h c))
theorem eN_9 {o : Option Nat} (h : ∀ a, o = some a → a < 36) : eN (-9) o = (-9 : Int32) ↔ o.isNone = true := by
  cases o with
  | none => simp [eN]
  | some a =>
    have := h a rfl
    simp only [eN, Option.isNone_some, Bool.false_eq_true, iff_false]
    intro q
    have h1 := nI_toInt (n := a) (by omega)
    rw [q] at h1
    exact absurd h1 (by rw [show ((-9 : Int32)).toInt = -9 from rfl]; omega)
theorem fM_lt {p : Nat → Bool} {n a : Nat} (h : fM p n = some a) : a < n := (fM_some.mp h).1
