/-! how many bits -/
def oC (B : Nat) : Nat := B % 2 + B / 2 % 2 + B / 4 % 2 + B / 8 % 2 + B / 16 % 2 + B / 32 % 2
theorem c_pop6 : ∀ B : Fin 64, f_J6_bitCount_0f7a4 (nI B.val) = some (nI (oC B.val)) := by
  unfold f_J6_bitCount_0f7a4
  simp only [dq_let]
  decide +kernel
theorem ones_dec : ∀ B : Fin 64, B.val ≠ 0 → (nI B.val &&& (nI B.val - 1)) = nI (B.val &&& (B.val - 1)) ∧ oC (B.val &&& (B.val - 1)) + 1 = oC B.val ∧ (B.val &&& (B.val - 1)) < 64 := by decide +kernel
theorem ones_loop : ∀ (d m B x : Nat), B < 64 → oC B = d → d < m → f_X7_onesOf_b4 m (nI x) (nI B) = some (nI (x + d))
  | d, 0, _, _, _, _, q => absurd q (by omega)
  | d, m + 1, B, x, hB, hd, hm => by
    rw [f_X7_onesOf_b4]
    by_cases z : B = 0
    · subst z
      rw [dq_if_pos nI_0, ← hd]
      rfl
    · obtain ⟨h1, h2, h3⟩ := ones_dec ⟨B, hB⟩ z
      simp only at h1 h2 h3
      rw [dq_if_neg (nI_ne0 (by omega) (by omega))]
      simp only [dq_let]
      rw [h1, show nI x + (1 : Int32) = nI (x + 1) from nI_1 x]
      cases d with
      | zero => exact absurd hd (by omega)
      | succ d =>
        rw [ones_loop d m _ (x + 1) h3 (by omega) (by omega)]
        congr 2
        omega
theorem oC_le : ∀ B : Fin 64, oC B.val ≤ 6 := by decide +kernel
theorem r_ones {B : Nat} (hB : B < 64) : f_X7_onesOf (nI B) = some (nI (oC B)) := by
  unfold f_X7_onesOf
  have := ones_loop (oC B) 4096 B 0 hB rfl (by have := oC_le ⟨B, hB⟩; simp only at this; omega)
  rw [Nat.zero_add, nI_0] at this
  exact this
theorem or_dec : ∀ (k : Fin 6) (B : Fin 64), B.val < 2 ^ k.val → (nI B.val ||| ((1 : Int32) <<< (nI k.val &&& 31))) = nI (B.val + 2 ^ k.val) ∧ (nI B.val ||| ((0 : Int32) <<< (nI k.val &&& 31))) = nI B.val := by decide +kernel
theorem onB_loop {h : AH} {on : Nat → Int32} (hS : aS h ≤ 6) (he : ∀ i, i < aS h → on i = nB (aOn h i)) : ∀ (d k m : Nat), k + d = aS h → d < m → f_X7_onBits_b4 (nI (aS h)) on m (nI (bN (aOn h) k)) (nI k) = some (nI (bN (aOn h) (aS h)))
  | d, k, 0, _, q => absurd q (by omega)
  | 0, k, m + 1, hk, _ => by
    rw [f_X7_onBits_b4, dq_if_pos (nI_le (by omega) (by omega)), show k = aS h by omega]
  | d + 1, k, m + 1, hk, hm => by
    have hkl : k < aS h := by omega
    obtain ⟨o1, o2⟩ := or_dec ⟨k, by omega⟩ ⟨bN (aOn h) k, bN6 _ (by omega)⟩ (bN_lt _ _)
    simp only at o1 o2
    have e : nI (bN (aOn h) k) ||| (nB (aOn h k) <<< (nI k &&& 31)) = nI (bN (aOn h) (k + 1)) := by
      show _ = nI (bN (aOn h) k + (if aOn h k = true then 2 ^ k else 0))
      by_cases z : aOn h k = true
      · rw [nB_1.mpr z, if_pos z]
        exact o1
      · rw [nB_0.mpr z, if_neg z]
        exact o2
    rw [f_X7_onBits_b4, dq_if_neg (nI_ge hkl (by omega)), dq_gd_pos (vp_in_nI (by omega) (by omega)), nI_clamp (by omega), he k hkl, e]
    simp only [dq_let]
    rw [show nI k + (1 : Int32) = nI (k + 1) from nI_1 k]
    exact onB_loop hS he d (k + 1) m (by omega) (by omega)
theorem r_onBits {h : AH} {ai si hc tn tk : Int32} {wm : Nat → UInt32} {sh ki fi ac wy cr se sl on hs hn : Nat → Int32} (V : aV h) (E : HR h ai si hc tn tk wm sh ki fi ac wy cr se sl on hs hn) : f_X7_onBits si on = some (nI (bN (aOn h) (aS h))) := by
  unfold f_X7_onBits
  rw [E.1.2.1]
  have := onB_loop (h := h) (on := on) V.1.2.1 (fun i hi => (E.2.2.1 i hi).2.2) (aS h) 0 4096 (by omega) (by have := V.1.2.1; omega)
  rw [show bN (aOn h) 0 = 0 from rfl, nI_0] at this
  exact this
theorem oC_add : ∀ (k : Fin 6) (B : Fin 64), B.val < 2 ^ k.val → oC (B.val + 2 ^ k.val) = oC B.val + 1 := by decide +kernel
theorem crM_loop {h : AH} {cr : Nat → Int32} (hA : aA h ≤ 5) (he : ∀ i, i < aA h → cr i = nB (aCr h i)) : ∀ (d k m : Nat), k + d = aA h → d < m → f_X7_crownedMany_b4 (nI (aA h)) cr m (nI (oC (bN (aCr h) k))) (nI k) = some (nI (oC (bN (aCr h) (aA h))))
  | d, k, 0, _, q => absurd q (by omega)
  | 0, k, m + 1, hk, _ => by
    rw [f_X7_crownedMany_b4, dq_if_pos (nI_le (by omega) (by omega)), show k = aA h by omega]
  | d + 1, k, m + 1, hk, hm => by
    have hkl : k < aA h := by omega
    have o1 := oC_add ⟨k, by omega⟩ ⟨bN (aCr h) k, bN6 _ (by omega)⟩ (bN_lt _ _)
    simp only at o1
    have e : nI (oC (bN (aCr h) k)) + nB (aCr h k) = nI (oC (bN (aCr h) (k + 1))) := by
      show _ = nI (oC (bN (aCr h) k + (if aCr h k = true then 2 ^ k else 0)))
      by_cases z : aCr h k = true
      · rw [nB_1.mpr z, if_pos z, o1]
        exact nI_1 _
      · rw [nB_0.mpr z, if_neg z]
        exact Int32.add_zero _
    rw [f_X7_crownedMany_b4, dq_if_neg (nI_ge hkl (by omega)), dq_gd_pos (vp_in_nI (by omega) (by omega)), nI_clamp (by omega), he k hkl, e]
    simp only [dq_let]
    rw [show nI k + (1 : Int32) = nI (k + 1) from nI_1 k]
    exact crM_loop hA he d (k + 1) m (by omega) (by omega)
theorem r_crM {h : AH} {ai si hc tn tk : Int32} {wm : Nat → UInt32} {sh ki fi ac wy cr se sl on hs hn : Nat → Int32} (V : aV h) (E : HR h ai si hc tn tk wm sh ki fi ac wy cr se sl on hs hn) : f_X7_crownedMany ai cr = some (nI (oC (bN (aCr h) (aA h)))) := by
  unfold f_X7_crownedMany
  rw [E.1.1]
  have := crM_loop (h := h) (cr := cr) V.1.1 (fun i hi => (E.2.1 i hi).2.2.2.2) (aA h) 0 4096 (by omega) (by have := V.1.1; omega)
  rw [show bN (aCr h) 0 = 0 from rfl, show oC 0 = 0 by decide, nI_0] at this
  exact this
/-! the bits of a long, byte by byte -/
def cN (p : Nat → Bool) : Nat → Nat
  | 0 => 0
  | n + 1 => cN p n + (if p n = true then 1 else 0)
theorem shM_loop {p : Nat → Bool} {sh : Nat → Int32} (he : ∀ i, i < 36 → sh i = nB (p i)) : ∀ (d k m : Nat), k + d = 36 → d < m → f_X7_shutMany_b4 sh m (nI (cN p k)) (nI k) = some (nI (cN p 36))
  | d, k, 0, _, q => absurd q (by omega)
  | 0, k, m + 1, hk, _ => by
    rw [f_X7_shutMany_b4, show (36 : Int32) = nI 36 from rfl, dq_if_pos (nI_le (by omega) (by omega)), show k = 36 by omega]
  | d + 1, k, m + 1, hk, hm => by
    have hkl : k < 36 := by omega
    have e : nI (cN p k) + nB (p k) = nI (cN p (k + 1)) := by
      show _ = nI (cN p k + (if p k = true then 1 else 0))
      by_cases z : p k = true
      · rw [nB_1.mpr z, if_pos z]
        exact nI_1 _
      · rw [nB_0.mpr z, if_neg z]
        exact Int32.add_zero _
    rw [f_X7_shutMany_b4, show (36 : Int32) = nI 36 from rfl, dq_if_neg (nI_ge hkl (by omega)), dq_gd_pos (vp_in_nI (by omega) (by omega)), nI_clamp (by omega), he k hkl, e]
    simp only [dq_let]
    rw [show nI k + (1 : Int32) = nI (k + 1) from nI_1 k]
    exact shM_loop he d (k + 1) m (by omega) (by omega)
theorem r_shM {p : Nat → Bool} {sh : Nat → Int32} (he : ∀ i, i < 36 → sh i = nB (p i)) : f_X7_shutMany sh = some (nI (cN p 36)) := by
  unfold f_X7_shutMany
  have := shM_loop he 36 0 4096 (by omega) (by omega)
  rw [show cN p 0 = 0 from rfl, nI_0] at this
  exact this
theorem ln_and {a m x y : Nat} (ha : a < 256) (hm : m < 256) : (a + 256 * x) &&& (m + 256 * y) = (a &&& m) + 256 * (x &&& y) := by
  have h1 := Nat.and_div_two_pow (a := a + 256 * x) (b := m + 256 * y) (n := 8)
  have h2 := Nat.and_mod_two_pow (a := a + 256 * x) (b := m + 256 * y) (n := 8)
  rw [show (a + 256 * x) / 2 ^ 8 = x by omega, show (m + 256 * y) / 2 ^ 8 = y by omega] at h1
  rw [show (a + 256 * x) % 2 ^ 8 = a by omega, show (m + 256 * y) % 2 ^ 8 = m by omega] at h2
  rw [← h1, ← h2]
  omega
theorem ln_1d : ∀ (a : Fin 256) (b : Fin 2), (a.val / 2 + 128 * b.val) &&& 85 = a.val / 2 &&& 85 := by decide +kernel
theorem ln_2d : ∀ (a : Fin 256) (b : Fin 4), (a.val / 4 + 64 * b.val) &&& 51 = a.val / 4 &&& 51 := by decide +kernel
theorem ln_1 {a x y : Nat} (ha : a < 256) : ((a + 256 * x) / 2) &&& (85 + 256 * y) = (a / 2 &&& 85) + 256 * (x / 2 &&& y) := by
  rw [show (a + 256 * x) / 2 = (a / 2 + 128 * (x % 2)) + 256 * (x / 2) by omega, ln_and (by omega) (by omega), ln_1d ⟨a, ha⟩ ⟨x % 2, by omega⟩]
theorem ln_2 {a x y : Nat} (ha : a < 256) : ((a + 256 * x) / 4) &&& (51 + 256 * y) = (a / 4 &&& 51) + 256 * (x / 4 &&& y) := by
  rw [show (a + 256 * x) / 4 = (a / 4 + 64 * (x % 4)) + 256 * (x / 4) by omega, ln_and (by omega) (by omega), ln_2d ⟨a, ha⟩ ⟨x % 4, by omega⟩]
theorem ln_3d : ∀ (d : Fin 69) (b : Fin 5), d.val % 16 ≤ 4 → (d.val + d.val / 16 + 16 * b.val) &&& 15 = (d.val + d.val / 16) % 16 := by decide +kernel
theorem ln_3 {d x y : Nat} (hd : d ≤ 68) (hd2 : d % 16 ≤ 4) (hx : x % 16 ≤ 4) : ((d + 256 * x) + (d + 256 * x) / 16) &&& (15 + 256 * y) = (d + d / 16) % 16 + 256 * ((x + x / 16) &&& y) := by
  rw [show (d + 256 * x) + (d + 256 * x) / 16 = (d + d / 16 + 16 * (x % 16)) + 256 * (x + x / 16) by omega, ln_and (by omega) (by omega), ln_3d ⟨d, by omega⟩ ⟨x % 16, by omega⟩ hd2]
def bC (B : Nat) : Nat := B - (B / 2 &&& 85)
def bD (B : Nat) : Nat := (bC B &&& 51) + (bC B / 4 &&& 51)
def bP (B : Nat) : Nat := (bD B + bD B / 16) % 16
theorem by_dec : ∀ B : Fin 256, (B.val / 2 &&& 85) ≤ B.val ∧ bD B.val ≤ 68 ∧ bD B.val % 16 ≤ 4 ∧ bP B.val ≤ 8 := by decide +kernel
def by8 (p : Nat → Bool) (o : Nat) : Nat := bN (fun i => p (o + i)) 8
theorem by8_lt (p : Nat → Bool) (o : Nat) : by8 p o < 256 := bN_lt _ 8
theorem bP_dec : ∀ a b c d e f g h : Bool, bP ((if a = true then 1 else 0) + (if b = true then 2 else 0) + (if c = true then 4 else 0) + (if d = true then 8 else 0) + (if e = true then 16 else 0) + (if f = true then 32 else 0) + (if g = true then 64 else 0) + (if h = true then 128 else 0)) = (if a = true then 1 else 0) + (if b = true then 1 else 0) + (if c = true then 1 else 0) + (if d = true then 1 else 0) + (if e = true then 1 else 0) + (if f = true then 1 else 0) + (if g = true then 1 else 0) + (if h = true then 1 else 0) := by decide +kernel
theorem bP_by8 (p : Nat → Bool) (o : Nat) : bP (by8 p o) + cN p o = cN p (o + 8) := by
  have e : by8 p o = (if p (o + 0) = true then 1 else 0) + (if p (o + 1) = true then 2 else 0) + (if p (o + 2) = true then 4 else 0) + (if p (o + 3) = true then 8 else 0) + (if p (o + 4) = true then 16 else 0) + (if p (o + 5) = true then 32 else 0) + (if p (o + 6) = true then 64 else 0) + (if p (o + 7) = true then 128 else 0) := by
    unfold by8
    show 0 + _ + _ + _ + _ + _ + _ + _ + _ = _
    rw [Nat.zero_add]
  rw [e, bP_dec]
  show _ = cN p (o + 0) + (if p (o + 0) = true then 1 else 0) + (if p (o + 1) = true then 1 else 0) + (if p (o + 2) = true then 1 else 0) + (if p (o + 3) = true then 1 else 0) + (if p (o + 4) = true then 1 else 0) + (if p (o + 5) = true then 1 else 0) + (if p (o + 6) = true then 1 else 0) + (if p (o + 7) = true then 1 else 0)
  rw [Nat.add_zero]
  omega
theorem bN_split (p : Nat → Bool) (o : Nat) : ∀ n, bN p (o + n) = bN p o + 2 ^ o * bN (fun i => p (o + i)) n
  | 0 => rfl
  | n + 1 => by
    show bN p (o + n) + (if p (o + n) = true then 2 ^ (o + n) else 0) = bN p o + 2 ^ o * (bN (fun i => p (o + i)) n + (if p (o + n) = true then 2 ^ n else 0))
    rw [bN_split p o n, Nat.mul_add, Nat.pow_add]
    by_cases z : p (o + n) = true
    · rw [if_pos z, if_pos z]
      omega
    · rw [if_neg z, if_neg z]
      omega
theorem ln_1z {a y : Nat} (ha : a < 256) : a / 2 &&& (85 + 256 * y) = a / 2 &&& 85 := by
  have := ln_1 (x := 0) (y := y) ha
  simpa using this
theorem ln_2z {a y : Nat} (ha : a < 256) : a / 4 &&& (51 + 256 * y) = a / 4 &&& 51 := by
  have := ln_2 (x := 0) (y := y) ha
  simpa using this
theorem ln_0z {a y : Nat} (ha : a < 256) : a &&& (51 + 256 * y) = a &&& 51 := by
  have := ln_and (m := 51) (x := 0) (y := y) ha (by omega)
  simpa using this
theorem ln_3z {d y : Nat} (hd : d ≤ 68) (hd2 : d % 16 ≤ 4) : (d + d / 16) &&& (15 + 256 * y) = (d + d / 16) % 16 := by
  have := ln_3 (x := 0) (y := y) hd hd2 (by omega)
  simpa using this
theorem pop_end {A B C D E x4 x5 x6 : Nat} (hA : A ≤ 8) (hB : B ≤ 8) (hC : C ≤ 8) (hD : D ≤ 8) (hE : E ≤ 8) (h4 : (A + 256 * (B + 256 * (C + 256 * (D + 256 * E)))) + (A + 256 * (B + 256 * (C + 256 * (D + 256 * E)))) / 2 ^ 8 = x4) (h5 : x4 + x4 / 2 ^ 16 = x5) (h6 : x5 + x5 / 2 ^ 32 = x6) : x6 % 2 ^ 64 % 2 ^ 32 % 2 ^ 7 = (A + B + C + D + E) % 2 ^ 32 := by
  have k0 : (A + 256 * (B + 256 * (C + 256 * (D + 256 * E)))) / 2 ^ 8 = B + 256 * (C + 256 * (D + 256 * E)) := by omega
  rw [k0] at h4
  have k1 : x4 = (A + B) + 256 * (B + C) + 65536 * (C + D) + 16777216 * (D + E) + 4294967296 * E := by omega
  have k2 : x4 / 2 ^ 16 = (C + D) + 256 * (D + E) + 65536 * E := by omega
  rw [k2, k1] at h5
  have k3 : x5 = (A + B + C + D) + 256 * (B + C + D + E) + 65536 * (C + D + E) + 16777216 * (D + E) + 4294967296 * E := by omega
  have k4 : x5 / 2 ^ 32 = E := by omega
  rw [k4, k3] at h6
  have k5 : x6 = (A + B + C + D + E) + 128 * (2 * (B + C + D + E) + 512 * (C + D + E) + 131072 * (D + E) + 33554432 * E) := by omega
  have k6 : x6 < 2 ^ 36 := by omega
  have k7 : x6 % 2 ^ 64 = x6 := Nat.mod_eq_of_lt (by omega)
  rw [k7, Nat.mod_mod_of_dvd _ (show 2 ^ 7 ∣ 2 ^ 32 from ⟨2 ^ 25, by decide⟩), k5]
  rw [show (2 : Nat) ^ 7 = 128 from rfl, Nat.add_mul_mod_self_left, Nat.mod_eq_of_lt (by omega), Nat.mod_eq_of_lt (by omega)]
theorem pop_pk (a b c d e : Nat) (ha : a < 256) (hb : b < 256) (hc : c < 256) (hd : d < 256) (he : e < 256) : f_J13_bitCount_95d88 (lN (a + 256 * (b + 256 * (c + 256 * (d + 256 * e))))) = some (nI (bP a + bP b + bP c + bP d + bP e)) := by
  obtain ⟨a1, a2, a3, a4⟩ := by_dec ⟨a, ha⟩
  obtain ⟨b1, b2, b3, b4⟩ := by_dec ⟨b, hb⟩
  obtain ⟨c1, c2, c3, c4⟩ := by_dec ⟨c, hc⟩
  obtain ⟨d1, d2, d3, d4⟩ := by_dec ⟨d, hd⟩
  obtain ⟨e1, e2, e3, e4⟩ := by_dec ⟨e, he⟩
  simp only at a1 a2 a3 a4 b1 b2 b3 b4 c1 c2 c3 c4 d1 d2 d3 d4 e1 e2 e3 e4
  have M5 : (6148914691236517205 : Int64) = lN (85 + 256 * (85 + 256 * (85 + 256 * (85 + 256 * (85 + 256 * 5592405))))) := by decide +kernel
  have M3 : (3689348814741910323 : Int64) = lN (51 + 256 * (51 + 256 * (51 + 256 * (51 + 256 * (51 + 256 * 3355443))))) := by decide +kernel
  have MF : (1085102592571150095 : Int64) = lN (15 + 256 * (15 + 256 * (15 + 256 * (15 + 256 * (15 + 256 * 986895))))) := by decide +kernel
  unfold f_J13_bitCount_95d88
  simp only [dq_let]
  have s1 : ((lN (a + 256 * (b + 256 * (c + 256 * (d + 256 * e))))).toUInt64 >>> ((1 : Int32).toInt64.toUInt64 &&& Int64.toUInt64 63)).toInt64 = lN ((a + 256 * (b + 256 * (c + 256 * (d + 256 * e)))) / 2) := wb_shr (k := 1) (by omega) (by omega)
  have q1 : ((a + 256 * (b + 256 * (c + 256 * (d + 256 * e)))) / 2) &&& (85 + 256 * (85 + 256 * (85 + 256 * (85 + 256 * (85 + 256 * 5592405))))) = (a / 2 &&& 85) + 256 * ((b / 2 &&& 85) + 256 * ((c / 2 &&& 85) + 256 * ((d / 2 &&& 85) + 256 * (e / 2 &&& 85)))) := by
    rw [ln_1 ha, ln_1 hb, ln_1 hc, ln_1 hd, ln_1z he]
  rw [s1, M5, wb_and (by omega) (by omega), q1, lN_sub (by omega)]
  have q2 : (a + 256 * (b + 256 * (c + 256 * (d + 256 * e)))) - ((a / 2 &&& 85) + 256 * ((b / 2 &&& 85) + 256 * ((c / 2 &&& 85) + 256 * ((d / 2 &&& 85) + 256 * (e / 2 &&& 85))))) = bC a + 256 * (bC b + 256 * (bC c + 256 * (bC d + 256 * bC e))) := by
    unfold bC
    omega
  rw [q2]
  have ca : bC a < 256 := by unfold bC; omega
  have cb : bC b < 256 := by unfold bC; omega
  have cc : bC c < 256 := by unfold bC; omega
  have cd : bC d < 256 := by unfold bC; omega
  have ce : bC e < 256 := by unfold bC; omega
  have s2 : ((lN (bC a + 256 * (bC b + 256 * (bC c + 256 * (bC d + 256 * bC e))))).toUInt64 >>> ((2 : Int32).toInt64.toUInt64 &&& Int64.toUInt64 63)).toInt64 = lN ((bC a + 256 * (bC b + 256 * (bC c + 256 * (bC d + 256 * bC e)))) / 4) := wb_shr (k := 2) (by omega) (by omega)
  have q3 : (bC a + 256 * (bC b + 256 * (bC c + 256 * (bC d + 256 * bC e)))) &&& (51 + 256 * (51 + 256 * (51 + 256 * (51 + 256 * (51 + 256 * 3355443))))) = (bC a &&& 51) + 256 * ((bC b &&& 51) + 256 * ((bC c &&& 51) + 256 * ((bC d &&& 51) + 256 * (bC e &&& 51)))) := by
    rw [ln_and ca (by omega), ln_and cb (by omega), ln_and cc (by omega), ln_and cd (by omega), ln_0z ce]
  have q4 : ((bC a + 256 * (bC b + 256 * (bC c + 256 * (bC d + 256 * bC e)))) / 4) &&& (51 + 256 * (51 + 256 * (51 + 256 * (51 + 256 * (51 + 256 * 3355443))))) = (bC a / 4 &&& 51) + 256 * ((bC b / 4 &&& 51) + 256 * ((bC c / 4 &&& 51) + 256 * ((bC d / 4 &&& 51) + 256 * (bC e / 4 &&& 51)))) := by
    rw [ln_2 ca, ln_2 cb, ln_2 cc, ln_2 cd, ln_2z ce]
  rw [s2, M3, wb_and (by omega) (by omega), wb_and (by omega) (by omega), q3, q4, lN_add]
  have q5 : ((bC a &&& 51) + 256 * ((bC b &&& 51) + 256 * ((bC c &&& 51) + 256 * ((bC d &&& 51) + 256 * (bC e &&& 51))))) + ((bC a / 4 &&& 51) + 256 * ((bC b / 4 &&& 51) + 256 * ((bC c / 4 &&& 51) + 256 * ((bC d / 4 &&& 51) + 256 * (bC e / 4 &&& 51))))) = bD a + 256 * (bD b + 256 * (bD c + 256 * (bD d + 256 * bD e))) := by
    unfold bD
    omega
  rw [q5]
  have s3 : ((lN (bD a + 256 * (bD b + 256 * (bD c + 256 * (bD d + 256 * bD e))))).toUInt64 >>> ((4 : Int32).toInt64.toUInt64 &&& Int64.toUInt64 63)).toInt64 = lN ((bD a + 256 * (bD b + 256 * (bD c + 256 * (bD d + 256 * bD e)))) / 16) := wb_shr (k := 4) (by omega) (by omega)
  have q6 : ((bD a + 256 * (bD b + 256 * (bD c + 256 * (bD d + 256 * bD e)))) + (bD a + 256 * (bD b + 256 * (bD c + 256 * (bD d + 256 * bD e)))) / 16) &&& (15 + 256 * (15 + 256 * (15 + 256 * (15 + 256 * (15 + 256 * 986895))))) = bP a + 256 * (bP b + 256 * (bP c + 256 * (bP d + 256 * bP e))) := by
    rw [ln_3 a2 a3 (by omega), ln_3 b2 b3 (by omega), ln_3 c2 c3 (by omega), ln_3 d2 d3 (by omega), ln_3z e2 e3]
    rfl
  rw [s3, lN_add, MF, wb_and (by omega) (by omega), q6]
  have s4 : ((lN (bP a + 256 * (bP b + 256 * (bP c + 256 * (bP d + 256 * bP e))))).toUInt64 >>> ((8 : Int32).toInt64.toUInt64 &&& Int64.toUInt64 63)).toInt64 = lN ((bP a + 256 * (bP b + 256 * (bP c + 256 * (bP d + 256 * bP e)))) / 2 ^ 8) := wb_shr (k := 8) (by omega) (by omega)
  rw [s4, lN_add]
  generalize hx4 : (bP a + 256 * (bP b + 256 * (bP c + 256 * (bP d + 256 * bP e)))) + (bP a + 256 * (bP b + 256 * (bP c + 256 * (bP d + 256 * bP e)))) / 2 ^ 8 = x4
  have s5 : ((lN x4).toUInt64 >>> ((16 : Int32).toInt64.toUInt64 &&& Int64.toUInt64 63)).toInt64 = lN (x4 / 2 ^ 16) := wb_shr (k := 16) (by omega) (by omega)
  rw [s5, lN_add]
  generalize hx5 : x4 + x4 / 2 ^ 16 = x5
  have s6 : ((lN x5).toUInt64 >>> ((32 : Int32).toInt64.toUInt64 &&& Int64.toUInt64 63)).toInt64 = lN (x5 / 2 ^ 32) := wb_shr (k := 32) (by omega) (by omega)
  rw [s6, lN_add]
  generalize hx6 : x5 + x5 / 2 ^ 32 = x6
  congr 1
  apply Int32.toBitVec_inj.mp
  rw [Int32.toBitVec_and, Int64.toBitVec_toInt32, BitVec.signExtend_eq_setWidth_of_le _ (by omega)]
  apply BitVec.eq_of_toNat_eq
  rw [BitVec.toNat_and, BitVec.toNat_setWidth]
  show (BitVec.ofNat 64 x6).toNat % 2 ^ 32 &&& (2 ^ 7 - 1) = (BitVec.ofNat 32 (bP a + bP b + bP c + bP d + bP e)).toNat
  rw [Nat.and_two_pow_sub_one_eq_mod, BitVec.toNat_ofNat, BitVec.toNat_ofNat]
  exact pop_end a4 b4 c4 d4 e4 hx4 hx5 hx6
theorem c_pop36 (p : Nat → Bool) : f_J13_bitCount_95d88 (lN (bN p 36)) = some (nI (cN p 36)) := by
  let r : Nat → Bool := fun i => decide (i < 36) && p i
  have er : bN p 36 = bN r 36 := bN_ext (fun i hi => by simp [r, hi])
  have e40 : bN r 36 = bN r 40 := by
    have h : ∀ i, 36 ≤ i → r i = false := fun i hi => by simp [r]; intro; omega
    show _ = bN r 36 + (if r 36 = true then _ else 0) + (if r 37 = true then _ else 0) + (if r 38 = true then _ else 0) + (if r 39 = true then _ else 0)
    rw [h 36 (by omega), h 37 (by omega), h 38 (by omega), h 39 (by omega)]
    rfl
  have cr : cN p 36 = cN r 40 := by
    have h : ∀ i, 36 ≤ i → r i = false := fun i hi => by simp [r]; intro; omega
    have h2 : ∀ n, n ≤ 36 → cN p n = cN r n := by
      intro n
      induction n with
      | zero => intro _; rfl
      | succ n ih =>
        intro hn
        show cN p n + (if p n = true then 1 else 0) = cN r n + (if r n = true then 1 else 0)
        rw [ih (by omega), show r n = p n by simp [r]; omega]
    rw [h2 36 (Nat.le_refl _)]
    show _ = cN r 36 + (if r 36 = true then _ else 0) + (if r 37 = true then _ else 0) + (if r 38 = true then _ else 0) + (if r 39 = true then _ else 0)
    rw [h 36 (by omega), h 37 (by omega), h 38 (by omega), h 39 (by omega)]
    rfl
  have sp : bN r 40 = by8 r 0 + 256 * (by8 r 8 + 256 * (by8 r 16 + 256 * (by8 r 24 + 256 * by8 r 32))) := by
    have s1 : bN r 40 = bN r 32 + 2 ^ 32 * bN (fun i => r (32 + i)) 8 := bN_split r 32 8
    have s2 : bN r 32 = bN r 24 + 2 ^ 24 * bN (fun i => r (24 + i)) 8 := bN_split r 24 8
    have s3 : bN r 24 = bN r 16 + 2 ^ 16 * bN (fun i => r (16 + i)) 8 := bN_split r 16 8
    have s4 : bN r 16 = bN r 8 + 2 ^ 8 * bN (fun i => r (8 + i)) 8 := bN_split r 8 8
    have s5 : bN r 8 = by8 r 0 := bN_ext (fun i _ => by show r i = r (0 + i); rw [Nat.zero_add])
    unfold by8 at *
    omega
  have c1 : bP (by8 r 0) + cN r 0 = cN r 8 := bP_by8 r 0
  have c2 : bP (by8 r 8) + cN r 8 = cN r 16 := bP_by8 r 8
  have c3 : bP (by8 r 16) + cN r 16 = cN r 24 := bP_by8 r 16
  have c4 : bP (by8 r 24) + cN r 24 = cN r 32 := bP_by8 r 24
  have c5 : bP (by8 r 32) + cN r 32 = cN r 40 := bP_by8 r 32
  rw [er, e40, sp, pop_pk _ _ _ _ _ (by8_lt _ _) (by8_lt _ _) (by8_lt _ _) (by8_lt _ _) (by8_lt _ _), cr]
  congr 2
  have : cN r 0 = 0 := rfl
  omega
