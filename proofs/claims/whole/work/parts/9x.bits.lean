/-! the bits of a float, by arithmetic -/
theorem bt_n {n : Nat} (h : n < 2 ^ 32) : (UInt32.ofNat n).toNat = n := by
  show (BitVec.ofNat 32 n).toNat = n
  rw [BitVec.toNat_ofNat]
  exact Nat.mod_eq_of_lt h
theorem bt_nn {w : UInt32} (h : FP.Core.val32 w ≠ .nan) : vf_n32 w := by
  unfold vf_n32
  rw [UInt32.le_iff_toNat_le, UInt32.toNat_and]
  show w.toNat &&& (2 ^ 31 - 1) ≤ 2139095040
  rw [Nat.and_two_pow_sub_one_eq_mod]
  exact (FP.Core.ne_nan32 _).mp h
theorem val_n {n : Nat} (h : n < 255 * 2 ^ 23) : FP.Core.val32 (UInt32.ofNat n) = if n < 2 ^ 23 then .fin false n (-149) else .fin false (2 ^ 23 + n % 2 ^ 23) ((n / 2 ^ 23 : Nat) - 150 : Int) := by
  unfold FP.Core.val32
  rw [bt_n (by omega)]
  have e1 : FP.Core.fieldE FP.Core.b32 n = n / 2 ^ 23 := by
    show n / 2 ^ 23 % 2 ^ 8 = _
    omega
  have e2 : FP.Core.fieldT FP.Core.b32 n = n % 2 ^ 23 := rfl
  have e3 : FP.Core.fieldS FP.Core.b32 n = false := by
    show (n / 2 ^ 23 / 2 ^ 8 % 2 == 1) = false
    rw [show n / 2 ^ 23 / 2 ^ 8 = 0 by omega]
    rfl
  unfold FP.Core.decode
  rw [e1, e2, e3, if_neg (show ¬ n / 2 ^ 23 = FP.Core.b32.exps - 1 from by rw [show FP.Core.b32.exps - 1 = 255 by decide]; omega)]
  by_cases q : n < 2 ^ 23
  · rw [if_pos (by omega), if_pos q, show n % 2 ^ 23 = n by omega]
    rfl
  · rw [if_neg (by omega), if_neg q]
    show FP.Core.Datum.fin false (2 ^ 23 + n % 2 ^ 23) (FP.Core.b32.qmin + (((n / 2 ^ 23 : Nat) : Int) - 1)) = _
    congr 1
    rw [show FP.Core.b32.qmin = -149 by decide]
    omega
theorem bt_1 : FP.Core.val32 FP.fconst1 = .fin false (2 ^ 23) (-23) := by decide +kernel
theorem bt_2 : FP.Core.val32 FP.fconst2 = .fin false (2 ^ 23) (-22) := by decide +kernel
theorem bt_h : FP.Core.val32 1056964608 = .fin false (2 ^ 23) (-24) := by decide +kernel
theorem bt_k : FP.Core.val32 1258291200 = .fin false (2 ^ 23) 0 := by decide +kernel
theorem mul_pow {x k y : UInt32} {c d c' : Nat} {q r q' : Int} (hx : FP.Core.val32 x = .fin false c q) (hk : FP.Core.val32 k = .fin false d r) (hy : FP.Core.val32 y = .fin false c' q') (h : (c * d) * 2 ^ ((q + r - q').toNat) = c' * 1 * 2 ^ ((q' - (q + r)).toNat)) : FP.fmul x k = y := by
  have e : FP.Core.val32 (FP.Core.fmul x k) = .fin false c' q' := by
    rw [FP.Core.val32_fmul, hx, hk]
    show FP.Core.roundRatio FP.Core.b32 false (c * d) 1 (q + r) = _
    have hf := FP.Core.val32_fits y
    rw [hy] at hf
    exact FP.Core.roundRatio_exact FP.Core.good_b32 (by decide) hf h
  exact FP.Core.val32_inj (a := FP.Core.fmul x k) (by rw [e]; exact FP.Core.Datum.noConfusion) (e.trans hy.symm)
def dbl (n : Nat) : Nat := if n < 2 ^ 23 then 2 * n else n + 2 ^ 23
theorem dbl_ok {n : Nat} (h : n < 200 * 2 ^ 23) : FP.fmul (UInt32.ofNat n) FP.fconst2 = UInt32.ofNat (dbl n) := by
  have hv := val_n (n := n) (by omega)
  by_cases q : n < 2 ^ 23
  · rw [if_pos q] at hv
    rw [show dbl n = 2 * n from if_pos q]
    have hy := val_n (n := 2 * n) (by omega)
    by_cases q2 : 2 * n < 2 ^ 23
    · rw [if_pos q2] at hy
      refine mul_pow hv bt_2 hy ?_
      show n * 2 ^ 23 * 2 ^ 0 = 2 * n * 1 * 2 ^ 22
      omega
    · rw [if_neg q2, show 2 * n / 2 ^ 23 = 1 by omega, show 2 ^ 23 + 2 * n % 2 ^ 23 = 2 * n by omega] at hy
      refine mul_pow hv bt_2 hy ?_
      show n * 2 ^ 23 * 2 ^ 0 = 2 * n * 1 * 2 ^ 22
      omega
  · rw [if_neg q] at hv
    rw [show dbl n = n + 2 ^ 23 from if_neg q]
    have hy := val_n (n := n + 2 ^ 23) (by omega)
    rw [if_neg (by omega), show (n + 2 ^ 23) % 2 ^ 23 = n % 2 ^ 23 by omega, show (n + 2 ^ 23) / 2 ^ 23 = n / 2 ^ 23 + 1 by omega] at hy
    refine mul_pow hv bt_2 hy ?_
    generalize n / 2 ^ 23 = e
    generalize n % 2 ^ 23 = t
    rw [show ((e : Int) - 150 + -22 - (((e + 1 : Nat) : Int) - 150)).toNat = 0 by omega, show ((((e + 1 : Nat) : Int) - 150) - ((e : Int) - 150 + -22)).toNat = 23 by omega]
    omega
theorem hlf_ok {n : Nat} (h : n < 255 * 2 ^ 23) (h2 : 2 ^ 24 ≤ n) : FP.fmul (UInt32.ofNat n) 1056964608 = UInt32.ofNat (n - 2 ^ 23) := by
  have hv := val_n (n := n) h
  have hy := val_n (n := n - 2 ^ 23) (by omega)
  rw [if_neg (by omega)] at hv hy
  rw [show (n - 2 ^ 23) % 2 ^ 23 = n % 2 ^ 23 by omega, show (n - 2 ^ 23) / 2 ^ 23 = n / 2 ^ 23 - 1 by omega] at hy
  refine mul_pow hv bt_h hy ?_
  have : 2 ≤ n / 2 ^ 23 := by omega
  generalize n / 2 ^ 23 = e at *
  generalize n % 2 ^ 23 = t
  rw [show ((e : Int) - 150 + -24 - (((e - 1 : Nat) : Int) - 150)).toNat = 0 by omega, show ((((e - 1 : Nat) : Int) - 150) - ((e : Int) - 150 + -24)).toNat = 23 by omega]
  omega
theorem bt_na {n : Nat} (h : n < 255 * 2 ^ 23) : FP.Core.val32 (UInt32.ofNat n) ≠ .nan := by
  rw [val_n h]
  split <;> exact FP.Core.Datum.noConfusion
theorem bt_ge1 {n : Nat} (h : n < 255 * 2 ^ 23) {op : CmpOp} : 0 ≤ Op.cmpValue (FP.fcmp (UInt32.ofNat n) FP.fconst1) op ↔ 127 * 2 ^ 23 ≤ n := by
  rw [cmp_ge (bt_na h) (by rw [bt_1]; exact FP.Core.Datum.noConfusion), fk_pos (w := UInt32.ofNat n) (by rw [bt_n (by omega)]; omega), bt_n (by omega), show FP.Core.fkey FP.fconst1 = ((127 * 2 ^ 23 : Nat) : Int) by decide +kernel]
  omega
theorem bt_ge2 {n : Nat} (h : n < 255 * 2 ^ 23) {op : CmpOp} : 0 ≤ Op.cmpValue (FP.fcmp (UInt32.ofNat n) FP.fconst2) op ↔ 128 * 2 ^ 23 ≤ n := by
  rw [cmp_ge (bt_na h) (by rw [bt_2]; exact FP.Core.Datum.noConfusion), fk_pos (w := UInt32.ofNat n) (by rw [bt_n (by omega)]; omega), bt_n (by omega), show FP.Core.fkey FP.fconst2 = ((128 * 2 ^ 23 : Nat) : Int) by decide +kernel]
  omega
/-- a whole number times a power of two is a float -/
theorem norm_ex (t : Nat) (ht : t < 2 ^ 24) (r : Int) (h1 : -100 ≤ r) (h2 : r ≤ 50) : ∃ (c : Nat) (q : Int), FP.Core.fits FP.Core.b32 (.fin false c q) ∧ c = t * 2 ^ ((r - q).toNat) ∧ q ≤ r ∧ -149 ≤ q := by
  have m1 : FP.Core.b32.qmin = -149 := by decide
  have m2 : FP.Core.b32.qmax = 104 := by decide
  have m3 : FP.Core.b32.tails = 2 ^ 23 := by decide
  have m4 : FP.Core.b32.p = 24 := rfl
  by_cases q : t = 0
  · subst q
    refine ⟨0, -149, ⟨Nat.two_pow_pos _, ?_, ?_, Or.inl ?_⟩, by simp, by omega, by omega⟩
    · rw [m1]; omega
    · rw [m2]; omega
    · rw [m1]
  · have l1 := Nat.log2_self_le q
    have l2 := Nat.lt_log2_self (n := t)
    have l3 : t.log2 ≤ 23 := by
      have : ¬ 24 ≤ t.log2 := fun z => by
        have := Nat.pow_le_pow_right (n := 2) (by omega) z
        omega
      omega
    have e1 : 2 ^ t.log2 * 2 ^ (23 - t.log2) = 2 ^ 23 := by rw [← Nat.pow_add]; congr 1; omega
    have e2 : 2 ^ (t.log2 + 1) * 2 ^ (23 - t.log2) = 2 ^ 24 := by rw [← Nat.pow_add]; congr 1; omega
    have p0 := Nat.two_pow_pos (23 - t.log2)
    have b1 : 2 ^ 23 ≤ t * 2 ^ (23 - t.log2) := by rw [← e1]; exact Nat.mul_le_mul_right _ l1
    have b2 : t * 2 ^ (23 - t.log2) < 2 ^ 24 := by rw [← e2]; exact Nat.mul_lt_mul_of_pos_right l2 p0
    refine ⟨t * 2 ^ (23 - t.log2), r - ((23 - t.log2 : Nat) : Int), ⟨b2, ?_, ?_, Or.inr ?_⟩, ?_, by omega, by omega⟩
    · rw [m1]; omega
    · rw [m2]; omega
    · rw [m3]; exact b1
    · congr 2
      omega
theorem f2i_n {y : UInt32} {c : Nat} {q : Int} {t : Nat} (hy : FP.Core.val32 y = .fin false c q) (hq : q ≤ 0) (h : c = t * 2 ^ ((0 - q).toNat)) (ht : t < 2 ^ 24) : FP.f2i y = nI t := by
  show FP.Core.toI (FP.Core.val32 y) = nI t
  rw [hy]
  unfold FP.Core.toI FP.Core.toInt FP.Core.truncate FP.Core.signed
  have e : c * 2 ^ q.toNat / 2 ^ (-q).toNat = t := by
    rw [show q.toNat = 0 by omega, Nat.pow_zero, Nat.mul_one, h, show (0 - q).toNat = (-q).toNat by omega]
    exact Nat.mul_div_cancel _ (Nat.two_pow_pos _)
  simp only [e]
  apply Int32.toInt_inj.mp
  rw [nI_toInt (by omega)]
  have e2 : max (-2 ^ 31) (min (2 ^ 31 - 1) (if false = true then -(t : Int) else (t : Int))) = (t : Int) := by
    rw [if_neg (by decide)]
    omega
  rw [e2]
  exact nI_toInt (n := t) (by omega)
/-- the part behind the point -/
theorem bt_frac {t : Nat} (ht : t < 2 ^ 23) : vf_n32 (FP.fsub (UInt32.ofNat (127 * 2 ^ 23 + t)) FP.fconst1) ∧ vf_n32 (FP.fmul (FP.fsub (UInt32.ofNat (127 * 2 ^ 23 + t)) FP.fconst1) 1258291200) ∧ FP.f2i (FP.fmul (FP.fsub (UInt32.ofNat (127 * 2 ^ 23 + t)) FP.fconst1) 1258291200) = nI t := by
  obtain ⟨c, q, f1, f2, f3, f4⟩ := norm_ex t (by omega) (-23) (by omega) (by omega)
  obtain ⟨c', q', g1, g2, g3, g4⟩ := norm_ex t (by omega) 0 (by omega) (by omega)
  have hv := val_n (n := 127 * 2 ^ 23 + t) (by omega)
  rw [if_neg (by omega), show (127 * 2 ^ 23 + t) % 2 ^ 23 = t by omega, show (127 * 2 ^ 23 + t) / 2 ^ 23 = 127 by omega] at hv
  have ez : FP.Core.val32 (FP.Core.fsub (UInt32.ofNat (127 * 2 ^ 23 + t)) FP.fconst1) = .fin false c q := by
    rw [FP.Core.val32_fsub, hv, bt_1]
    have : FP.Core.exactSum (.fin false (2 ^ 23 + t) (((127 : Nat) : Int) - 150)) (FP.Core.negate (.fin false (2 ^ 23) (-23))) = .fin false t (-23) := by
      show FP.Core.Datum.fin (FP.Core.sumSign false true (((2 ^ 23 + t) * 2 ^ 0 : Nat) + -((2 ^ 23 * 2 ^ 0 : Nat) : Int))) ((((2 ^ 23 + t) * 2 ^ 0 : Nat) + -((2 ^ 23 * 2 ^ 0 : Nat) : Int)).natAbs) (-23) = _
      rw [show ((((2 ^ 23 + t) * 2 ^ 0 : Nat) : Int) + -((2 ^ 23 * 2 ^ 0 : Nat) : Int)) = (t : Int) by omega]
      congr 1
      unfold FP.Core.sumSign
      by_cases z : (t : Int) = 0
      · rw [if_pos z]
        rfl
      · rw [if_neg z]
        exact decide_eq_false (by omega)
    rw [this]
    show FP.Core.roundRatio FP.Core.b32 false t 1 (-23) = _
    refine FP.Core.roundRatio_exact FP.Core.good_b32 (by decide) f1 ?_
    rw [f2, show (q - -23).toNat = 0 by omega]
    omega
  have hy : FP.Core.val32 (FP.Core.of32 (.fin false c' q')) = .fin false c' q' := FP.Core.val32_of32 g1
  have em : FP.fmul (FP.fsub (UInt32.ofNat (127 * 2 ^ 23 + t)) FP.fconst1) 1258291200 = FP.Core.of32 (.fin false c' q') := by
    refine mul_pow (x := FP.fsub (UInt32.ofNat (127 * 2 ^ 23 + t)) FP.fconst1) ez bt_k hy ?_
    rw [f2, g2]
    by_cases z : q' ≤ q
    · rw [show (q' - (q + 0)).toNat = 0 by omega, Nat.pow_zero, Nat.mul_one, Nat.mul_one, Nat.mul_assoc, Nat.mul_assoc, ← Nat.pow_add, ← Nat.pow_add]
      congr 2
      omega
    · rw [show (q + 0 - q').toNat = 0 by omega, Nat.pow_zero, Nat.mul_one, Nat.mul_one, Nat.mul_assoc, Nat.mul_assoc, ← Nat.pow_add, ← Nat.pow_add]
      congr 2
      omega
  refine ⟨bt_nn (w := FP.fsub (UInt32.ofNat (127 * 2 ^ 23 + t)) FP.fconst1) (by rw [show FP.fsub (UInt32.ofNat (127 * 2 ^ 23 + t)) FP.fconst1 = FP.Core.fsub (UInt32.ofNat (127 * 2 ^ 23 + t)) FP.fconst1 from rfl, ez]; exact FP.Core.Datum.noConfusion), ?_, ?_⟩
  · rw [em]
    exact bt_nn (by rw [hy]; exact FP.Core.Datum.noConfusion)
  · rw [em]
    exact f2i_n hy (by omega) g2 (by omega)
/-- in units of the least float -/
def bU (n : Nat) : Nat := if n < 2 ^ 23 then n else (2 ^ 23 + n % 2 ^ 23) * 2 ^ (n / 2 ^ 23 - 1)
theorem bU_dbl (n : Nat) : bU (dbl n) = 2 * bU n := by
  unfold bU dbl
  by_cases q : n < 2 ^ 23
  · rw [if_pos q, if_pos q]
    by_cases q2 : 2 * n < 2 ^ 23
    · rw [if_pos q2]
    · rw [if_neg q2, show 2 * n / 2 ^ 23 - 1 = 0 by omega]
      omega
  · rw [if_neg q, if_neg q, if_neg (by omega), show (n + 2 ^ 23) % 2 ^ 23 = n % 2 ^ 23 by omega, show (n + 2 ^ 23) / 2 ^ 23 - 1 = (n / 2 ^ 23 - 1) + 1 by omega, show 2 ^ (n / 2 ^ 23 - 1 + 1) = 2 ^ (n / 2 ^ 23 - 1) * 2 from Nat.pow_succ .., ← Nat.mul_assoc, Nat.mul_comm]
theorem bU_ge {n : Nat} (h : 127 * 2 ^ 23 ≤ n) : 2 ^ 149 ≤ bU n := by
  unfold bU
  rw [if_neg (by omega), show 2 ^ 149 = 2 ^ 23 * 2 ^ 126 from by decide +kernel]
  exact Nat.mul_le_mul (by omega) (Nat.pow_le_pow_right (by omega) (by omega))
theorem bt_sub {n0 n : Nat} (h0 : n0 < 2 ^ 23) (hn : n < 127 * 2 ^ 23) (hU : bU n = n0 * 2 ^ 126) : vf_n32 (FP.fmul (UInt32.ofNat n) 1258291200) ∧ FP.f2i (FP.fmul (UInt32.ofNat n) 1258291200) = nI n0 := by
  obtain ⟨c', q', g1, g2, g3, g4⟩ := norm_ex n0 (by omega) 0 (by omega) (by omega)
  have hy : FP.Core.val32 (FP.Core.of32 (.fin false c' q')) = .fin false c' q' := FP.Core.val32_of32 g1
  have hv : ∃ (c : Nat) (a : Nat), FP.Core.val32 (UInt32.ofNat n) = .fin false c ((a : Int) - 149) ∧ c * 2 ^ a = n0 * 2 ^ 126 := by
    have hv := val_n (n := n) (by omega)
    unfold bU at hU
    by_cases q : n < 2 ^ 23
    · rw [if_pos q] at hv hU
      exact ⟨n, 0, hv, by rw [hU, Nat.pow_zero, Nat.mul_one]⟩
    · rw [if_neg q] at hv hU
      refine ⟨_, n / 2 ^ 23 - 1, ?_, hU⟩
      rw [hv]
      congr 1
      omega
  obtain ⟨c, a, hv, hc⟩ := hv
  have hc2 : c * 2 ^ 23 * 2 ^ a = n0 * 2 ^ 149 := by
    rw [Nat.mul_right_comm, hc, Nat.mul_assoc, ← Nat.pow_add]
  have em : FP.fmul (UInt32.ofNat n) 1258291200 = FP.Core.of32 (.fin false c' q') := by
    refine mul_pow hv bt_k hy ?_
    rw [g2]
    by_cases z : q' ≤ (a : Int) - 149
    · rw [show (q' - ((a : Int) - 149 + 0)).toNat = 0 by omega, Nat.pow_zero, Nat.mul_one, Nat.mul_one]
      apply Nat.eq_of_mul_eq_mul_right (Nat.two_pow_pos 149)
      rw [Nat.mul_assoc, ← Nat.pow_add, show ((a : Int) - 149 + 0 - q').toNat + 149 = a + (0 - q').toNat by omega, Nat.pow_add, ← Nat.mul_assoc, hc2, Nat.mul_right_comm]
    · rw [show ((a : Int) - 149 + 0 - q').toNat = 0 by omega, Nat.pow_zero, Nat.mul_one, Nat.mul_one]
      apply Nat.eq_of_mul_eq_mul_right (Nat.two_pow_pos a)
      rw [hc2, Nat.mul_assoc, Nat.mul_assoc, ← Nat.pow_add, ← Nat.pow_add]
      congr 2
      omega
  rw [em]
  exact ⟨bt_nn (by rw [hy]; exact FP.Core.Datum.noConfusion), f2i_n hy (by omega) g2 (by omega)⟩
/-! the loops -/
theorem bt_loop1 (sg : Int32) : ∀ (d m k n E : Nat), n / 2 ^ 23 = 127 + d → n < 255 * 2 ^ 23 → k + d ≤ 127 → d < m → f_X6_bitsOf_b55 sg m (UInt32.ofNat n) (nI E) (nI k) = f_X6_bitsOf_b83 sg (UInt32.ofNat (n - d * 2 ^ 23)) (nI (E + d))
  | d, 0, _, _, _, _, _, _, q => absurd q (by omega)
  | 0, m + 1, k, n, E, hn, h, hk, _ => by
    rw [f_X6_bitsOf_b55, Nat.zero_mul, Nat.sub_zero, Nat.add_zero]
    by_cases z : 127 ≤ k
    · rw [show (127 : Int32) = nI 127 from rfl, dq_if_pos (nI_le z (by omega))]
    · rw [show (127 : Int32) = nI 127 from rfl, dq_if_neg (nI_ge (by omega) (by omega)), dq_if_pos (Int32.not_le.mp (mt (bt_ge2 h).mp (by omega)))]
  | d + 1, m + 1, k, n, E, hn, h, hk, hm => by
    rw [f_X6_bitsOf_b55, show (127 : Int32) = nI 127 from rfl, dq_if_neg (nI_ge (by omega) (by omega)), dq_if_neg (Int32.not_lt.mpr ((bt_ge2 h).mpr (by omega))), hlf_ok h (by omega), dq_gd_pos (bt_nn (bt_na (by omega)))]
    simp only [dq_let]
    rw [show nI E + (1 : Int32) = nI (E + 1) from nI_1 E, show nI k + (1 : Int32) = nI (k + 1) from nI_1 k, bt_loop1 sg d m (k + 1) (n - 2 ^ 23) (E + 1) (by omega) (by omega) (by omega) (by omega)]
    rw [show n - 2 ^ 23 - d * 2 ^ 23 = n - (d + 1) * 2 ^ 23 by omega, show E + 1 + d = E + (d + 1) by omega]
theorem bt_loop2 (sg : Int32) : ∀ (d m k n E : Nat), n / 2 ^ 23 + d = 127 → 2 ^ 23 ≤ n → k + d ≤ 126 → d < m → f_X6_bitsOf_b86 sg m (UInt32.ofNat n) (nI (E + d)) (nI k) = f_X6_bitsOf_b112 sg (UInt32.ofNat (n + d * 2 ^ 23)) (nI E)
  | d, 0, _, _, _, _, _, _, q => absurd q (by omega)
  | 0, m + 1, k, n, E, hn, h, hk, _ => by
    rw [f_X6_bitsOf_b86, Nat.zero_mul, Nat.add_zero, Nat.add_zero]
    by_cases z : 126 ≤ k
    · rw [show (126 : Int32) = nI 126 from rfl, dq_if_pos (nI_le z (by omega))]
    · rw [show (126 : Int32) = nI 126 from rfl, dq_if_neg (nI_ge (by omega) (by omega)), dq_if_pos ((bt_ge1 (by omega)).mpr (by omega))]
  | d + 1, m + 1, k, n, E, hn, h, hk, hm => by
    rw [f_X6_bitsOf_b86, show (126 : Int32) = nI 126 from rfl, dq_if_neg (nI_ge (by omega) (by omega)), dq_if_neg (mt (bt_ge1 (by omega)).mp (by omega)), dbl_ok (by omega), show dbl n = n + 2 ^ 23 from if_neg (by omega), dq_gd_pos (bt_nn (bt_na (by omega)))]
    simp only [dq_let]
    rw [show nI (E + (d + 1)) + (-1 : Int32) = nI (E + d) from nI_dn _, show nI k + (1 : Int32) = nI (k + 1) from nI_1 k, bt_loop2 sg d m (k + 1) (n + 2 ^ 23) E (by omega) (by omega) (by omega) (by omega)]
    rw [show n + 2 ^ 23 + d * 2 ^ 23 = n + (d + 1) * 2 ^ 23 by omega]
theorem bt_loop3 (sg : Int32) {n0 : Nat} (h0 : n0 < 2 ^ 23) : ∀ (d m k n : Nat) (x : Int32), k + d = 126 → d < m → n < 127 * 2 ^ 23 → bU n = n0 * 2 ^ k → ∃ (n' : Nat) (x' : Int32), f_X6_bitsOf_b86 sg m (UInt32.ofNat n) x (nI k) = f_X6_bitsOf_b112 sg (UInt32.ofNat n') x' ∧ n' < 127 * 2 ^ 23 ∧ bU n' = n0 * 2 ^ 126
  | d, 0, _, _, _, _, q, _, _ => absurd q (by omega)
  | 0, m + 1, k, n, x, hk, _, hn, hU => by
    have : k = 126 := by omega
    subst this
    refine ⟨n, x, ?_, hn, hU⟩
    rw [f_X6_bitsOf_b86, show (126 : Int32) = nI 126 from rfl, dq_if_pos (nI_le (Nat.le_refl _) (by omega))]
  | d + 1, m + 1, k, n, x, hk, hm, hn, hU => by
    have hU2 : bU (dbl n) = n0 * 2 ^ (k + 1) := by rw [bU_dbl, hU, Nat.pow_succ, ← Nat.mul_assoc n0, Nat.mul_comm 2]
    have hd : dbl n < 127 * 2 ^ 23 := by
      apply Nat.lt_of_not_le
      intro z
      have z1 := bU_ge z
      rw [hU2] at z1
      have z2 : n0 * 2 ^ (k + 1) < 2 ^ 23 * 2 ^ 126 := by
        refine Nat.lt_of_lt_of_le (Nat.mul_lt_mul_of_pos_right h0 (Nat.two_pow_pos _)) (Nat.mul_le_mul_left _ (Nat.pow_le_pow_right (by omega) (by omega)))
      rw [show 2 ^ 149 = 2 ^ 23 * 2 ^ 126 from by decide +kernel] at z1
      exact absurd (Nat.lt_of_le_of_lt z1 z2) (Nat.lt_irrefl _)
    obtain ⟨n', x', f, g1, g2⟩ := bt_loop3 sg h0 d m (k + 1) (dbl n) (x + (-1 : Int32)) (by omega) (by omega) hd hU2
    refine ⟨n', x', ?_, g1, g2⟩
    rw [f_X6_bitsOf_b86, show (126 : Int32) = nI 126 from rfl, dq_if_neg (nI_ge (by omega) (by omega)), dq_if_neg (mt (bt_ge1 (by omega)).mp (by omega)), dbl_ok (by omega), dq_gd_pos (bt_nn (bt_na (by omega)))]
    simp only [dq_let]
    rw [show nI k + (1 : Int32) = nI (k + 1) from nI_1 k]
    exact f
theorem nI_or {a b : Nat} (ha : a < 2 ^ 32) (hb : b < 2 ^ 32) : nI a ||| nI b = nI (a ||| b) := by
  apply Int32.toBitVec_inj.mp
  rw [Int32.toBitVec_or]
  show BitVec.ofNat 32 a ||| BitVec.ofNat 32 b = BitVec.ofNat 32 (a ||| b)
  apply BitVec.eq_of_toNat_eq
  rw [BitVec.toNat_or, BitVec.toNat_ofNat, BitVec.toNat_ofNat, BitVec.toNat_ofNat, Nat.mod_eq_of_lt ha, Nat.mod_eq_of_lt hb, Nat.mod_eq_of_lt (Nat.or_lt_two_pow ha hb)]
theorem bt_shl : ∀ E : Fin 255, nI E.val <<< ((23 : Int32) &&& 31) = nI (2 ^ 23 * E.val) := by decide +kernel
theorem bt_all {S E t : Nat} (hS : S = 0 ∨ S = 1) (hE : E < 255) (ht : t < 2 ^ 23) : (nI (2 ^ 31 * S) ||| (nI E <<< ((23 : Int32) &&& 31))) ||| nI t = nI (2 ^ 31 * S + (2 ^ 23 * E + t)) := by
  rw [bt_shl ⟨E, hE⟩]
  simp only
  rw [nI_or (by omega) (by omega), ← Nat.two_pow_add_eq_or_of_lt (i := 31) (by omega), show 2 ^ 31 * S + 2 ^ 23 * E = 2 ^ 23 * (2 ^ 8 * S + E) by omega, nI_or (by omega) (by omega), ← Nat.two_pow_add_eq_or_of_lt (i := 23) ht]
  congr 1
  omega
theorem bt_all0 {S t : Nat} (hS : S = 0 ∨ S = 1) (ht : t < 2 ^ 23) : nI (2 ^ 31 * S) ||| nI t = nI (2 ^ 31 * S + t) := by
  rw [nI_or (by omega) (by omega), ← Nat.two_pow_add_eq_or_of_lt (i := 31) (by omega)]
theorem bt_pos {S n : Nat} (hS : S = 0 ∨ S = 1) (h0 : 0 < n) (h : n < 255 * 2 ^ 23) : f_X6_bitsOf_b48 (nI (2 ^ 31 * S)) (UInt32.ofNat n) = some (nI (2 ^ 31 * S + n)) := by
  unfold f_X6_bitsOf_b48
  by_cases q : 127 * 2 ^ 23 ≤ n
  · have l1 := bt_loop1 (nI (2 ^ 31 * S)) (n / 2 ^ 23 - 127) 4096 0 n 127 (by omega) h (by omega) (by omega)
    rw [show (0 : Int32) = nI 0 from nI_0.symm, show (127 : Int32) = nI 127 from rfl, l1]
    unfold f_X6_bitsOf_b83
    have l2 := bt_loop2 (nI (2 ^ 31 * S)) 0 4096 0 (n - (n / 2 ^ 23 - 127) * 2 ^ 23) (127 + (n / 2 ^ 23 - 127)) (by omega) (by omega) (by omega) (by omega)
    rw [Nat.add_zero, Nat.zero_mul, Nat.add_zero] at l2
    rw [show (0 : Int32) = nI 0 from nI_0.symm, l2]
    unfold f_X6_bitsOf_b112
    obtain ⟨f1, f2, f3⟩ := bt_frac (t := n % 2 ^ 23) (by omega)
    rw [show n - (n / 2 ^ 23 - 127) * 2 ^ 23 = 127 * 2 ^ 23 + n % 2 ^ 23 by omega, dq_if_pos ((bt_ge1 (by omega)).mpr (by omega)), dq_gd_pos f1]
    simp only [dq_let]
    rw [dq_gd_pos f2, f3, bt_all hS (by omega) (by omega)]
    congr 2
    omega
  · have l1 : f_X6_bitsOf_b55 (nI (2 ^ 31 * S)) 4096 (UInt32.ofNat n) (127 : Int32) (0 : Int32) = f_X6_bitsOf_b83 (nI (2 ^ 31 * S)) (UInt32.ofNat n) (127 : Int32) := by
      rw [f_X6_bitsOf_b55, dq_if_neg (by decide), dq_if_pos (Int32.not_le.mp (mt (bt_ge2 h).mp (by omega)))]
    rw [l1]
    unfold f_X6_bitsOf_b83
    by_cases z : 2 ^ 23 ≤ n
    · have l2 := bt_loop2 (nI (2 ^ 31 * S)) (127 - n / 2 ^ 23) 4096 0 n (n / 2 ^ 23) (by omega) z (by omega) (by omega)
      rw [show n / 2 ^ 23 + (127 - n / 2 ^ 23) = 127 by omega] at l2
      rw [show (0 : Int32) = nI 0 from nI_0.symm, show (127 : Int32) = nI 127 from rfl, l2]
      unfold f_X6_bitsOf_b112
      obtain ⟨f1, f2, f3⟩ := bt_frac (t := n % 2 ^ 23) (by omega)
      rw [show n + (127 - n / 2 ^ 23) * 2 ^ 23 = 127 * 2 ^ 23 + n % 2 ^ 23 by omega, dq_if_pos ((bt_ge1 (by omega)).mpr (by omega)), dq_gd_pos f1]
      simp only [dq_let]
      rw [dq_gd_pos f2, f3, bt_all hS (by omega) (by omega)]
      congr 2
      omega
    · obtain ⟨n', x', l2, g1, g2⟩ := bt_loop3 (nI (2 ^ 31 * S)) (n0 := n) (by omega) 126 4096 0 n 127 (by omega) (by omega) (by omega) (by unfold bU; rw [if_pos (by omega), Nat.pow_zero, Nat.mul_one])
      rw [show (0 : Int32) = nI 0 from nI_0.symm, l2]
      unfold f_X6_bitsOf_b112
      obtain ⟨f1, f2⟩ := bt_sub (n0 := n) (by omega) g1 g2
      rw [dq_if_neg (mt (bt_ge1 (by omega)).mp (by omega)), dq_gd_pos f1]
      simp only [dq_let]
      rw [f2, bt_all0 hS (by omega)]
theorem xor31 {m : Nat} (h : m < 2 ^ 31) : (2 ^ 31 + m) ^^^ 2 ^ 31 = m := by
  have e := Nat.two_pow_add_eq_or_of_lt (i := 31) h 1
  rw [Nat.mul_one] at e
  rw [e]
  apply Nat.eq_of_testBit_eq
  intro j
  rw [Nat.testBit_xor, Nat.testBit_or, Nat.testBit_two_pow]
  by_cases q : 31 = j
  · subst q
    rw [Nat.testBit_lt_two_pow h]
    simp
  · simp [q]
theorem bits_ok {w : UInt32} (h : w.toNat % 2 ^ 31 < 255 * 2 ^ 23) : f_X6_bitsOf w = some w.toInt32 := by
  have hl := w.toNat_lt
  have n0 : FP.Core.val32 FP.fconst0 ≠ .nan := by decide +kernel
  have k0 : FP.Core.fkey FP.fconst0 = 0 := by decide +kernel
  have hn : FP.Core.val32 w ≠ .nan := (FP.Core.ne_nan32 _).mpr (by omega)
  have hw : w = UInt32.ofNat w.toNat := by simp
  have hi : w.toInt32 = nI w.toNat := by
    apply Int32.toBitVec_inj.mp
    show w.toBitVec = BitVec.ofNat 32 w.toNat
    apply BitVec.eq_of_toNat_eq
    rw [BitVec.toNat_ofNat, Nat.mod_eq_of_lt hl]
    rfl
  by_cases z : w.toNat % 2 ^ 31 = 0
  · by_cases y : w.toNat = 0
    · rw [hw, y]
      unfold f_X6_bitsOf
      rw [dq_if_pos (by decide +kernel), dq_gd_pos (by unfold vf_n32; decide +kernel)]
      simp only [dq_let]
      rw [dq_if_pos (by decide +kernel)]
      rfl
    · rw [hw, show w.toNat = 2 ^ 31 by omega]
      unfold f_X6_bitsOf
      rw [dq_if_pos (by decide +kernel), dq_gd_pos (by unfold vf_n32; decide +kernel)]
      simp only [dq_let]
      rw [dq_if_neg (by decide +kernel)]
      rfl
  · rw [hi]
    unfold f_X6_bitsOf
    by_cases y : w.toNat < 2 ^ 31
    · have kp := fk_pos y
      have c1 : 0 ≤ Op.cmpValue (FP.fcmp w FP.fconst0) .g := (cmp_ge hn n0 _).mpr (by rw [k0, kp]; omega)
      have c2 : ¬ Op.cmpValue (FP.fcmp w FP.fconst0) .l = 0 := fun q => by
        have := (cmp_le hn n0 .l).mp (by rw [q]; decide)
        rw [k0, kp] at this
        omega
      rw [dq_if_neg c2, dq_if_pos c1]
      unfold f_X6_bitsOf_b35
      rw [dq_if_pos c1]
      have := bt_pos (S := 0) (n := w.toNat) (Or.inl rfl) (by omega) (by omega)
      rw [← hw, Nat.mul_zero, nI_0, Nat.zero_add] at this
      exact this
    · have kn := fk_neg (w := w) (by omega)
      have c1 : ¬ 0 ≤ Op.cmpValue (FP.fcmp w FP.fconst0) .g := mt (cmp_ge hn n0 _).mp (by rw [k0, kn]; omega)
      have c2 : ¬ Op.cmpValue (FP.fcmp w FP.fconst0) .l = 0 := fun q => by
        have := (cmp_ge hn n0 .l).mp (by rw [q]; decide)
        rw [k0, kn] at this
        omega
      rw [dq_if_neg c2, dq_if_neg c1]
      unfold f_X6_bitsOf_b35
      rw [dq_if_neg c1]
      have e : FP.fneg w = UInt32.ofNat (w.toNat - 2 ^ 31) := by
        apply UInt32.toNat_inj.mp
        rw [bt_n (by omega)]
        show (w ^^^ 2147483648).toNat = _
        rw [UInt32.toNat_xor]
        show w.toNat ^^^ 2 ^ 31 = _
        have e1 := xor31 (m := w.toNat - 2 ^ 31) (by omega)
        rw [show 2 ^ 31 + (w.toNat - 2 ^ 31) = w.toNat by omega] at e1
        exact e1
      rw [e]
      have := bt_pos (S := 1) (n := w.toNat - 2 ^ 31) (Or.inr rfl) (by omega) (by omega)
      rw [show 2 ^ 31 * 1 + (w.toNat - 2 ^ 31) = w.toNat by omega] at this
      exact this
theorem r_bits {w : UInt32} (h : FP.Core.val32 w ≠ .nan) : f_Jxf58ca_floatToIntBits_5c35a w = some w.toInt32 := by
  have e : f_Jxf58ca_isNaN_12338 w = some 0 := by
    unfold f_Jxf58ca_isNaN_12338
    exact dq_if_pos (Int32.le_antisymm ((cmp_le h h .l).mpr (Int.le_refl _)) ((cmp_ge h h .l).mpr (Int.le_refl _)))
  unfold f_Jxf58ca_floatToIntBits_5c35a
  rw [dq_bd_s e, dq_if_pos rfl]
