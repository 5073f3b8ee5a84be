/-! floats that are held: from -100 to 100 -/
def fH (w : UInt32) : Prop := w.toNat % 2 ^ 31 ≤ 1120403456
theorem fH.b {w : UInt32} (h : fH w) : fB 134 w := by
  unfold fH at h
  unfold fB
  omega
theorem fB.nan {K : Nat} {w : UInt32} (h : fB K w) (hK : K ≤ 255) : FP.Core.val32 w ≠ .nan := by
  rw [FP.Core.ne_nan32]
  unfold fB at h
  omega
theorem fk_pos {w : UInt32} (h : w.toNat < 2 ^ 31) : FP.Core.fkey w = (w.toNat : Int) := by
  unfold FP.Core.fkey
  rw [if_neg (by omega)]
theorem fk_neg {w : UInt32} (h : 2 ^ 31 ≤ w.toNat) : FP.Core.fkey w = ((2 ^ 31 : Nat) : Int) - (w.toNat : Int) := by
  unfold FP.Core.fkey
  rw [if_pos h]
theorem fk_100 : FP.Core.fkey 1120403456 = 1120403456 := by decide +kernel
theorem fk_m100 : FP.Core.fkey 3267887104 = -1120403456 := by decide +kernel
theorem fn_100 : FP.Core.val32 1120403456 ≠ .nan := by rw [FP.Core.ne_nan32]; decide
theorem fn_m100 : FP.Core.val32 3267887104 ≠ .nan := by rw [FP.Core.ne_nan32]; decide
/-- what a compare pushes, by the keys -/
theorem cmp_le {a b : UInt32} (ha : FP.Core.val32 a ≠ .nan) (hb : FP.Core.val32 b ≠ .nan) (op : CmpOp) : Op.cmpValue (FP.fcmp a b) op ≤ 0 ↔ FP.Core.fkey a ≤ FP.Core.fkey b := by
  rw [show FP.fcmp a b = FP.Core.fcmp a b from rfl, FP.Core.fcmp_key ha hb]
  rcases Int.lt_trichotomy (FP.Core.fkey a) (FP.Core.fkey b) with h | h | h
  · rw [(FP.Core.compare_lt_iff _ _).mpr h]
    constructor
    · intro _; omega
    · intro _; cases op <;> decide
  · rw [(FP.Core.compare_eq_iff _ _).mpr h]
    constructor
    · intro _; omega
    · intro _; cases op <;> decide
  · rw [(FP.Core.compare_gt_iff _ _).mpr h]
    constructor
    · intro q; cases op <;> exact absurd q (by decide)
    · intro q; omega
theorem cmp_ge {a b : UInt32} (ha : FP.Core.val32 a ≠ .nan) (hb : FP.Core.val32 b ≠ .nan) (op : CmpOp) : 0 ≤ Op.cmpValue (FP.fcmp a b) op ↔ FP.Core.fkey b ≤ FP.Core.fkey a := by
  rw [show FP.fcmp a b = FP.Core.fcmp a b from rfl, FP.Core.fcmp_key ha hb]
  rcases Int.lt_trichotomy (FP.Core.fkey a) (FP.Core.fkey b) with h | h | h
  · rw [(FP.Core.compare_lt_iff _ _).mpr h]
    constructor
    · intro q; cases op <;> exact absurd q (by decide)
    · intro q; omega
  · rw [(FP.Core.compare_eq_iff _ _).mpr h]
    constructor
    · intro _; omega
    · intro _; cases op <;> decide
  · rw [(FP.Core.compare_gt_iff _ _).mpr h]
    constructor
    · intro _; omega
    · intro _; cases op <;> decide
theorem fH_key {w : UInt32} : fH w ↔ -1120403456 ≤ FP.Core.fkey w ∧ FP.Core.fkey w ≤ 1120403456 := by
  have hl := w.toNat_lt
  unfold fH
  by_cases h : w.toNat < 2 ^ 31
  · rw [fk_pos h]
    omega
  · rw [fk_neg (by omega)]
    omega
theorem heldF_id {w : UInt32} (h : fH w) : heldF w = w := by
  have hn := h.b.nan (by omega)
  have hk := fH_key.mp h
  unfold heldF
  rw [if_pos ((cmp_le hn fn_100 _).mpr (by rw [fk_100]; omega)), if_pos ((cmp_ge hn fn_m100 _).mpr (by rw [fk_m100]; omega))]
theorem heldF_H {w : UInt32} (hn : FP.Core.val32 w ≠ .nan) : fH (heldF w) := by
  unfold heldF
  by_cases h : Op.cmpValue (FP.fcmp w 1120403456) .l ≤ 0
  · rw [if_pos h]
    have h1 := (cmp_le hn fn_100 _).mp h
    rw [fk_100] at h1
    by_cases h2 : 0 ≤ Op.cmpValue (FP.fcmp w 3267887104) .g
    · rw [if_pos h2]
      have h3 := (cmp_ge hn fn_m100 _).mp h2
      rw [fk_m100] at h3
      exact fH_key.mpr ⟨h3, h1⟩
    · rw [if_neg h2]
      unfold fH
      decide
  · rw [if_neg h]
    unfold fH
    decide
theorem warmF_H {hc : Nat} {hs hn : Nat → Nat} {w : UInt32} (hw : fB 160 w) (hc6 : hc ≤ 6) (hr : ∀ i, i < hc → hs i < 7 ∧ hn i ≤ 99) : fH (warmF hc hs hn w) := heldF_H ((wlF_b hw hc6 hr).nan (by omega))
/-! what the kinds of airs do to a cell's warm -/
def gustF (w : UInt32) : UInt32 := FP.fsub (FP.fmul w 1061158912) 1056964608
def sighF (fg : Nat) (w : UInt32) : UInt32 := FP.fsub w (FP.fmul (FP.i2f (nI fg)) 1040187392)
def flueF (fg : Nat) (w : UInt32) : UInt32 := FP.fdiv w (FP.i2f (nI (fg + 1)))
def chillF (kd fg tn : Nat) (w : UInt32) : UInt32 := if kd = 1 then gustF w else if kd = 2 then sighF fg w else if kd = 3 then gustF (gustF w) else if kd = 4 then FP.i2f (FP.f2i (sighF fg w)) else if kd = 5 then flueF fg w else if kd = 6 then (if tn % 2 = 0 then gustF (gustF w) else FP.fsub (gustF (gustF w)) FP.fconst1) else if kd = 7 then FP.fadd (FP.fmul w 1056964608) (FP.fmul (flueF fg w) 1056964608) else FP.fmul w 1061158912
theorem c75 : fB 127 (1061158912 : UInt32) := by unfold fB; decide
theorem c50 : fB 127 (1056964608 : UInt32) := by unfold fB; decide
theorem c12 : fB 125 (1040187392 : UInt32) := by unfold fB; decide
theorem gust_b {w : UInt32} {K : Nat} (hw : fB K w) (h1 : 127 ≤ K) (h2 : K ≤ 200) : fB (K + 1) (FP.fmul w 1061158912) ∧ fB (K + 3) (gustF w) := by
  have a1 : fB (K + 1) (FP.fmul w 1061158912) := fB_mul hw c75 (by omega) (by omega) (by omega)
  exact ⟨a1, fB_sub a1 (c50.mono (by omega)) (by omega) (by omega)⟩
theorem gust_ok {w : UInt32} {K : Nat} (hw : fB K w) (h1 : 127 ≤ K) (h2 : K ≤ 200) : f_X0_gust w = some (gustF w) := by
  obtain ⟨a1, a2⟩ := gust_b hw h1 h2
  unfold gustF at a2
  unfold f_X0_gust
  simp only [dq_let]
  rw [dq_gd_pos (a1.n (by omega)), dq_gd_pos (a2.n (by omega))]
  rfl
theorem sigh_b {w : UInt32} {fg : Nat} (hw : fB 134 w) (hf : fg ≤ 9) : fB 135 (FP.fmul (FP.i2f (nI fg)) 1040187392) ∧ fB 140 (sighF fg w) := by
  have a1 : fB 135 (FP.fmul (FP.i2f (nI fg)) 1040187392) := fB_mul (fB_nI (by omega)) c12 (by omega) (by omega) (by omega)
  exact ⟨a1, fB_sub (hw.mono (by omega)) a1 (by omega) (by omega)⟩
theorem sigh_ok {w : UInt32} {fg : Nat} (hw : fB 134 w) (hf : fg ≤ 9) : f_X0_sigh (nI fg) w = some (sighF fg w) := by
  obtain ⟨a1, a2⟩ := sigh_b hw hf
  unfold sighF at a2
  unfold f_X0_sigh
  simp only [dq_let]
  rw [dq_gd_pos (a1.n (by omega)), dq_gd_pos (a2.n (by omega))]
  rfl
theorem i2f_ge1 {n : Nat} (h0 : 0 < n) (h : n ≤ 128) : 127 * 2 ^ 23 ≤ (FP.i2f (nI n)).toNat % 2 ^ 31 := FP.Core.fromInt_ge32 (FP.Core.toNat_i2f (nI n)) (by rw [nI_toInt (by omega)]; omega)
theorem flue_b {w : UInt32} {fg : Nat} (hw : fB 134 w) (hf : fg ≤ 9) : fB 140 (flueF fg w) := fB_div (L := 127) hw (i2f_ge1 (by omega) (by omega)) ((fB_nI (by omega)).mono (by omega)) (by omega) (by omega) (by omega)
theorem flue_ok {w : UInt32} {fg : Nat} (hw : fB 134 w) (hf : fg ≤ 9) : f_X0_flue (nI fg) w = some (flueF fg w) := by
  have a1 := flue_b hw hf
  unfold flueF at a1
  unfold f_X0_flue
  simp only [dq_let]
  rw [show nI fg + (1 : Int32) = nI (fg + 1) from nI_1 fg]
  rw [dq_gd_pos (a1.n (by omega))]
  rfl
theorem par_t {tn : Nat} (h : tn < 2 ^ 30) : (nI tn - nI tn / (2 : Int32) * (2 : Int32)) = nI (tn % 2) := pk_rem (d := 2) (by omega) (by omega) (by omega)
theorem chill_ok {kd fg tn : Nat} {w : UInt32} (hw : fB 134 w) (hk : kd < 8) (hf : fg ≤ 9) (ht : tn < 2 ^ 30) : f_X0_chills (nI kd) (nI fg) (nI tn) w = some (chillF kd fg tn w) ∧ fB 160 (chillF kd fg tn w) := by
  have g1 := gust_b hw (by omega) (by omega)
  have g2 := gust_b g1.2 (by omega) (by omega)
  have e1 := gust_ok hw (by omega) (by omega)
  have e2 := gust_ok g1.2 (by omega) (by omega)
  have s1 := sigh_b hw hf
  have s2 := sigh_ok hw hf
  have l1 := flue_b hw hf
  have l2 := flue_ok hw hf
  rcases (show kd = 0 ∨ kd = 1 ∨ kd = 2 ∨ kd = 3 ∨ kd = 4 ∨ kd = 5 ∨ kd = 6 ∨ kd = 7 by omega) with rfl | rfl | rfl | rfl | rfl | rfl | rfl | rfl
  · refine ⟨?_, g1.1.mono (by omega)⟩
    unfold f_X0_chills
    iterate 7 rw [dq_if_neg (by decide)]
    simp only [dq_let]
    rw [dq_gd_pos (g1.1.n (by omega))]
    rfl
  · refine ⟨?_, g1.2.mono (by omega)⟩
    unfold f_X0_chills
    rw [dq_if_pos (by decide), dq_bd_s e1]
    rfl
  · refine ⟨?_, s1.2.mono (by omega)⟩
    unfold f_X0_chills
    rw [dq_if_neg (by decide), dq_if_pos (by decide), dq_bd_s s2]
    rfl
  · refine ⟨?_, g2.2.mono (by omega)⟩
    unfold f_X0_chills
    iterate 2 rw [dq_if_neg (by decide)]
    rw [dq_if_pos (by decide), dq_bd_s e1, dq_bd_s e2]
    rfl
  · refine ⟨?_, fB_i2f _⟩
    unfold f_X0_chills
    iterate 3 rw [dq_if_neg (by decide)]
    rw [dq_if_pos (by decide), dq_bd_s s2]
    rfl
  · refine ⟨?_, l1.mono (by omega)⟩
    unfold f_X0_chills
    iterate 4 rw [dq_if_neg (by decide)]
    rw [dq_if_pos (by decide), dq_bd_s l2]
    rfl
  · have a3 : fB 145 (FP.fsub (gustF (gustF w)) FP.fconst1) := fB_sub (K := 140) (g2.2.mono (by omega)) (by unfold fB; decide) (by omega) (by omega)
    unfold f_X0_chills
    iterate 5 rw [dq_if_neg (by decide)]
    rw [dq_if_pos (by decide), par_t ht]
    show dq_if _ _ _ = some (if tn % 2 = 0 then gustF (gustF w) else FP.fsub (gustF (gustF w)) FP.fconst1) ∧ fB 160 (if tn % 2 = 0 then gustF (gustF w) else FP.fsub (gustF (gustF w)) FP.fconst1)
    by_cases h : tn % 2 = 0
    · rw [if_pos h, dq_if_pos (by rw [h]; rfl), dq_bd_s e1, dq_bd_s e2]
      exact ⟨rfl, g2.2.mono (by omega)⟩
    · rw [if_neg h, dq_if_neg (nI_ne0 (by omega) (by omega)), dq_bd_s e1, dq_bd_s e2]
      simp only [dq_let]
      rw [dq_gd_pos (a3.n (by omega))]
      exact ⟨rfl, a3.mono (by omega)⟩
  · have b1 : fB 140 (FP.fmul w 1056964608) := fB_mul hw c50 (by omega) (by omega) (by omega)
    have b2 : fB 145 (FP.fmul (flueF fg w) 1056964608) := fB_mul l1 c50 (by omega) (by omega) (by omega)
    have b3 : fB 150 (FP.fadd (FP.fmul w 1056964608) (FP.fmul (flueF fg w) 1056964608)) := fB_add (b1.mono (L := 145) (by omega)) b2 (by omega) (by omega)
    refine ⟨?_, b3.mono (by omega)⟩
    unfold f_X0_chills
    iterate 6 rw [dq_if_neg (by decide)]
    rw [dq_if_pos (by decide)]
    simp only [dq_let]
    rw [dq_gd_pos (b1.n (by omega)), dq_bd_s l2, dq_gd_pos (b2.n (by omega)), dq_gd_pos (b3.n (by omega))]
    rfl
