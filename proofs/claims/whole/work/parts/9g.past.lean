/-! the houses that are kept -/
def keepP (pc : Nat) (h : AH) (P : Nat → AH) : Nat → AH := if pc = 8 then fun i => if i = 7 then h else P (i + 1) else up P pc h
/-- the class's, in its ring -/
def CPa (P : Nat → AH) (pc pn : Nat) (k0 : Nat → Int64) (k1 k2 k3 k4 k5 k6 : Nat → Int32) (k7 : Nat → Nat → UInt32) (k8 k9 k10 k11 k12 k13 : Nat → Nat → Int32) (k14 : Nat → Int32) (k15 k16 : Nat → Nat → Int32) : Prop := ∀ i z, i < pc → z = (pn + 8 - pc + i) % 8 → HC (P i) (k0 z) (k1 z) (k2 z) (k3 z) (k4 z) (k5 z) (k6 z) (k7 z) (k8 z) (k9 z) (k10 z) (k11 z) (k12 z) (k13 z) (k14 z) (k15 z) (k16 z)
/-- the reference's, one behind the other -/
def RPa (P : Nat → AH) (pc : Nat) (t : Nat → Int32) (w : Nat → UInt32) : Prop := ∀ i, i < pc → HP (P i) (fun j => t (96 * i + j)) (fun c => w (36 * i + c))
theorem vaup_s {α : Type} {f : Nat → α} {k : Nat} {v : α} : va_up f k v k = v := by
  unfold va_up
  exact if_pos rfl
theorem vaup_n {α : Type} {f : Nat → α} {k j : Nat} {v : α} (h : j ≠ k) : va_up f k v j = f j := by
  unfold va_up
  exact if_neg h
section PP
variable {h : AH} {P : Nat → AH} {pc pn : Nat}
theorem c_keep {sb : Int64} {ai cb si ob tn tk hc : Int32} {wm : Nat → UInt32} {ki fi ac wy se sl hs hn : Nat → Int32} {k0 : Nat → Int64} {k1 k2 k3 k4 k5 k6 : Nat → Int32} {k7 : Nat → Nat → UInt32} {k8 k9 k10 k11 k12 k13 : Nat → Nat → Int32} {k14 : Nat → Int32} {k15 k16 : Nat → Nat → Int32} (V : aV h) (E : HC h sb ai cb si ob tn tk wm ki fi ac wy se sl hc hs hn) (hpc : pc ≤ 8) (hpn : pn < 8) (K : CPa P pc pn k0 k1 k2 k3 k4 k5 k6 k7 k8 k9 k10 k11 k12 k13 k14 k15 k16) : ∃ (k0' : Nat → Int64) (k1' k2' k3' k4' k5' k6' : Nat → Int32) (k7' : Nat → Nat → UInt32) (k8' k9' k10' k11' k12' k13' : Nat → Nat → Int32) (k14' : Nat → Int32) (k15' k16' : Nat → Nat → Int32), f_X3_keep (nI pn) (nI pc) sb ai cb si ob tn tk wm ki fi ac wy se sl hc hs hn k0 k1 k2 k3 k4 k5 k6 k7 k8 k9 k10 k11 k12 k13 k14 k15 k16 = some (nI ((pn + 1) % 8), nI (min (pc + 1) 8), k0', k1', k2', k3', k4', k5', k6', k7', k8', k9', k10', k11', k12', k13', k14', k15', k16') ∧ CPa (keepP pc h P) (min (pc + 1) 8) ((pn + 1) % 8) k0' k1' k2' k3' k4' k5' k6' k7' k8' k9' k10' k11' k12' k13' k14' k15' k16' := by
  obtain ⟨wm', ki', fi', ac', wy', se', sl', hs', hn', f, E'⟩ := c_take V E (k7 pn) (k8 pn) (k9 pn) (k10 pn) (k11 pn) (k12 pn) (k13 pn) (k15 pn) (k16 pn)
  unfold f_X3_keep
  rw [dq_gd_pos (vp_in_nI hpn (by omega)), nI_clamp (by omega)]
  simp only [dq_let]
  rw [dq_bd17_s f]
  have e1 : (nI pn + (1 : Int32) - (nI pn + (1 : Int32)) / (8 : Int32) * (8 : Int32)) = nI ((pn + 1) % 8) := by
    rw [show nI pn + (1 : Int32) = nI (pn + 1) from nI_1 pn]
    exact pk_rem (d := 8) (by omega) (by omega) (by omega)
  have e2 : (if (8 : Int32) < nI pc + (1 : Int32) then (8 : Int32) else nI pc + (1 : Int32)) = nI (min (pc + 1) 8) := by
    rw [show nI pc + (1 : Int32) = nI (pc + 1) from nI_1 pc, show (8 : Int32) = nI 8 from rfl]
    by_cases q : 8 < pc + 1
    · rw [if_pos (nI_lt q (by omega)), Nat.min_eq_right (by omega)]
    · rw [if_neg (nI_nlt (by omega) (by omega)), Nat.min_eq_left (by omega)]
  rw [e1, e2]
  refine ⟨_, _, _, _, _, _, _, _, _, _, _, _, _, _, _, _, _, rfl, fun i z hi hz => ?_⟩
  by_cases q : z = pn
  · subst q
    rw [vaup_s, vaup_s, vaup_s, vaup_s, vaup_s, vaup_s, vaup_s, vaup_s, vaup_s, vaup_s, vaup_s, vaup_s, vaup_s, vaup_s, vaup_s, vaup_s, vaup_s]
    have : keepP pc h P i = h := by
      unfold keepP
      by_cases p : pc = 8
      · rw [if_pos p]
        have : i = 7 := by omega
        subst this
        rfl
      · rw [if_neg p]
        have : i = pc := by omega
        subst this
        exact up_s
    rw [this]
    exact E'
  · rw [vaup_n q, vaup_n q, vaup_n q, vaup_n q, vaup_n q, vaup_n q, vaup_n q, vaup_n q, vaup_n q, vaup_n q, vaup_n q, vaup_n q, vaup_n q, vaup_n q, vaup_n q, vaup_n q, vaup_n q]
    unfold keepP
    by_cases p : pc = 8
    · rw [if_pos p]
      rw [if_neg (by omega)]
      exact K (i + 1) z (by omega) (by omega)
    · rw [if_neg p, up_n (by omega)]
      exact K i z (by omega) (by omega)
theorem c_giveBack {wm0 : Nat → UInt32} {ki0 fi0 ac0 wy0 se0 sl0 hs0 hn0 : Nat → Int32} {k0 : Nat → Int64} {k1 k2 k3 k4 k5 k6 : Nat → Int32} {k7 : Nat → Nat → UInt32} {k8 k9 k10 k11 k12 k13 : Nat → Nat → Int32} {k14 : Nat → Int32} {k15 k16 : Nat → Nat → Int32} (V : ∀ i, i < pc → aV (P i)) (hpc : pc ≤ 8) (h0 : 0 < pc) (hpn : pn < 8) (K : CPa P pc pn k0 k1 k2 k3 k4 k5 k6 k7 k8 k9 k10 k11 k12 k13 k14 k15 k16) : ∃ (sb : Int64) (ai cb si ob tn tk hc : Int32) (wm : Nat → UInt32) (ki fi ac wy se sl hs hn : Nat → Int32), f_X3_giveBack (nI pn) (nI pc) wm0 ki0 fi0 ac0 wy0 se0 sl0 hs0 hn0 k0 k1 k2 k3 k4 k5 k6 k7 k8 k9 k10 k11 k12 k13 k14 k15 k16 = some (nI ((pn + 7) % 8), nI (pc - 1), sb, ai, cb, si, ob, tn, tk, wm, ki, fi, ac, wy, se, sl, hc, hs, hn) ∧ HC (P (pc - 1)) sb ai cb si ob tn tk wm ki fi ac wy se sl hc hs hn ∧ CPa P (pc - 1) ((pn + 7) % 8) k0 k1 k2 k3 k4 k5 k6 k7 k8 k9 k10 k11 k12 k13 k14 k15 k16 := by
  obtain ⟨wm', ki', fi', ac', wy', se', sl', hs', hn', f, E'⟩ := c_take (V (pc - 1) (by omega)) (K (pc - 1) ((pn + 7) % 8) (by omega) (by omega)) wm0 ki0 fi0 ac0 wy0 se0 sl0 hs0 hn0
  have e1 : (nI pn + (8 : Int32) - (1 : Int32) - (nI pn + (8 : Int32) - (1 : Int32)) / (8 : Int32) * (8 : Int32)) = nI ((pn + 7) % 8) := by
    rw [show nI pn + (8 : Int32) = nI (pn + 8) from nI_add pn 8, show (1 : Int32) = nI 1 from rfl, pk_sub (by omega), show pn + 8 - 1 = pn + 7 by omega]
    exact pk_rem (d := 8) (by omega) (by omega) (by omega)
  have e2 : nI pc - (1 : Int32) = nI (pc - 1) := by rw [show (1 : Int32) = nI 1 from rfl, pk_sub (by omega)]
  unfold f_X3_giveBack
  simp only [dq_let]
  rw [e1, e2, dq_gd_pos (vp_in_nI (by omega) (by omega)), nI_clamp (by omega), dq_bd17_s f]
  exact ⟨_, _, _, _, _, _, _, _, _, _, _, _, _, _, _, _, _, rfl, E', fun i z hi hz => K i z (by omega) (by omega)⟩
variable {a : Nat → Nat} {ai si hc tn tk tu pl it : Int32} {ke : Value} {wm : Nat → UInt32} {sh ki fi ac wy cr se sl on hs hn : Nat → Int32} {tO : Nat → Int32} {tW : Nat → UInt32}
theorem r_shiftT {t0 : Nat → Int32} {w0 : Nat → UInt32} : ∀ (d k m : Nat) (t : Nat → Int32), 96 ≤ k → k + d = 768 → d < m → (∀ j, j < 768 → t j = if j + 96 < k then t0 (j + 96) else t0 j) → ∃ t' : Nat → Int32, f_X7_keepTurn_b12 a ai si hc tn tk tu wm sh ki fi ac wy cr se sl on hs hn w0 tO tW m (nI k) t = f_X7_keepTurn_b43 a ai si hc tn tk tu wm sh ki fi ac wy cr se sl on hs hn tO tW t' 4096 (36 : Int32) w0 ∧ ∀ j, j + 96 < 768 → t' j = t0 (j + 96)
  | d, k, 0, _, _, _, q, _ => absurd q (by omega)
  | 0, k, m + 1, t, _, hk, _, ht => by
    refine ⟨t, ?_, fun j hj => by rw [ht j (by omega), if_pos (by omega)]⟩
    rw [f_X7_keepTurn_b12, show (768 : Int32) = nI 768 from rfl, dq_if_pos (nI_le (by omega) (by omega))]
  | d + 1, k, m + 1, t, h96, hk, hm, ht => by
    rw [f_X7_keepTurn_b12, show (768 : Int32) = nI 768 from rfl, dq_if_neg (nI_ge (by omega) (by omega)), dq_gd_pos (vp_in_nI (by omega) (by omega)), show (96 : Int32) = nI 96 from rfl, pk_sub (by omega), dq_gd_pos (vp_in_nI (by omega) (by omega)), nI_clamp (by omega), nI_clamp (by omega)]
    simp only [dq_let]
    rw [show nI k + (1 : Int32) = nI (k + 1) from nI_1 k]
    refine r_shiftT d (k + 1) m _ (by omega) (by omega) (by omega) (fun j hj => ?_)
    by_cases q : j = k - 96
    · subst q
      rw [pk_us, ht k (by omega), if_neg (by omega), if_pos (by omega)]
      congr 1
      omega
    · rw [pk_un q, ht j hj]
      by_cases p : j + 96 < k
      · rw [if_pos p, if_pos (by omega)]
      · rw [if_neg p, if_neg (by omega)]
theorem r_shiftW {t : Nat → Int32} {w0 : Nat → UInt32} (hp : tu = nI 8) : ∀ (d k m : Nat) (w : Nat → UInt32), 36 ≤ k → k + d = 288 → d < m → (∀ j, j < 288 → w j = if j + 36 < k then w0 (j + 36) else w0 j) → ∃ w' : Nat → UInt32, f_X7_keepTurn_b43 a ai si hc tn tk tu wm sh ki fi ac wy cr se sl on hs hn tO tW t m (nI k) w = f_X7_keepTurn_b81 a ai si hc tn tk wm sh ki fi ac wy cr se sl on hs hn tO tW (nI 7) t w' ∧ ∀ j, j + 36 < 288 → w' j = w0 (j + 36)
  | d, k, 0, _, _, _, q, _ => absurd q (by omega)
  | 0, k, m + 1, w, _, hk, _, hw => by
    refine ⟨w, ?_, fun j hj => by rw [hw j (by omega), if_pos (by omega)]⟩
    rw [f_X7_keepTurn_b43, show (288 : Int32) = nI 288 from rfl, dq_if_pos (nI_le (by omega) (by omega)), hp]
    rfl
  | d + 1, k, m + 1, w, h36, hk, hm, hw => by
    rw [f_X7_keepTurn_b43, show (288 : Int32) = nI 288 from rfl, dq_if_neg (nI_ge (by omega) (by omega)), dq_gd_pos (vp_in_nI (by omega) (by omega)), show (36 : Int32) = nI 36 from rfl, pk_sub (by omega), dq_gd_pos (vp_in_nI (by omega) (by omega)), nI_clamp (by omega), nI_clamp (by omega)]
    simp only [dq_let]
    rw [show nI k + (1 : Int32) = nI (k + 1) from nI_1 k]
    refine r_shiftW hp d (k + 1) m _ (by omega) (by omega) (by omega) (fun j hj => ?_)
    by_cases q : j = k - 36
    · subst q
      rw [vf_s, hw k (by omega), if_neg (by omega), if_pos (by omega)]
      congr 1
      omega
    · rw [vf_n q, hw j hj]
      by_cases p : j + 36 < k
      · rw [if_pos p, if_pos (by omega)]
      · rw [if_neg p, if_neg (by omega)]
theorem r_copyW {pc : Nat} (hpc : pc < 8) {t : Nat → Int32} {w0 : Nat → UInt32} : ∀ (d k m : Nat) (w : Nat → UInt32), k + d = 36 → d < m → (∀ j, w j = if 36 * pc ≤ j ∧ j < 36 * pc + k then tW (j - 36 * pc) else w0 j) → ∃ w' : Nat → UInt32, f_X7_keepTurn_b130 (nI pc) ai si hc tn tk pl it ke wm sh ki fi ac wy cr se sl on hs hn tO tW t m (nI k) w = some (ai, si, hc, tn, tk, pl, it, ke, nI (pc + 1), wm, sh, ki, fi, ac, wy, cr, se, sl, on, hs, hn, t, w', tO, tW) ∧ ∀ j, w' j = if 36 * pc ≤ j ∧ j < 36 * pc + 36 then tW (j - 36 * pc) else w0 j
  | d, k, 0, _, _, q, _ => absurd q (by omega)
  | 0, k, m + 1, w, hk, _, hw => by
    have : k = 36 := by omega
    subst this
    refine ⟨w, ?_, hw⟩
    rw [f_X7_keepTurn_b130, dq_if_pos (by decide)]
    simp only [dq_let]
    rw [show nI pc + (1 : Int32) = nI (pc + 1) from nI_1 pc]
  | d + 1, k, m + 1, w, hk, hm, hw => by
    have e : (36 : Int32) * nI pc + nI k = nI (36 * pc + k) := by rw [show (36 : Int32) = nI 36 from rfl, pk_mul, nI_add]
    rw [f_X7_keepTurn_b130, e, show (36 : Int32) = nI 36 from rfl, dq_if_neg (nI_ge (by omega) (by omega)), dq_gd_pos (vp_in_nI (by omega) (by omega)), dq_gd_pos (vp_in_nI (by omega) (by omega)), nI_clamp (by omega), nI_clamp (by omega)]
    simp only [dq_let]
    rw [show nI k + (1 : Int32) = nI (k + 1) from nI_1 k]
    refine r_copyW hpc d (k + 1) m _ (by omega) (by omega) (fun j => ?_)
    by_cases q : j = 36 * pc + k
    · subst q
      rw [vf_s, if_pos (by omega)]
      congr 1
      omega
    · rw [vf_n q, hw j]
      by_cases p : 36 * pc ≤ j ∧ j < 36 * pc + k
      · rw [if_pos p, if_pos (by omega)]
      · rw [if_neg p, if_neg (by omega)]
theorem r_copyT {pc : Nat} (hpc : pc < 8) {t0 : Nat → Int32} {w0 : Nat → UInt32} : ∀ (d k m : Nat) (t : Nat → Int32), k + d = 96 → d < m → (∀ j, t j = if 96 * pc ≤ j ∧ j < 96 * pc + k then tO (j - 96 * pc) else t0 j) → ∃ (t' : Nat → Int32) (w' : Nat → UInt32), f_X7_keepTurn_b96 (nI pc) w0 ai si hc tn tk pl it ke wm sh ki fi ac wy cr se sl on hs hn tO tW m (nI k) t = some (ai, si, hc, tn, tk, pl, it, ke, nI (pc + 1), wm, sh, ki, fi, ac, wy, cr, se, sl, on, hs, hn, t', w', tO, tW) ∧ (∀ j, t' j = if 96 * pc ≤ j ∧ j < 96 * pc + 96 then tO (j - 96 * pc) else t0 j) ∧ ∀ j, w' j = if 36 * pc ≤ j ∧ j < 36 * pc + 36 then tW (j - 36 * pc) else w0 j
  | d, k, 0, _, _, q, _ => absurd q (by omega)
  | 0, k, m + 1, t, hk, _, ht => by
    have : k = 96 := by omega
    subst this
    obtain ⟨w', f, g⟩ := r_copyW (ai := ai) (si := si) (hc := hc) (tn := tn) (tk := tk) (pl := pl) (it := it) (ke := ke) (wm := wm) (sh := sh) (ki := ki) (fi := fi) (ac := ac) (wy := wy) (cr := cr) (se := se) (sl := sl) (on := on) (hs := hs) (hn := hn) (tO := tO) (tW := tW) hpc (t := t) (w0 := w0) 36 0 4096 w0 (by omega) (by omega) (fun j => by rw [if_neg (by omega)])
    refine ⟨t, w', ?_, ht, g⟩
    rw [f_X7_keepTurn_b96, dq_if_pos (by decide)]
    exact f
  | d + 1, k, m + 1, t, hk, hm, ht => by
    have e : (96 : Int32) * nI pc + nI k = nI (96 * pc + k) := by rw [show (96 : Int32) = nI 96 from rfl, pk_mul, nI_add]
    rw [f_X7_keepTurn_b96, e, show (96 : Int32) = nI 96 from rfl, dq_if_neg (nI_ge (by omega) (by omega)), dq_gd_pos (vp_in_nI (by omega) (by omega)), dq_gd_pos (vp_in_nI (by omega) (by omega)), nI_clamp (by omega), nI_clamp (by omega)]
    simp only [dq_let]
    rw [show nI k + (1 : Int32) = nI (k + 1) from nI_1 k]
    refine r_copyT hpc d (k + 1) m _ (by omega) (by omega) (fun j => ?_)
    by_cases q : j = 96 * pc + k
    · subst q
      rw [pk_us, if_pos (by omega)]
      congr 1
      omega
    · rw [pk_un q, ht j]
      by_cases p : 96 * pc ≤ j ∧ j < 96 * pc + k
      · rw [if_pos p, if_pos (by omega)]
      · rw [if_neg p, if_neg (by omega)]
end PP
