/-! houses told in letters: the text -/
theorem dq_if_some {α : Type} {c : Prop} [Decidable c] {a b : α} : dq_if c (some a) (some b) = some (if c then a else b) := by
  by_cases h : c
  · rw [dq_if_pos h, if_pos h]
  · rw [dq_if_neg h, if_neg h]
def stp (x : Int32) : Int32 := if x = 97 then 2 else if x = 98 then -1 else if x = 99 then 6 else if x = 100 then -1 else if x = 101 then -1 else if x = 102 then -1 else if x = 103 then 4 else if x = 104 then -1 else if x = 105 then -1 else if x = 106 then -1 else if x = 107 then -1 else if x = 108 then 5 else if x = 109 then 1 else if x = 110 then -1 else if x = 111 then -1 else if x = 112 then -1 else if x = 113 then -1 else if x = 114 then -1 else if x = 115 then 3 else if x = 116 then 0 else -1
theorem r_stp (x : Int32) : f_X7_stepBySign x = some (stp x) := by
  unfold f_X7_stepBySign
  simp only [dq_if_some]
  rfl
theorem stp_3 (x : Int32) : stp x < 0 ∨ ∃ st, st < 7 ∧ stp x = nI st := by
  by_cases h97 : x = 97
  · subst h97
    exact Or.inr ⟨2, by omega, by decide⟩
  by_cases h98 : x = 98
  · subst h98
    exact Or.inl (by decide)
  by_cases h99 : x = 99
  · subst h99
    exact Or.inr ⟨6, by omega, by decide⟩
  by_cases h100 : x = 100
  · subst h100
    exact Or.inl (by decide)
  by_cases h101 : x = 101
  · subst h101
    exact Or.inl (by decide)
  by_cases h102 : x = 102
  · subst h102
    exact Or.inl (by decide)
  by_cases h103 : x = 103
  · subst h103
    exact Or.inr ⟨4, by omega, by decide⟩
  by_cases h104 : x = 104
  · subst h104
    exact Or.inl (by decide)
  by_cases h105 : x = 105
  · subst h105
    exact Or.inl (by decide)
  by_cases h106 : x = 106
  · subst h106
    exact Or.inl (by decide)
  by_cases h107 : x = 107
  · subst h107
    exact Or.inl (by decide)
  by_cases h108 : x = 108
  · subst h108
    exact Or.inr ⟨5, by omega, by decide⟩
  by_cases h109 : x = 109
  · subst h109
    exact Or.inr ⟨1, by omega, by decide⟩
  by_cases h110 : x = 110
  · subst h110
    exact Or.inl (by decide)
  by_cases h111 : x = 111
  · subst h111
    exact Or.inl (by decide)
  by_cases h112 : x = 112
  · subst h112
    exact Or.inl (by decide)
  by_cases h113 : x = 113
  · subst h113
    exact Or.inl (by decide)
  by_cases h114 : x = 114
  · subst h114
    exact Or.inl (by decide)
  by_cases h115 : x = 115
  · subst h115
    exact Or.inr ⟨3, by omega, by decide⟩
  by_cases h116 : x = 116
  · subst h116
    exact Or.inr ⟨0, by omega, by decide⟩
  left
  unfold stp
  rw [if_neg h97, if_neg h98, if_neg h99, if_neg h100, if_neg h101, if_neg h102, if_neg h103, if_neg h104, if_neg h105, if_neg h106, if_neg h107, if_neg h108, if_neg h109, if_neg h110, if_neg h111, if_neg h112, if_neg h113, if_neg h114, if_neg h115, if_neg h116]
  decide
def isL (x : Int32) : Bool := decide (x = 97 ∨ x = 112 ∨ x = 100 ∨ x = 119 ∨ x = 108 ∨ x = 116)
theorem r_isL (x : Int32) : f_X7_isLetter x = some (nB (isL x)) := by
  unfold f_X7_isLetter
  simp only [dq_if_some]
  congr 1
  unfold isL
  by_cases h1 : x = 97
  · subst h1; decide
  by_cases h2 : x = 112
  · subst h2; decide
  by_cases h3 : x = 100
  · subst h3; decide
  by_cases h4 : x = 119
  · subst h4; decide
  by_cases h5 : x = 108
  · subst h5; decide
  by_cases h6 : x = 116
  · subst h6; decide
  rw [if_neg h1, if_neg h2, if_neg h3, if_neg h4, if_neg h5, if_neg h6, decide_eq_false (by simp [h1, h2, h3, h4, h5, h6])]
  rfl
def isD (x : Int32) : Bool := decide (¬ x < 48 ∧ x ≤ 57)
def dv (x : Int32) : Nat := (x.toInt - 48).toNat
theorem isD_v {x : Int32} (h : isD x = true) : x = nI (dv x + 48) ∧ dv x ≤ 9 := by
  obtain ⟨h1, h2⟩ := of_decide_eq_true h
  have q1 := mt Int32.lt_iff_toInt_lt.mpr h1
  have q2 := Int32.le_iff_toInt_le.mp h2
  rw [show (48 : Int32).toInt = 48 from rfl] at q1
  rw [show (57 : Int32).toInt = 57 from rfl] at q2
  unfold dv
  refine ⟨?_, by omega⟩
  apply Int32.toInt_inj.mp
  rw [nI_toInt (by omega)]
  omega
section TX
variable (lt : Nat → Int32)
def dg : Nat → Nat → Nat × Bool
  | 0, p => (p, false)
  | d + 1, p => if isD (lt p) = true then dg d (p + 1) else (p, true)
def nm : Nat → Nat → Nat → Nat
  | 0, _, v => v
  | d + 1, p, v => nm d (p + 1) (10 * v + dv (lt p))
def dgB (d : Nat) (r : Nat × Bool) : Nat × Bool := if r.2 = true then r else dg lt d r.1
def stB : Nat → Nat → Nat × Bool
  | 0, q => (q, false)
  | f + 1, q => if stp (lt q) < 0 then (q, false) else if stp (lt q) = 6 then stB f (q + 1) else if (dg lt 2 (q + 1)).2 = true then dg lt 2 (q + 1) else stB f (dg lt 2 (q + 1)).1
def bodyE (c : Int32) (q : Nat) : Nat × Bool := if c = 97 then dg lt 5 q else if c = 100 then dg lt 2 q else if c = 108 then stB lt 96 q else if c = 112 then dg lt 3 q else if c = 116 then dg lt 2 q else dg lt 4 q
def semi (r : Nat × Bool) : Nat × Bool := if r.2 = true then r else if lt r.1 = 59 then (r.1 + 1, false) else (r.1, true)
def stE (p : Nat) : Nat × Bool := if isL (lt p) = true then semi lt (bodyE lt (lt p) (p + 1)) else (p, true)
def pl : Nat → Nat
  | 0 => 0
  | k + 1 => (stE lt (pl k)).1
end TX
theorem dg_le {lt : Nat → Int32} : ∀ (d p : Nat), p ≤ (dg lt d p).1 ∧ (dg lt d p).1 ≤ p + d ∧ ((dg lt d p).2 = false → (dg lt d p).1 = p + d ∧ ∀ i, i < d → isD (lt (p + i)) = true)
  | 0, p => ⟨Nat.le_refl p, Nat.le_refl p, fun _ => ⟨rfl, fun i hi => absurd hi (by omega)⟩⟩
  | d + 1, p => by
    unfold dg
    by_cases z : isD (lt p) = true
    · rw [if_pos z]
      obtain ⟨h1, h2, h3⟩ := dg_le (lt := lt) d (p + 1)
      refine ⟨by omega, by omega, fun h => ⟨by have := (h3 h).1; omega, fun i hi => ?_⟩⟩
      cases i with
      | zero => exact z
      | succ i =>
        have := (h3 h).2 i (by omega)
        rw [show p + (i + 1) = p + 1 + i by omega]
        exact this
    · rw [if_neg z]
      exact ⟨Nat.le_refl p, by show p ≤ _; omega, fun h => by cases h⟩
theorem dgB_f {lt : Nat → Int32} {d p : Nat} : dgB lt d (p, false) = dg lt d p := rfl
theorem dgB_t {lt : Nat → Int32} {d p : Nat} : dgB lt d (p, true) = (p, true) := rfl
theorem dgB_add {lt : Nat → Int32} (b : Nat) : ∀ (a : Nat) (r : Nat × Bool), dgB lt b (dgB lt a r) = dgB lt (a + b) r
  | a, (p, true) => by rw [dgB_t, dgB_t, dgB_t]
  | 0, (p, false) => by rw [Nat.zero_add]; rfl
  | a + 1, (p, false) => by
    rw [show a + 1 + b = (a + b) + 1 by omega, dgB_f, dgB_f]
    unfold dg
    by_cases z : isD (lt p) = true
    · rw [if_pos z, if_pos z]
      have := dgB_add (lt := lt) b a (p + 1, false)
      rw [dgB_f, dgB_f] at this
      exact this
    · rw [if_neg z, if_neg z]
      rfl
theorem dgB_0 {lt : Nat → Int32} {r : Nat × Bool} : dgB lt 0 r = r := by
  obtain ⟨p, b⟩ := r
  cases b <;> rfl
theorem nm_le {lt : Nat → Int32} : ∀ (d p v : Nat), (∀ i, i < d → isD (lt (p + i)) = true) → nm lt d p v < (v + 1) * 10 ^ d
  | 0, p, v, _ => by show v < (v + 1) * 1; omega
  | d + 1, p, v, h => by
    have h0 := (isD_v (h 0 (by omega))).2
    have := nm_le (lt := lt) d (p + 1) (10 * v + dv (lt p)) (fun i hi => by have := h (i + 1) (by omega); rw [show p + 1 + i = p + (i + 1) by omega]; exact this)
    show nm lt d (p + 1) (10 * v + dv (lt p)) < _
    rw [Nat.add_zero] at h0
    have e : (v + 1) * 10 ^ (d + 1) = (10 * (v + 1)) * 10 ^ d := by rw [Nat.pow_succ, Nat.mul_comm (10 ^ d) 10, ← Nat.mul_assoc, Nat.mul_comm (v + 1) 10]
    rw [e]
    exact Nat.lt_of_lt_of_le this (Nat.mul_le_mul_right _ (by omega))
theorem stB_le {lt : Nat → Int32} : ∀ (f q : Nat), q ≤ (stB lt f q).1
  | 0, q => Nat.le_refl q
  | f + 1, q => by
    have h1 := (dg_le (lt := lt) 2 (q + 1)).1
    unfold stB
    by_cases z : stp (lt q) < 0
    · rw [if_pos z]
      exact Nat.le_refl q
    · rw [if_neg z]
      by_cases y : stp (lt q) = 6
      · rw [if_pos y]
        have := stB_le (lt := lt) f (q + 1)
        omega
      · rw [if_neg y]
        by_cases x : (dg lt 2 (q + 1)).2 = true
        · rw [if_pos x]
          omega
        · rw [if_neg x]
          have := stB_le (lt := lt) f (dg lt 2 (q + 1)).1
          omega
theorem body_le {lt : Nat → Int32} (c : Int32) (q : Nat) : q ≤ (bodyE lt c q).1 := by
  unfold bodyE
  repeat' split
  all_goals first
    | exact (dg_le _ _).1
    | exact stB_le _ _
theorem semi_le {lt : Nat → Int32} (r : Nat × Bool) : r.1 ≤ (semi lt r).1 ∧ ((semi lt r).2 = false → r.2 = false ∧ lt r.1 = 59 ∧ (semi lt r).1 = r.1 + 1) := by
  unfold semi
  by_cases z : r.2 = true
  · rw [if_pos z]
    exact ⟨Nat.le_refl _, fun h => by rw [z] at h; cases h⟩
  · rw [if_neg z]
    by_cases y : lt r.1 = 59
    · rw [if_pos y]
      exact ⟨Nat.le_succ _, fun _ => ⟨by simpa using z, y, rfl⟩⟩
    · rw [if_neg y]
      exact ⟨Nat.le_refl _, fun h => by cases h⟩
theorem stE_le {lt : Nat → Int32} (p : Nat) : p ≤ (stE lt p).1 ∧ ((stE lt p).2 = false → p + 2 ≤ (stE lt p).1 ∧ isL (lt p) = true ∧ (bodyE lt (lt p) (p + 1)).2 = false ∧ lt (bodyE lt (lt p) (p + 1)).1 = 59 ∧ (stE lt p).1 = (bodyE lt (lt p) (p + 1)).1 + 1) := by
  unfold stE
  by_cases z : isL (lt p) = true
  · rw [if_pos z]
    have h1 := body_le (lt := lt) (lt p) (p + 1)
    obtain ⟨h2, h3⟩ := semi_le (lt := lt) (bodyE lt (lt p) (p + 1))
    refine ⟨by omega, fun h => ?_⟩
    obtain ⟨h4, h5, h6⟩ := h3 h
    exact ⟨by omega, z, h4, h5, h6⟩
  · rw [if_neg z]
    exact ⟨Nat.le_refl p, fun h => by cases h⟩
/-- a text: its letters, and where it ends -/
def cod (r : Nat × Bool) : Int32 := if r.2 = true then (-1 : Int32) - nI r.1 else nI r.1
theorem neg_lt {n : Nat} (h : n < 2 ^ 20) : (-1 : Int32) - nI n < 0 := by
  rw [Int32.lt_iff_toInt_lt, show (-1 : Int32) = nI 0 - nI 1 by decide]
  have e : (nI 0 - nI 1 - nI n) = nI 0 - nI (n + 1) := by
    rw [Int32.sub_sub, nI_add, Nat.add_comm]
  rw [e, pk_sub_toInt (by omega) (by omega)]
  show ((0 : Nat) : Int) - ((n + 1 : Nat) : Int) < 0
  omega
theorem cod_t {r : Nat × Bool} (h : r.2 = true) : cod r = (-1 : Int32) - nI r.1 := if_pos h
theorem cod_f {r : Nat × Bool} (h : r.2 = false) : cod r = nI r.1 := if_neg (by rw [h]; decide)
theorem lt_in {lt : Nat → Int32} {L : Nat} {ℓ : Nat → Int32} (hL : L ≤ 96) (hlt : ∀ p, lt p = if p < L then ℓ p else -1) {p : Nat} (h : lt p ≠ -1) : p < L := by
  rw [hlt] at h
  by_cases z : p < L
  · exact z
  · rw [if_neg z] at h
    exact absurd rfl h
theorem lt_D {lt : Nat → Int32} {L : Nat} {ℓ : Nat → Int32} (hL : L ≤ 96) (hlt : ∀ p, lt p = if p < L then ℓ p else -1) {p : Nat} (h : isD (lt p) = true) : p < L := lt_in hL hlt (fun z => by rw [z] at h; revert h; decide)
theorem lt_S {lt : Nat → Int32} {L : Nat} {ℓ : Nat → Int32} (hL : L ≤ 96) (hlt : ∀ p, lt p = if p < L then ℓ p else -1) {p : Nat} (h : ¬ stp (lt p) < 0) : p < L := lt_in hL hlt (fun z => by rw [z] at h; revert h; decide)
theorem lt_L {lt : Nat → Int32} {L : Nat} {ℓ : Nat → Int32} (hL : L ≤ 96) (hlt : ∀ p, lt p = if p < L then ℓ p else -1) {p : Nat} (h : isL (lt p) = true) : p < L := lt_in hL hlt (fun z => by rw [z] at h; revert h; decide)
theorem c_let {lt : Nat → Int32} {L : Nat} {ℓ : Nat → Int32} (hL : L ≤ 96) (hlt : ∀ p, lt p = if p < L then ℓ p else -1) {p : Nat} (hp : p < 2 ^ 20) : f_X5_letterAt (nI L) ℓ (nI p) = some (lt p) := by
  unfold f_X5_letterAt
  rw [dq_if_neg (nI_pos (by omega)), hlt]
  by_cases z : p < L
  · rw [dq_if_neg (nI_ge z (by omega)), dq_gd_pos (vp_in_nI (by omega) (by omega)), nI_clamp (by omega), if_pos z]
  · rw [dq_if_pos (nI_le (by omega) (by omega)), if_neg z]
theorem c_dgl {lt : Nat → Int32} {L : Nat} {ℓ : Nat → Int32} (hL : L ≤ 96) (hlt : ∀ p, lt p = if p < L then ℓ p else -1) {q d : Nat} (hq : q + d < 2 ^ 12) : ∀ (e k m : Nat), k + e = d → e < m → f_X5_digitsEnd_b2 (nI q) (nI d) (nI L) ℓ m (nI k) = some (cod (dg lt e (q + k)))
  | e, k, 0, _, z => absurd z (by omega)
  | 0, k, m + 1, hk, _ => by
    rw [f_X5_digitsEnd_b2, dq_if_pos (nI_le (by omega) (by omega)), nI_add, show q + d = q + k by omega]
    rfl
  | e + 1, k, m + 1, hk, hm => by
    rw [f_X5_digitsEnd_b2, dq_if_neg (nI_ge (by omega) (by omega)), nI_add, dq_bd_s (c_let hL hlt (by omega))]
    unfold dg
    by_cases z : isD (lt (q + k)) = true
    · obtain ⟨h1, h2⟩ := of_decide_eq_true z
      rw [dq_if_neg h1, dq_if_pos h2, if_pos z]
      simp only [dq_let]
      rw [nI_1 k]
      exact c_dgl hL hlt hq e (k + 1) m (by omega) (by omega)
    · have f : f_X5_faultAt (nI (q + k)) = some ((-1 : Int32) - nI (q + k)) := rfl
      rw [if_neg z, dq_bd_s f]
      have e2 : cod (q + k, true) = (-1 : Int32) - nI (q + k) := rfl
      rw [e2]
      by_cases h1 : lt (q + k) < 48
      · rw [dq_if_pos h1]
      · rw [dq_if_neg h1, dq_if_neg (fun h2 => z (decide_eq_true ⟨h1, h2⟩))]
theorem c_dg {lt : Nat → Int32} {L : Nat} {ℓ : Nat → Int32} (hL : L ≤ 96) (hlt : ∀ p, lt p = if p < L then ℓ p else -1) {q d : Nat} (hq : q + d < 2 ^ 12) : f_X5_digitsEnd (nI L) ℓ (nI q) (nI d) = some (cod (dg lt d q)) := by
  unfold f_X5_digitsEnd
  have := c_dgl hL hlt (q := q) (d := d) hq d 0 4096 (by omega) (by omega)
  rw [nI_0] at this
  exact this
theorem c_nml {lt : Nat → Int32} {L : Nat} {ℓ : Nat → Int32} (hL : L ≤ 96) (hlt : ∀ p, lt p = if p < L then ℓ p else -1) {q d : Nat} (hq : q + d < 2 ^ 12) : ∀ (e k m v : Nat), k + e = d → e < m → (∀ i, i < e → isD (lt (q + k + i)) = true) → f_X5_number_b5 (nI q) (nI d) (nI L) ℓ m (nI v) (nI k) = some (nI (nm lt e (q + k) v))
  | e, k, 0, _, _, z, _ => absurd z (by omega)
  | 0, k, m + 1, v, hk, _, _ => by
    rw [f_X5_number_b5, dq_if_pos (nI_le (by omega) (by omega))]
    rfl
  | e + 1, k, m + 1, v, hk, hm, h => by
    obtain ⟨h1, h2⟩ := isD_v (h 0 (by omega))
    rw [Nat.add_zero] at h1
    rw [f_X5_number_b5, dq_if_neg (nI_ge (by omega) (by omega)), nI_add, dq_bd_s (c_let hL hlt (by omega))]
    simp only [dq_let]
    have e1 : (10 : Int32) * nI v + lt (q + k) - 48 = nI (10 * v + dv (lt (q + k))) := by
      have e2 : (10 : Int32) * nI v = nI (10 * v) := pk_mul 10 v
      have e3 : (48 : Int32) = nI 48 := rfl
      have e4 : (10 : Int32) * nI v + lt (q + k) = nI (10 * v + (dv (lt (q + k)) + 48)) := by
        rw [e2]
        conv => lhs; rw [h1]
        exact nI_add _ _
      rw [e4, e3, pk_sub (by omega)]
      congr 1
    rw [e1, nI_1 k]
    exact c_nml hL hlt hq e (k + 1) m _ (by omega) (by omega) (fun i hi => by have := h (i + 1) (by omega); rw [show q + (k + 1) + i = q + k + (i + 1) by omega]; exact this)
theorem c_nm {lt : Nat → Int32} {L : Nat} {ℓ : Nat → Int32} (hL : L ≤ 96) (hlt : ∀ p, lt p = if p < L then ℓ p else -1) {q d : Nat} (hq : q + d < 2 ^ 12) (h : ∀ i, i < d → isD (lt (q + i)) = true) : f_X5_number (nI L) ℓ (nI q) (nI d) = some (nI (nm lt d q 0)) := by
  unfold f_X5_number
  have := c_nml hL hlt (q := q) (d := d) hq d 0 4096 0 (by omega) (by omega) h
  rw [nI_0] at this
  exact this
theorem c_stp {lt : Nat → Int32} {L : Nat} {ℓ : Nat → Int32} (hL : L ≤ 96) (hlt : ∀ p, lt p = if p < L then ℓ p else -1) {q : Nat} (hq : q < 2 ^ 19) : f_X5_stepAt (nI L) ℓ (nI q) = some (stp (lt q)) := by
  unfold f_X5_stepAt
  rw [dq_bd_s (c_let hL hlt (by omega))]
  simp only [dq_if_some]
  rfl
theorem c_stepEnd {lt : Nat → Int32} {L : Nat} {ℓ : Nat → Int32} (hL : L ≤ 96) (hlt : ∀ p, lt p = if p < L then ℓ p else -1) {q : Nat} (hq : q < 2 ^ 11) : f_X5_stepEnd (nI L) ℓ (nI q) = some (if stp (lt q) = 6 then nI (q + 1) else cod (dg lt 2 (q + 1))) := by
  unfold f_X5_stepEnd
  rw [dq_bd_s (c_stp hL hlt (by omega)), nI_1 q, dq_bd_s (show f_X5_digitsEnd (nI L) ℓ (nI (q + 1)) 2 = _ from c_dg hL hlt (d := 2) (by omega)), dq_if_some]
theorem c_stBl {lt : Nat → Int32} {L : Nat} {ℓ : Nat → Int32} (hL : L ≤ 96) (hlt : ∀ p, lt p = if p < L then ℓ p else -1) : ∀ (f q k m : Nat), k + f = 96 → q ≤ 100 + 3 * k → f < m → f_X5_stepsEnd_b4 (nI L) ℓ m (nI q) (nI k) = some (cod (stB lt f q))
  | f, q, k, 0, _, _, z => absurd z (by omega)
  | 0, q, k, m + 1, hk, _, _ => by
    rw [f_X5_stepsEnd_b4, dq_if_pos (show (96 : Int32) ≤ nI k from nI_le (a := 96) (by omega) (by omega))]
    rfl
  | f + 1, q, k, m + 1, hk, hq, hm => by
    obtain ⟨g1, g2, g3⟩ := dg_le (lt := lt) 2 (q + 1)
    rw [f_X5_stepsEnd_b4, dq_if_neg (show ¬ (96 : Int32) ≤ nI k from nI_ge (b := 96) (by omega) (by omega)), dq_bd_s (c_stp hL hlt (by omega))]
    unfold stB
    by_cases z : stp (lt q) < 0
    · rw [dq_if_pos z, if_pos z]
      rfl
    · rw [dq_if_neg z, if_neg z, dq_bd_s (c_stepEnd hL hlt (by omega))]
      by_cases y : stp (lt q) = 6
      · rw [if_pos y, if_pos y, dq_if_pos (nI_pos' (by omega))]
        simp only [dq_let]
        rw [nI_1 k]
        exact c_stBl hL hlt f (q + 1) (k + 1) m (by omega) (by omega) (by omega)
      · rw [if_neg y, if_neg y]
        by_cases x : (dg lt 2 (q + 1)).2 = true
        · rw [if_pos x, cod_t x, dq_if_neg (Int32.not_le.mpr (neg_lt (by omega)))]
        · have x' : (dg lt 2 (q + 1)).2 = false := by simpa using x
          rw [if_neg x, cod_f x', dq_if_pos (nI_pos' (by omega))]
          simp only [dq_let]
          rw [nI_1 k]
          exact c_stBl hL hlt f _ (k + 1) m (by omega) (by omega) (by omega)
theorem c_stB {lt : Nat → Int32} {L : Nat} {ℓ : Nat → Int32} (hL : L ≤ 96) (hlt : ∀ p, lt p = if p < L then ℓ p else -1) {q : Nat} (hq : q ≤ 100) : f_X5_stepsEnd (nI L) ℓ (nI q) = some (cod (stB lt 96 q)) := by
  unfold f_X5_stepsEnd
  have := c_stBl hL hlt 96 q 0 4096 (by omega) (by omega) (by omega)
  rw [nI_0] at this
  exact this
theorem body_up {lt : Nat → Int32} {L : Nat} {ℓ : Nat → Int32} (hL : L ≤ 96) (hlt : ∀ p, lt p = if p < L then ℓ p else -1) (c : Int32) {q : Nat} (hq : q ≤ 100) : (bodyE lt c q).1 < 2 ^ 12 := by
  have sb : ∀ (f q : Nat), (stB lt f q).1 ≤ q + 3 * f := by
    intro f
    induction f with
    | zero => intro q; exact Nat.le_refl q
    | succ f ih =>
      intro q
      obtain ⟨g1, g2, g3⟩ := dg_le (lt := lt) 2 (q + 1)
      have i1 := ih (q + 1)
      have i2 := ih (dg lt 2 (q + 1)).1
      unfold stB
      split
      · omega
      · split
        · omega
        · split
          · omega
          · omega
  have h0 := sb 96 q
  have h2 := (dg_le (lt := lt) 2 q).2.1
  have h3 := (dg_le (lt := lt) 3 q).2.1
  have h4 := (dg_le (lt := lt) 4 q).2.1
  have h5 := (dg_le (lt := lt) 5 q).2.1
  unfold bodyE
  repeat' split
  all_goals omega
theorem c_140 {lt : Nat → Int32} {L : Nat} {ℓ : Nat → Int32} (hL : L ≤ 96) (hlt : ∀ p, lt p = if p < L then ℓ p else -1) {r : Nat × Bool} (hr : r.1 < 2 ^ 12) : f_X5_statementEnd_b140 (nI L) ℓ (cod r) = some (cod (semi lt r)) := by
  unfold f_X5_statementEnd_b140 semi
  by_cases z : r.2 = true
  · rw [if_pos z, cod_t z, dq_if_pos (neg_lt (by omega))]
  · have z' : r.2 = false := by simpa using z
    rw [if_neg z, cod_f z', dq_if_neg (nI_pos (by omega)), dq_bd_s (c_let hL hlt (by omega))]
    by_cases y : lt r.1 = 59
    · rw [dq_if_pos y, if_pos y]
      simp only [dq_let]
      rw [nI_1]
      rfl
    · have f : f_X5_faultAt (nI r.1) = some ((-1 : Int32) - nI r.1) := rfl
      rw [dq_if_neg y, if_neg y, dq_bd_s f]
      rfl
theorem c_stE {lt : Nat → Int32} {L : Nat} {ℓ : Nat → Int32} (hL : L ≤ 96) (hlt : ∀ p, lt p = if p < L then ℓ p else -1) {p : Nat} (hp : p ≤ 99) : f_X5_statementEnd (nI L) ℓ (nI p) = some (cod (stE lt p)) := by
  have hu := body_up hL hlt (lt p) (q := p + 1) (by omega)
  have K : isL (lt p) = true → ∀ x, x = cod (bodyE lt (lt p) (p + 1)) → f_X5_statementEnd_b140 (nI L) ℓ x = some (cod (stE lt p)) := by
    intro h x hx
    rw [hx, c_140 hL hlt hu]
    unfold stE
    rw [if_pos h]
  unfold f_X5_statementEnd
  rw [dq_bd_s (c_let hL hlt (by omega)), nI_1 p]
  have d5 : f_X5_digitsEnd (nI L) ℓ (nI (p + 1)) 5 = some (cod (dg lt 5 (p + 1))) := c_dg hL hlt (d := 5) (by omega)
  have d2 : f_X5_digitsEnd (nI L) ℓ (nI (p + 1)) 2 = some (cod (dg lt 2 (p + 1))) := c_dg hL hlt (d := 2) (by omega)
  have d3 : f_X5_digitsEnd (nI L) ℓ (nI (p + 1)) 3 = some (cod (dg lt 3 (p + 1))) := c_dg hL hlt (d := 3) (by omega)
  have d4 : f_X5_digitsEnd (nI L) ℓ (nI (p + 1)) 4 = some (cod (dg lt 4 (p + 1))) := c_dg hL hlt (d := 4) (by omega)
  by_cases h1 : lt p = 97
  · rw [dq_if_pos h1, dq_bd_s d5]
    exact K (by rw [h1]; decide) _ (by rw [h1]; rfl)
  rw [dq_if_neg h1]
  by_cases h2 : lt p = 100
  · rw [dq_if_pos h2, dq_bd_s d2]
    exact K (by rw [h2]; decide) _ (by rw [h2]; rfl)
  rw [dq_if_neg h2]
  by_cases h3 : lt p = 108
  · rw [dq_if_pos h3, dq_bd_s (c_stB hL hlt (by omega))]
    exact K (by rw [h3]; decide) _ (by rw [h3]; rfl)
  rw [dq_if_neg h3]
  by_cases h4 : lt p = 112
  · rw [dq_if_pos h4, dq_bd_s d3]
    exact K (by rw [h4]; decide) _ (by rw [h4]; rfl)
  rw [dq_if_neg h4]
  by_cases h5 : lt p = 116
  · rw [dq_if_pos h5, dq_bd_s d2]
    exact K (by rw [h5]; decide) _ (by rw [h5]; rfl)
  rw [dq_if_neg h5]
  by_cases h6 : lt p = 119
  · rw [dq_if_pos h6, dq_bd_s d4]
    exact K (by rw [h6]; decide) _ (by rw [h6]; rfl)
  have f : f_X5_faultAt (nI p) = some ((-1 : Int32) - nI p) := rfl
  rw [dq_if_neg h6, dq_bd_s f]
  unfold f_X5_statementEnd_b140 stE
  rw [dq_if_pos (neg_lt (by omega)), if_neg (by unfold isL; rw [decide_eq_false (by simp [h1, h2, h3, h4, h5, h6])]; decide)]
  rfl
/-! all statements -/
def prs (lt : Nat → Int32) (L : Nat) : Nat → Nat → Nat → Nat × Bool
  | 0, k, _ => (k, false)
  | d + 1, k, p => if p < L ∨ k = 0 then (if (stE lt p).2 = true then stE lt p else prs lt L d (k + 1) (stE lt p).1) else (k, false)
theorem stE_in {lt : Nat → Int32} {L : Nat} {ℓ : Nat → Int32} (hL : L ≤ 96) (hlt : ∀ p, lt p = if p < L then ℓ p else -1) {p : Nat} (h : (stE lt p).2 = false) : (stE lt p).1 ≤ L := by
  obtain ⟨-, h2⟩ := stE_le (lt := lt) p
  obtain ⟨-, -, -, h3, h4⟩ := h2 h
  have := lt_in hL hlt (p := (bodyE lt (lt p) (p + 1)).1) (by rw [h3]; decide)
  omega
theorem c_stl {lt : Nat → Int32} {L : Nat} {ℓ : Nat → Int32} (hL : L ≤ 96) (hlt : ∀ p, lt p = if p < L then ℓ p else -1) (h0 : 0 < L) : ∀ (d k p m : Nat), 2 * k ≤ p → p ≤ L → (L - p) / 2 + 1 ≤ d → (p = 0 ↔ k = 0) → d < m → f_X5_statements_b16 (nI L) ℓ m (nI p) (nI k) = some (cod (prs lt L d k p))
  | d, k, p, 0, _, _, _, _, z => absurd z (by omega)
  | 0, k, p, m + 1, _, _, z, _, _ => absurd z (by omega)
  | d + 1, k, p, m + 1, hk, hp, hd, hz, hm => by
    rw [f_X5_statements_b16, dq_if_neg (show ¬ (96 : Int32) ≤ nI k from nI_ge (b := 96) (by omega) (by omega))]
    unfold prs
    by_cases z : p < L
    · rw [dq_if_pos (nI_lt z (by omega)), if_pos (Or.inl z), dq_bd_s (c_stE hL hlt (by omega))]
      obtain ⟨g1, g2⟩ := stE_le (lt := lt) p
      by_cases y : (stE lt p).2 = true
      · have hu := body_up hL hlt (lt p) (q := p + 1) (by omega)
        have ub : (stE lt p).1 < 2 ^ 13 := by
          unfold stE
          split
          · unfold semi
            split
            · omega
            · split
              · show _ + 1 < _
                omega
              · show _ < _
                omega
          · show p < _
            omega
        rw [if_pos y, cod_t y, dq_if_neg (Int32.not_le.mpr (neg_lt (by omega)))]
      · have y' : (stE lt p).2 = false := by simpa using y
        have i1 := stE_in hL hlt y'
        have i2 := (g2 y').1
        rw [if_neg y, cod_f y', dq_if_pos (nI_pos' (by omega))]
        simp only [dq_let]
        rw [nI_1 k]
        exact c_stl hL hlt h0 d (k + 1) _ m (by omega) i1 (by omega) (by omega) (by omega)
    · rw [dq_if_neg (nI_nlt (by omega) (by omega)), if_neg (by omega)]
      rfl
theorem c_statements {lt : Nat → Int32} {L : Nat} {ℓ : Nat → Int32} (hL : L ≤ 96) (hlt : ∀ p, lt p = if p < L then ℓ p else -1) : f_X5_statements (nI L) ℓ = some (cod (prs lt L 49 0 0)) := by
  unfold f_X5_statements
  by_cases z : L = 0
  · have f : f_X5_faultAt 0 = some ((-1 : Int32) - 0) := rfl
    rw [z, dq_if_pos nI_0, dq_bd_s f]
    have e : stE lt 0 = (0, true) := by
      have h : lt 0 = -1 := by
        rw [hlt 0, z]
        exact if_neg (Nat.lt_irrefl 0)
      unfold stE
      rw [h]
      exact if_neg (by decide)
    unfold prs
    rw [if_pos (Or.inr rfl), e]
    rfl
  · rw [dq_if_neg (nI_ne0 (by omega) (by omega))]
    have := c_stl hL hlt (by omega) 49 0 0 4096 (by omega) (by omega) (by omega) (by omega) (by omega)
    rw [nI_0] at this
    exact this
