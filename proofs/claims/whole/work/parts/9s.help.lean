/-! what the calls ask of their numbers -/
def ixB (x : Int32) (n : Nat) : Bool := decide (0 ≤ x.toInt ∧ x.toInt < (n : Int))
theorem ixB_t {x : Int32} {n : Nat} (h : ixB x n = true) : ∃ j, j < n ∧ x = nI j := by
  have h := of_decide_eq_true h
  have hl := x.toInt_lt
  refine ⟨x.toInt.toNat, by omega, ?_⟩
  apply Int32.toInt_inj.mp
  rw [nI_toInt (by omega)]
  omega
theorem ixB_j {j n : Nat} (h : j < n) (hn : n < 2 ^ 31) : ixB (nI j) n = true := decide_eq_true (by rw [nI_toInt (by omega)]; omega)
theorem i0 : (0 : Int32).toInt = 0 := rfl
theorem c_ix (x : Int32) {n : Nat} (hn : n < 2 ^ 31) : dq_if (x < 0) (some (0 : Int32)) (dq_if (nI n ≤ x) (some (0 : Int32)) (some (1 : Int32))) = some (nB (ixB x n)) := by
  by_cases h : x < 0
  · rw [dq_if_pos h, show ixB x n = false from decide_eq_false (fun z => by have := Int32.lt_iff_toInt_lt.mp h; rw [i0] at this; omega)]
    rfl
  · rw [dq_if_neg h]
    have h0 : 0 ≤ x.toInt := by
      have := mt Int32.lt_iff_toInt_lt.mpr h
      rw [i0] at this
      omega
    by_cases q : nI n ≤ x
    · rw [dq_if_pos q, show ixB x n = false from decide_eq_false (fun z => by have := Int32.le_iff_toInt_le.mp q; rw [nI_toInt hn] at this; omega)]
      rfl
    · rw [dq_if_neg q, show ixB x n = true from decide_eq_true ⟨h0, by have := mt Int32.le_iff_toInt_le.mpr q; rw [nI_toInt hn] at this; omega⟩]
      rfl
theorem lgc_3 (x y : Int64) : (lg_cmp x y = 1 ∧ y.toInt < x.toInt) ∨ (lg_cmp x y = 0 ∧ x.toInt = y.toInt) ∨ (lg_cmp x y = -1 ∧ x.toInt < y.toInt) := by
  unfold lg_cmp
  by_cases h : x > y
  · rw [if_pos h]
    exact Or.inl ⟨rfl, Int64.lt_iff_toInt_lt.mp h⟩
  · rw [if_neg h]
    have h1 := mt Int64.lt_iff_toInt_lt.mpr h
    by_cases q : x = y
    · rw [if_pos q]
      subst q
      exact Or.inr (Or.inl ⟨rfl, rfl⟩)
    · rw [if_neg q]
      have h2 : x.toInt ≠ y.toInt := fun z => q (Int64.toInt_inj.mp z)
      exact Or.inr (Or.inr ⟨rfl, by omega⟩)
theorem lgc_lt {x y : Int64} : lg_cmp x y < 0 ↔ x.toInt < y.toInt := by
  rcases lgc_3 x y with ⟨h1, h2⟩ | ⟨h1, h2⟩ | ⟨h1, h2⟩
  · rw [h1]
    exact ⟨fun z => absurd z (by decide), fun z => absurd z (by omega)⟩
  · rw [h1]
    exact ⟨fun z => absurd z (by decide), fun z => absurd z (by omega)⟩
  · rw [h1]
    exact ⟨fun _ => h2, fun _ => by decide⟩
theorem lgc_gt {x y : Int64} : 0 < lg_cmp x y ↔ y.toInt < x.toInt := by
  rcases lgc_3 x y with ⟨h1, h2⟩ | ⟨h1, h2⟩ | ⟨h1, h2⟩
  · rw [h1]
    exact ⟨fun _ => h2, fun _ => by decide⟩
  · rw [h1]
    exact ⟨fun z => absurd z (by decide), fun z => absurd z (by omega)⟩
  · rw [h1]
    exact ⟨fun z => absurd z (by decide), fun z => absurd z (by omega)⟩
/-- between two numbers -/
def inB (x : Int32) (lo hi : Int) : Bool := decide (lo ≤ x.toInt ∧ x.toInt ≤ hi)
theorem r_in (x : Int32) (a b : Int64) : f_X7_in x.toInt64 a b = some (nB (inB x a.toInt b.toInt)) := by
  unfold f_X7_in
  by_cases h : lg_cmp x.toInt64 a < 0
  · have h1 := lgc_lt.mp h
    rw [Int32.toInt_toInt64] at h1
    rw [dq_if_pos h, show inB x a.toInt b.toInt = false from decide_eq_false (by omega)]
    rfl
  · have h1 := mt lgc_lt.mpr h
    rw [Int32.toInt_toInt64] at h1
    rw [dq_if_neg h]
    by_cases q : 0 < lg_cmp x.toInt64 b
    · have h2 := lgc_gt.mp q
      rw [Int32.toInt_toInt64] at h2
      rw [dq_if_pos q, show inB x a.toInt b.toInt = false from decide_eq_false (by omega)]
      rfl
    · have h2 := mt lgc_gt.mpr q
      rw [Int32.toInt_toInt64] at h2
      rw [dq_if_neg q, show inB x a.toInt b.toInt = true from decide_eq_true (by omega)]
      rfl
theorem dqz_nB (b : Bool) : dq_z (nB b) := by cases b <;> unfold dq_z nB <;> decide
theorem r_ix (x : Int32) {n : Nat} (hn : n < 2 ^ 20) : dq_bd (f_X7_in x.toInt64 (0 : Int64) ((nI n - (1 : Int32)).toInt64)) (fun (x1 : Int32) => dq_gd (dq_z x1) (some x1)) = some (nB (ixB x n)) := by
  have e : inB x (0 : Int64).toInt ((nI n - (1 : Int32)).toInt64).toInt = ixB x n := by
    rw [Int32.toInt_toInt64, show (1 : Int32) = nI 1 from rfl, pk_sub_toInt (by omega) (by omega)]
    unfold inB ixB
    congr 1
    show ((0 : Int) ≤ x.toInt ∧ x.toInt ≤ (n : Int) - ((1 : Nat) : Int)) = _
    apply propext
    constructor <;> intro z <;> omega
  rw [dq_bd_s (r_in x _ _), e, dq_gd_pos (dqz_nB _)]
theorem r_ixC (x : Int32) (hi : Int64) {n : Nat} (hh : hi.toInt = (n : Int) - 1) : dq_bd (f_X7_in x.toInt64 (0 : Int64) hi) (fun (x1 : Int32) => dq_gd (dq_z x1) (some x1)) = some (nB (ixB x n)) := by
  have e : inB x (0 : Int64).toInt hi.toInt = ixB x n := by
    rw [hh]
    unfold inB ixB
    congr 1
    show ((0 : Int) ≤ x.toInt ∧ x.toInt ≤ (n : Int) - 1) = _
    apply propext
    constructor <;> intro z <;> omega
  rw [dq_bd_s (r_in x _ _), e, dq_gd_pos (dqz_nB _)]
theorem c_isAir (x : Int32) {n : Nat} (hn : n < 2 ^ 20) : f_X6_isAir (nI n) x = some (nB (ixB x n)) := c_ix x (by omega)
theorem c_isSitter (x : Int32) {n : Nat} (hn : n < 2 ^ 20) : f_X6_isSitter (nI n) x = some (nB (ixB x n)) := c_ix x (by omega)
theorem c_isCell (x : Int32) : f_X6_isCell x = some (nB (ixB x 36)) := c_ix x (n := 36) (by omega)
theorem c_isPeg (x : Int32) : f_X6_isPeg x = some (nB (ixB x 3)) := c_ix x (n := 3) (by omega)
theorem r_isAir (x : Int32) {n : Nat} (hn : n < 2 ^ 20) : f_X7_isAir (nI n) x = some (nB (ixB x n)) := r_ix x hn
theorem r_isSitter (x : Int32) {n : Nat} (hn : n < 2 ^ 20) : f_X7_isSitter (nI n) x = some (nB (ixB x n)) := r_ix x hn
theorem r_isCell (x : Int32) : f_X7_isCell x = some (nB (ixB x 36)) := r_ixC x 35 (n := 36) (by decide)
theorem r_isPeg (x : Int32) : f_X7_isPeg x = some (nB (ixB x 3)) := r_ixC x 2 (n := 3) (by decide)
/-- a number's fault -/
def wrB (x : Int32) (lo hi : Int32) : Int32 := if lo ≤ x then (if x ≤ hi then 0 else -6) else -4
theorem c_refusalOf (x lo hi : Int32) : f_X6_refusalOf x lo hi = some (wrB x lo hi) := by
  unfold f_X6_refusalOf wrB
  by_cases h : lo ≤ x
  · rw [dq_if_pos h, if_pos h]
    by_cases q : x ≤ hi
    · rw [dq_if_pos q, if_pos q]
    · rw [dq_if_neg q, if_neg q]
  · rw [dq_if_neg h, if_neg h]
theorem r_wrong (x lo hi : Int32) : f_X7_wrongNumber x lo hi = some (wrB x lo hi) := c_refusalOf x lo hi
/-! refusals -/
def refU (f : Nat → Int32) (k : Nat) : Nat → Int32 := upd f k (f k + 1)
theorem c_refuse {f : Nat → Int32} (k : Nat) (h1 : 1 ≤ k) (h6 : k ≤ 6) (x : Int32) (hx : x = -nI k) : f_X6_refuse f x = some (x, refU f k) := by
  subst hx
  rcases (show k = 1 ∨ k = 2 ∨ k = 3 ∨ k = 4 ∨ k = 5 ∨ k = 6 by omega) with rfl | rfl | rfl | rfl | rfl | rfl <;>
  · unfold f_X6_refuse
    rw [dq_if_neg (by decide), dq_if_neg (by decide)]
    simp only [dq_let]
    rw [dq_gd_pos (by unfold vp_in; decide), dq_gd_pos (by unfold vp_in; decide)]
    rfl
theorem r_refuse {f : Nat → Int32} (k : Nat) (h1 : 1 ≤ k) (h6 : k ≤ 6) (x : Int32) (hx : x = -nI k) : f_X7_refuse f x = some (x, refU f k) := by
  subst hx
  rcases (show k = 1 ∨ k = 2 ∨ k = 3 ∨ k = 4 ∨ k = 5 ∨ k = 6 by omega) with rfl | rfl | rfl | rfl | rfl | rfl <;>
  · unfold f_X7_refuse
    simp only [dq_let]
    rw [dq_gd_pos (by unfold vp_in; decide), dq_gd_pos (by unfold vp_in; decide)]
    rfl
theorem pRef_u {f g : Nat → Int32} (R : pRef f g) {k : Nat} : pRef (refU f k) (refU g k) := by
  intro i h1 h6
  unfold refU
  by_cases z : i = k
  · subst z
    rw [pk_us, pk_us, R i h1 h6]
  · rw [pk_un z, pk_un z]
    exact R i h1 h6
