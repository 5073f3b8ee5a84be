/-! houses told in letters: the text, as the reference reads it -/
def nx (lt : Nat → Int32) (q : Nat) : Nat := if stp (lt q) = 6 then q + 1 else q + 3
def sp (lt : Nat → Int32) (q : Nat) : Nat → Nat
  | 0 => q
  | j + 1 => sp lt (nx lt q) j
def stK (lt : Nat → Int32) : Nat → Nat → Nat
  | 0, _ => 0
  | f + 1, q => if stp (lt q) < 0 then 0 else stK lt f (nx lt q) + 1
def stA (lt : Nat → Int32) (q : Nat) : Nat := if stp (lt q) = 6 then 0 else nm lt 2 (q + 1) 0
def DD (lt : Nat → Int32) (c : Int32) (q i sm : Nat) (num sR sB : Nat → Int32) : Prop :=
  (c = 97 → num i = nI (nm lt 1 q 0) ∧ num (i + 1) = nI (nm lt 1 (q + 1) 0) ∧ num (i + 2) = nI (nm lt 2 (q + 2) 0) ∧ num (i + 3) = nI (nm lt 1 (q + 4) 0)) ∧
  (c = 112 → num i = nI (nm lt 2 q 0) ∧ num (i + 1) = nI (nm lt 1 (q + 2) 0)) ∧
  (c = 119 → num i = nI (nm lt 2 q 0) ∧ num (i + 1) = nI (nm lt 2 (q + 2) 0)) ∧
  (c = 100 ∨ c = 116 → num i = nI (nm lt 2 q 0)) ∧
  (c = 108 → ∃ f, f + stK lt 96 q ≤ sm ∧ num i = nI f ∧ num (i + 1) = nI (stK lt 96 q) ∧ ∀ j, j < stK lt 96 q → sR (f + j) = stp (lt (sp lt q j)) ∧ sB (f + j) = nI (stA lt (sp lt q j)))
theorem DD_mono {lt : Nat → Int32} {c : Int32} {q i sm sm' : Nat} {num sR sB num' sR' sB' : Nat → Int32} (D : DD lt c q i sm num sR sB) (hs : sm ≤ sm') (hn : ∀ j, j < i + 4 → num' j = num j) (ha : ∀ j, j < sm → sR' j = sR j ∧ sB' j = sB j) : DD lt c q i sm' num' sR' sB' := by
  obtain ⟨d1, d2, d3, d4, d5⟩ := D
  refine ⟨fun h => ?_, fun h => ?_, fun h => ?_, fun h => ?_, fun h => ?_⟩
  · obtain ⟨a1, a2, a3, a4⟩ := d1 h
    exact ⟨(hn _ (by omega)).trans a1, (hn _ (by omega)).trans a2, (hn _ (by omega)).trans a3, (hn _ (by omega)).trans a4⟩
  · obtain ⟨a1, a2⟩ := d2 h
    exact ⟨(hn _ (by omega)).trans a1, (hn _ (by omega)).trans a2⟩
  · obtain ⟨a1, a2⟩ := d3 h
    exact ⟨(hn _ (by omega)).trans a1, (hn _ (by omega)).trans a2⟩
  · exact (hn _ (by omega)).trans (d4 h)
  · obtain ⟨f, a1, a2, a3, a4⟩ := d5 h
    exact ⟨f, by omega, (hn _ (by omega)).trans a2, (hn _ (by omega)).trans a3, fun j hj => ⟨(ha _ (by omega)).1.trans (a4 j hj).1, (ha _ (by omega)).2.trans (a4 j hj).2⟩⟩
theorem dgB_g {lt : Nat → Int32} {d : Nat} {r : Nat × Bool} (h : (dgB lt d r).2 = false) : r.2 = false ∧ (dgB lt d r).1 = r.1 + d := by
  obtain ⟨p, b⟩ := r
  cases b with
  | true => cases h
  | false => exact ⟨rfl, ((dg_le (lt := lt) d p).2.2 h).1⟩
theorem isD_in {x : Int32} : inB x (48 : Int64).toInt (57 : Int64).toInt = isD x := by
  unfold inB isD
  rw [show (48 : Int64).toInt = 48 by decide, show (57 : Int64).toInt = 57 by decide]
  congr 1
  rw [Int32.lt_iff_toInt_lt, Int32.le_iff_toInt_le, show (48 : Int32).toInt = 48 from rfl, show (57 : Int32).toInt = 57 from rfl]
  apply propext
  constructor <;> intro h <;> omega
theorem r_here {lt : Nat → Int32} {L : Nat} {ℓ rl : Nat → Int32} (hL : L ≤ 96) (hlt : ∀ p, lt p = if p < L then ℓ p else -1) (hr : ∀ i, i < L → rl i = ℓ i) {p : Nat} (hp : p < 2 ^ 20) : f_X7_here (nI L) (nI p) rl = some (lt p) := by
  unfold f_X7_here
  rw [hlt]
  by_cases z : p < L
  · rw [dq_if_neg (nI_ge z (by omega)), dq_gd_pos (vp_in_nI (by omega) (by omega)), nI_clamp (by omega), if_pos z, hr p z]
  · rw [dq_if_pos (nI_le (by omega) (by omega)), if_neg z]
theorem r_rdt {L p d : Nat} {rl : Nat → Int32} (hd : d < 2 ^ 12) : ∀ (e k m : Nat) (x : Int32), k + e = d → e < m → ∃ x', f_X7_readDigits_b4 (nI d) (nI L) rl m x (nI k) (nI p) 1 = some (x', nI p, 1)
  | e, k, 0, _, _, z => absurd z (by omega)
  | 0, k, m + 1, x, hk, _ => ⟨x, by rw [f_X7_readDigits_b4, dq_if_pos (nI_le (by omega) (by omega))]⟩
  | e + 1, k, m + 1, x, hk, hm => by
    obtain ⟨x', h⟩ := r_rdt (L := L) (p := p) (rl := rl) hd e (k + 1) m 0 (by omega) (by omega)
    refine ⟨x', ?_⟩
    rw [f_X7_readDigits_b4, dq_if_neg (nI_ge (by omega) (by omega)), dq_if_neg (by decide)]
    unfold f_X7_readDigits_b39 f_X7_readDigits_b70
    rw [dq_gd_pos (show dq_z (1 : Int32) by unfold dq_z; decide), dq_if_neg (by decide), dq_if_neg (by decide)]
    simp only [dq_let]
    rw [Int32.add_zero, nI_1 k]
    exact h
theorem r_rdf {lt : Nat → Int32} {L : Nat} {ℓ rl : Nat → Int32} (hL : L ≤ 96) (hlt : ∀ p, lt p = if p < L then ℓ p else -1) (hr : ∀ i, i < L → rl i = ℓ i) {d : Nat} (hd : d < 2 ^ 12) : ∀ (e k p m v : Nat), k + e = d → p < 2 ^ 12 → e < m → ∃ x', f_X7_readDigits_b4 (nI d) (nI L) rl m (nI v) (nI k) (nI p) 0 = some (x', nI (dg lt e p).1, nB (dg lt e p).2) ∧ ((dg lt e p).2 = false → x' = nI (nm lt e p v))
  | e, k, p, 0, _, _, _, z => absurd z (by omega)
  | 0, k, p, m + 1, v, hk, hp, _ => ⟨nI v, by rw [f_X7_readDigits_b4, dq_if_pos (nI_le (by omega) (by omega))]; rfl, fun _ => rfl⟩
  | e + 1, k, p, m + 1, v, hk, hp, hm => by
    have hz : dq_z (1 : Int32) := by unfold dq_z; decide
    have hz0 : dq_z (0 : Int32) := by unfold dq_z; decide
    rw [f_X7_readDigits_b4, dq_if_neg (nI_ge (by omega) (by omega)), dq_if_pos rfl, dq_bd_s (r_here hL hlt hr (by omega)), dq_bd_s (r_in _ _ _), isD_in]
    unfold f_X7_readDigits_b39 f_X7_readDigits_b70 dg
    by_cases z : isD (lt p) = true
    · have pL := lt_D hL hlt z
      obtain ⟨h1, h2⟩ := isD_v z
      obtain ⟨x', g1, g2⟩ := r_rdf hL hlt hr hd e (k + 1) (p + 1) m (10 * v + dv (lt p)) (by omega) (by omega) (by omega)
      rw [if_pos z, nB_1.mpr z, dq_if_neg (by decide), dq_gd_pos hz0, dq_if_pos rfl, dq_gd_pos (vp_in_nI (by omega) (by omega)), dq_if_pos rfl]
      simp only [dq_let]
      have e1 : (10 : Int32) * nI v + rl p - 48 = nI (10 * v + dv (lt p)) := by
        have e2 : (10 : Int32) * nI v = nI (10 * v) := pk_mul 10 v
        have e3 : (48 : Int32) = nI 48 := rfl
        have e5 : rl p = lt p := by rw [hr p pL, hlt p, if_pos pL]
        have e4 : (10 : Int32) * nI v + lt p = nI (10 * v + (dv (lt p) + 48)) := by
          rw [e2]
          conv => lhs; rw [h1]
          exact nI_add _ _
        rw [e5, e4, e3, pk_sub (by omega)]
        congr 1
      rw [nI_clamp (by omega), e1, nI_1 k, nI_1 p]
      exact ⟨x', g1, g2⟩
    · obtain ⟨x', g1⟩ := r_rdt (L := L) (p := p) (rl := rl) hd e (k + 1) m 0 (by omega) (by omega)
      rw [if_neg z, nB_0.mpr z, dq_if_pos rfl, dq_gd_pos hz, dq_if_neg (by decide), dq_if_neg (by decide)]
      simp only [dq_let]
      rw [Int32.add_zero, nI_1 k]
      exact ⟨x', g1, fun h => by cases h⟩
theorem r_rd {lt : Nat → Int32} {L : Nat} {ℓ rl : Nat → Int32} (hL : L ≤ 96) (hlt : ∀ p, lt p = if p < L then ℓ p else -1) (hr : ∀ i, i < L → rl i = ℓ i) {d : Nat} (hd : d < 2 ^ 12) {r : Nat × Bool} (hp : r.1 < 2 ^ 12) : ∃ x', f_X7_readDigits (nI L) (nI r.1) (nB r.2) rl (nI d) = some (x', nI (dgB lt d r).1, nB (dgB lt d r).2) ∧ ((dgB lt d r).2 = false → x' = nI (nm lt d r.1 0)) := by
  obtain ⟨p, b⟩ := r
  unfold f_X7_readDigits
  cases b with
  | true =>
    obtain ⟨x', h⟩ := r_rdt (L := L) (p := p) (rl := rl) hd d 0 4096 0 (by omega) (by omega)
    rw [nI_0] at h
    exact ⟨x', h, fun h => by cases h⟩
  | false =>
    obtain ⟨x', h, h2⟩ := r_rdf hL hlt hr hd d 0 p 4096 0 (by omega) hp (by omega)
    rw [nI_0] at h
    exact ⟨x', h, h2⟩
theorem r_rsl {lt : Nat → Int32} {L : Nat} {ℓ rl : Nat → Int32} (hL : L ≤ 96) (hlt : ∀ p, lt p = if p < L then ℓ p else -1) (hr : ∀ i, i < L → rl i = ℓ i) {i : Nat} {num2 : Nat → Int32} : ∀ (f q sm m : Nat) (sR sB : Nat → Int32), L ≤ q + f → q ≤ 400 → f + 1 < m → sm ≤ q → ∃ (sm' : Nat) (sR' sB' : Nat → Int32), f_X7_readSteps_b10 (nI i) (nI L) rl num2 m (nI q) 0 (nI sm) sR sB = f_X7_readSteps_b92 (nI i) num2 (nI (stB lt f q).1) (nB (stB lt f q).2) (nI sm') sR' sB' ∧ sm ≤ sm' ∧ sm' ≤ (stB lt f q).1 ∧ (∀ j, j < sm → sR' j = sR j ∧ sB' j = sB j) ∧ ((stB lt f q).2 = false → sm' = sm + stK lt f q ∧ ∀ j, j < stK lt f q → sR' (sm + j) = stp (lt (sp lt q j)) ∧ sB' (sm + j) = nI (stA lt (sp lt q j)))
  | f, q, sm, 0, _, _, _, _, z, _ => absurd z (by omega)
  | 0, q, sm, m + 1, sR, sB, hf, hq, hm, hs => by
    have z : stp (lt q) < 0 := by
      rw [hlt q, if_neg (by omega)]
      decide
    refine ⟨sm, sR, sB, ?_, Nat.le_refl _, hs, fun j _ => ⟨rfl, rfl⟩, fun _ => ⟨rfl, fun j hj => absurd hj (by show ¬ j < 0; omega)⟩⟩
    rw [f_X7_readSteps_b10, dq_if_pos rfl, dq_bd_s (r_here hL hlt hr (by omega)), dq_bd_s (r_stp _), dq_if_pos z]
    rfl
  | f + 1, q, sm, m + 1, sR, sB, hf, hq, hm, hs => by
    rw [f_X7_readSteps_b10, dq_if_pos rfl, dq_bd_s (r_here hL hlt hr (by omega)), dq_bd_s (r_stp _)]
    unfold stB stK
    by_cases z : stp (lt q) < 0
    · rw [dq_if_pos z, if_pos z, if_pos z]
      exact ⟨sm, sR, sB, rfl, Nat.le_refl _, hs, fun j _ => ⟨rfl, rfl⟩, fun _ => ⟨rfl, fun j hj => absurd hj (by omega)⟩⟩
    · have qL := lt_S hL hlt z
      rw [dq_if_neg z, if_neg z, if_neg z, dq_bd_s (r_here hL hlt hr (by omega)), dq_bd_s (r_stp _)]
      simp only [dq_let]
      rw [dq_gd_pos (vp_in_nI (by omega) (by omega)), nI_clamp (by omega), nI_1 q]
      unfold f_X7_readSteps_b78
      by_cases y : stp (lt q) = 6
      · have nq : nx lt q = q + 1 := if_pos y
        obtain ⟨sm', sR', sB', g1, g2, g3, g4, g5⟩ := r_rsl hL hlt hr (i := i) (num2 := num2) f (q + 1) (sm + 1) m (upd sR sm (stp (lt q))) (upd sB sm 0) (by omega) (by omega) (by omega) (by omega)
        rw [dq_if_pos y, if_pos y, dq_gd_pos (vp_in_nI (by omega) (by omega)), nI_clamp (by omega)]
        simp only [dq_let]
        rw [nI_1 sm, nq]
        refine ⟨sm', sR', sB', g1, by omega, g3, fun j hj => ?_, fun h => ?_⟩
        · have := g4 j (by omega)
          rw [pk_un (by omega), pk_un (by omega)] at this
          exact this
        · obtain ⟨k1, k2⟩ := g5 h
          refine ⟨by omega, fun j hj => ?_⟩
          cases j with
          | zero =>
            have := g4 sm (by omega)
            rw [pk_us, pk_us] at this
            refine ⟨this.1, this.2.trans ?_⟩
            show (0 : Int32) = nI (stA lt q)
            unfold stA
            rw [if_pos y]
            rfl
          | succ j =>
            have := k2 j (by omega)
            rw [show sm + (j + 1) = sm + 1 + j by omega]
            show _ = stp (lt (sp lt (nx lt q) j)) ∧ _ = nI (stA lt (sp lt (nx lt q) j))
            rw [nq]
            exact this
      · have nq : nx lt q = q + 3 := if_neg y
        obtain ⟨x', g0, gv⟩ := r_rd hL hlt hr (d := 2) (by omega) (r := (q + 1, false)) (show q + 1 < 2 ^ 12 by omega)
        have g00 : f_X7_readDigits (nI L) (nI (q + 1)) 0 rl 2 = some (x', nI (dg lt 2 (q + 1)).1, nB (dg lt 2 (q + 1)).2) := g0
        obtain ⟨l1, l2, l3⟩ := dg_le (lt := lt) 2 (q + 1)
        rw [dq_if_neg y, if_neg y, dq_bd3_s g00, dq_gd_pos (vp_in_nI (by omega) (by omega)), nI_clamp (by omega)]
        simp only [dq_let]
        rw [nI_1 sm]
        by_cases x : (dg lt 2 (q + 1)).2 = true
        · rw [if_pos x, nB_1.mpr x]
          cases m with
          | zero => exact absurd hm (by omega)
          | succ m =>
            rw [f_X7_readSteps_b10, dq_if_neg (by decide)]
            refine ⟨sm + 1, upd sR sm (stp (lt q)), upd sB sm x', rfl, by omega, by omega, fun j hj => ⟨pk_un (by omega), pk_un (by omega)⟩, fun h => ?_⟩
            rw [x] at h
            cases h
        · have x' : (dg lt 2 (q + 1)).2 = false := by simpa using x
          obtain ⟨v1, v2⟩ := l3 x'
          have pL := lt_D hL hlt (v2 1 (by omega))
          obtain ⟨sm', sR', sB', g1, g2, g3, g4, g5⟩ := r_rsl hL hlt hr (i := i) (num2 := num2) f (dg lt 2 (q + 1)).1 (sm + 1) m (upd sR sm (stp (lt q))) (upd sB sm _) (by omega) (by omega) (by omega) (by omega)
          rw [if_neg x, x', nq]
          refine ⟨sm', sR', sB', g1, by omega, g3, fun j hj => ?_, fun h => ?_⟩
          · have := g4 j (by omega)
            rw [pk_un (by omega), pk_un (by omega)] at this
            exact this
          · obtain ⟨k1, k2⟩ := g5 h
            have v3 : (dg lt 2 (q + 1)).1 = q + 3 := v1
            rw [v3] at k1 k2
            refine ⟨by omega, fun j hj => ?_⟩
            cases j with
            | zero =>
              have := g4 sm (by omega)
              rw [pk_us, pk_us] at this
              refine ⟨this.1, this.2.trans ((gv x').trans ?_)⟩
              show _ = nI (stA lt q)
              unfold stA
              rw [if_neg y]
            | succ j =>
              have := k2 j (by omega)
              rw [show sm + (j + 1) = sm + 1 + j by omega]
              show _ = stp (lt (sp lt (nx lt q) j)) ∧ _ = nI (stA lt (sp lt (nx lt q) j))
              rw [nq]
              exact this
theorem dgB_u (lt : Nat → Int32) (d : Nat) (r : Nat × Bool) : r.1 ≤ (dgB lt d r).1 ∧ (dgB lt d r).1 ≤ r.1 + d := by
  unfold dgB
  split
  · exact ⟨Nat.le_refl _, Nat.le_add_right _ _⟩
  · exact ⟨(dg_le d r.1).1, (dg_le d r.1).2.1⟩
theorem r_num {lt : Nat → Int32} {L : Nat} {ℓ rl : Nat → Int32} (hL : L ≤ 96) (hlt : ∀ p, lt p = if p < L then ℓ p else -1) (hr : ∀ i, i < L → rl i = ℓ i) {c : Int32} {q i sm : Nat} {num sR sB : Nat → Int32} (hc : isL c = true) (hq1 : 1 ≤ q) (hq : q ≤ 200) (hi : i + 3 < 196) (hs : sm ≤ q) : Ok (f_X7_readNumbers (nI L) (nI q) 0 (nI sm) rl num sR sB c (nI i)) (fun y => ∃ (sm' : Nat) (num' sR' sB' : Nat → Int32), y = (nI (bodyE lt c q).1, nB (bodyE lt c q).2, nI sm', num', sR', sB') ∧ sm ≤ sm' ∧ sm' ≤ (bodyE lt c q).1 ∧ (∀ j, j < i → num' j = num j) ∧ (∀ j, j < sm → sR' j = sR j ∧ sB' j = sB j) ∧ ((bodyE lt c q).2 = false → DD lt c q i sm' num' sR' sB')) := by
  unfold f_X7_readNumbers
  rcases of_decide_eq_true hc with h | h | h | h | h | h
  · subst h
    have be : bodyE lt 97 q = dgB lt 1 (dgB lt 2 (dgB lt 1 (dgB lt 1 (q, false)))) := by
      rw [dgB_add, dgB_add, dgB_add]
      rfl
    refine Okn (by decide) ?_
    refine Okp (by decide) ?_
    unfold f_X7_readNumbers_b29
    obtain ⟨x1, g1, v1⟩ := r_rd hL hlt hr (d := 1) (by omega) (r := (q, false)) (by show q < 2 ^ 12; omega)
    refine Ok3 g1 ?_
    refine Okg (vp_in_nI (by omega) (by omega)) (Okl ?_)
    have u1 := dgB_u lt 1 (q, false)
    refine Okp (by decide) ?_
    unfold f_X7_readNumbers_b68
    obtain ⟨x2, g2, v2⟩ := r_rd hL hlt hr (d := 1) (by omega) (r := (dgB lt 1 (q, false))) (by omega)
    refine Ok3 g2 ?_
    rw [show nI i + (1 : Int32) = nI (i + 1) from nI_add i 1]
    refine Okg (vp_in_nI (by omega) (by omega)) (Okl ?_)
    have u2 := dgB_u lt 1 (dgB lt 1 (q, false))
    refine Okp (by decide) ?_
    unfold f_X7_readNumbers_b91
    obtain ⟨x3, g3, v3⟩ := r_rd hL hlt hr (d := 2) (by omega) (r := (dgB lt 1 (dgB lt 1 (q, false)))) (by omega)
    refine Ok3 g3 ?_
    rw [show nI i + (2 : Int32) = nI (i + 2) from nI_add i 2]
    refine Okg (vp_in_nI (by omega) (by omega)) (Okl ?_)
    have u3 := dgB_u lt 2 (dgB lt 1 (dgB lt 1 (q, false)))
    refine Okp (by decide) ?_
    obtain ⟨x4, g4, v4⟩ := r_rd hL hlt hr (d := 1) (by omega) (r := (dgB lt 2 (dgB lt 1 (dgB lt 1 (q, false))))) (by omega)
    refine Ok3 g4 ?_
    have u4 := dgB_u lt 1 (dgB lt 2 (dgB lt 1 (dgB lt 1 (q, false))))
    rw [show nI i + (3 : Int32) = nI (i + 3) from nI_add i 3]
    refine Okg (vp_in_nI (by omega) (by omega)) (Okl (Okv ?_))
    rw [nI_clamp (by omega), nI_clamp (by omega), nI_clamp (by omega), nI_clamp (by omega)]
    refine ⟨sm, _, _, _, by rw [be], Nat.le_refl _, by rw [be]; omega, fun j hj => ?_, fun j hj => ⟨rfl, rfl⟩, fun h => ?_⟩
    · rw [pk_un (by omega), pk_un (by omega), pk_un (by omega), pk_un (by omega)]
    · rw [be] at h
      obtain ⟨h3, p4⟩ := dgB_g h
      obtain ⟨h2, p3⟩ := dgB_g h3
      obtain ⟨h1, p2⟩ := dgB_g h2
      obtain ⟨-, p1⟩ := dgB_g h1
      have w1 := v1 h1
      have w2 := v2 h2
      have w3 := v3 h3
      have w4 := v4 h
      rw [p1] at p2 w2
      rw [p2] at p3 w3
      rw [p3] at w4
      have a1 : upd (upd (upd (upd num i x1) (i + 1) x2) (i + 2) x3) (i + 3) x4 i = x1 := by rw [pk_un (by omega), pk_un (by omega), pk_un (by omega), pk_us]
      have a2 : upd (upd (upd (upd num i x1) (i + 1) x2) (i + 2) x3) (i + 3) x4 (i + 1) = x2 := by rw [pk_un (by omega), pk_un (by omega), pk_us]
      have a3 : upd (upd (upd (upd num i x1) (i + 1) x2) (i + 2) x3) (i + 3) x4 (i + 2) = x3 := by rw [pk_un (by omega), pk_us]
      have a4 : upd (upd (upd (upd num i x1) (i + 1) x2) (i + 2) x3) (i + 3) x4 (i + 3) = x4 := pk_us
      exact ⟨fun _ => ⟨a1.trans w1, a2.trans w2, a3.trans w3, a4.trans w4⟩, fun z => absurd z (by decide), fun z => absurd z (by decide), fun z => absurd z (by decide), fun z => absurd z (by decide)⟩
  · subst h
    have be : bodyE lt 112 q = dgB lt 0 (dgB lt 0 (dgB lt 1 (dgB lt 2 (q, false)))) := by
      rw [dgB_add, dgB_add, dgB_add]
      rfl
    refine Okn (by decide) ?_
    refine Okn (by decide) ?_
    unfold f_X7_readNumbers_b29
    obtain ⟨x1, g1, v1⟩ := r_rd hL hlt hr (d := 2) (by omega) (r := (q, false)) (by show q < 2 ^ 12; omega)
    refine Ok3 g1 ?_
    refine Okg (vp_in_nI (by omega) (by omega)) (Okl ?_)
    have u1 := dgB_u lt 2 (q, false)
    refine Okn (by decide) (Okp (by decide) ?_)
    unfold f_X7_readNumbers_b68
    obtain ⟨x2, g2, v2⟩ := r_rd hL hlt hr (d := 1) (by omega) (r := (dgB lt 2 (q, false))) (by omega)
    refine Ok3 g2 ?_
    rw [show nI i + (1 : Int32) = nI (i + 1) from nI_add i 1]
    refine Okg (vp_in_nI (by omega) (by omega)) (Okl ?_)
    have u2 := dgB_u lt 1 (dgB lt 2 (q, false))
    refine Okn (by decide) ?_
    unfold f_X7_readNumbers_b91
    obtain ⟨x3, g3, v3⟩ := r_rd hL hlt hr (d := 0) (by omega) (r := (dgB lt 1 (dgB lt 2 (q, false)))) (by omega)
    refine Ok3 g3 ?_
    rw [show nI i + (2 : Int32) = nI (i + 2) from nI_add i 2]
    refine Okg (vp_in_nI (by omega) (by omega)) (Okl ?_)
    have u3 := dgB_u lt 0 (dgB lt 1 (dgB lt 2 (q, false)))
    refine Okn (by decide) ?_
    obtain ⟨x4, g4, v4⟩ := r_rd hL hlt hr (d := 0) (by omega) (r := (dgB lt 0 (dgB lt 1 (dgB lt 2 (q, false))))) (by omega)
    refine Ok3 g4 ?_
    have u4 := dgB_u lt 0 (dgB lt 0 (dgB lt 1 (dgB lt 2 (q, false))))
    rw [show nI i + (3 : Int32) = nI (i + 3) from nI_add i 3]
    refine Okg (vp_in_nI (by omega) (by omega)) (Okl (Okv ?_))
    rw [nI_clamp (by omega), nI_clamp (by omega), nI_clamp (by omega), nI_clamp (by omega)]
    refine ⟨sm, _, _, _, by rw [be], Nat.le_refl _, by rw [be]; omega, fun j hj => ?_, fun j hj => ⟨rfl, rfl⟩, fun h => ?_⟩
    · rw [pk_un (by omega), pk_un (by omega), pk_un (by omega), pk_un (by omega)]
    · rw [be] at h
      obtain ⟨h3, p4⟩ := dgB_g h
      obtain ⟨h2, p3⟩ := dgB_g h3
      obtain ⟨h1, p2⟩ := dgB_g h2
      obtain ⟨-, p1⟩ := dgB_g h1
      have w1 := v1 h1
      have w2 := v2 h2
      have w3 := v3 h3
      have w4 := v4 h
      rw [p1] at p2 w2
      rw [p2] at p3 w3
      rw [p3] at w4
      have a1 : upd (upd (upd (upd num i x1) (i + 1) x2) (i + 2) x3) (i + 3) x4 i = x1 := by rw [pk_un (by omega), pk_un (by omega), pk_un (by omega), pk_us]
      have a2 : upd (upd (upd (upd num i x1) (i + 1) x2) (i + 2) x3) (i + 3) x4 (i + 1) = x2 := by rw [pk_un (by omega), pk_un (by omega), pk_us]
      have a3 : upd (upd (upd (upd num i x1) (i + 1) x2) (i + 2) x3) (i + 3) x4 (i + 2) = x3 := by rw [pk_un (by omega), pk_us]
      have a4 : upd (upd (upd (upd num i x1) (i + 1) x2) (i + 2) x3) (i + 3) x4 (i + 3) = x4 := pk_us
      exact ⟨fun z => absurd z (by decide), fun _ => ⟨a1.trans w1, a2.trans w2⟩, fun z => absurd z (by decide), fun z => absurd z (by decide), fun z => absurd z (by decide)⟩
  · subst h
    have be : bodyE lt 100 q = dgB lt 0 (dgB lt 0 (dgB lt 0 (dgB lt 2 (q, false)))) := by
      rw [dgB_add, dgB_add, dgB_add]
      rfl
    refine Okn (by decide) ?_
    refine Okn (by decide) ?_
    unfold f_X7_readNumbers_b29
    obtain ⟨x1, g1, v1⟩ := r_rd hL hlt hr (d := 2) (by omega) (r := (q, false)) (by show q < 2 ^ 12; omega)
    refine Ok3 g1 ?_
    refine Okg (vp_in_nI (by omega) (by omega)) (Okl ?_)
    have u1 := dgB_u lt 2 (q, false)
    refine Okn (by decide) (Okn (by decide) (Okn (by decide) ?_))
    unfold f_X7_readNumbers_b68
    obtain ⟨x2, g2, v2⟩ := r_rd hL hlt hr (d := 0) (by omega) (r := (dgB lt 2 (q, false))) (by omega)
    refine Ok3 g2 ?_
    rw [show nI i + (1 : Int32) = nI (i + 1) from nI_add i 1]
    refine Okg (vp_in_nI (by omega) (by omega)) (Okl ?_)
    have u2 := dgB_u lt 0 (dgB lt 2 (q, false))
    refine Okn (by decide) ?_
    unfold f_X7_readNumbers_b91
    obtain ⟨x3, g3, v3⟩ := r_rd hL hlt hr (d := 0) (by omega) (r := (dgB lt 0 (dgB lt 2 (q, false)))) (by omega)
    refine Ok3 g3 ?_
    rw [show nI i + (2 : Int32) = nI (i + 2) from nI_add i 2]
    refine Okg (vp_in_nI (by omega) (by omega)) (Okl ?_)
    have u3 := dgB_u lt 0 (dgB lt 0 (dgB lt 2 (q, false)))
    refine Okn (by decide) ?_
    obtain ⟨x4, g4, v4⟩ := r_rd hL hlt hr (d := 0) (by omega) (r := (dgB lt 0 (dgB lt 0 (dgB lt 2 (q, false))))) (by omega)
    refine Ok3 g4 ?_
    have u4 := dgB_u lt 0 (dgB lt 0 (dgB lt 0 (dgB lt 2 (q, false))))
    rw [show nI i + (3 : Int32) = nI (i + 3) from nI_add i 3]
    refine Okg (vp_in_nI (by omega) (by omega)) (Okl (Okv ?_))
    rw [nI_clamp (by omega), nI_clamp (by omega), nI_clamp (by omega), nI_clamp (by omega)]
    refine ⟨sm, _, _, _, by rw [be], Nat.le_refl _, by rw [be]; omega, fun j hj => ?_, fun j hj => ⟨rfl, rfl⟩, fun h => ?_⟩
    · rw [pk_un (by omega), pk_un (by omega), pk_un (by omega), pk_un (by omega)]
    · rw [be] at h
      obtain ⟨h3, p4⟩ := dgB_g h
      obtain ⟨h2, p3⟩ := dgB_g h3
      obtain ⟨h1, p2⟩ := dgB_g h2
      obtain ⟨-, p1⟩ := dgB_g h1
      have w1 := v1 h1
      have w2 := v2 h2
      have w3 := v3 h3
      have w4 := v4 h
      rw [p1] at p2 w2
      rw [p2] at p3 w3
      rw [p3] at w4
      have a1 : upd (upd (upd (upd num i x1) (i + 1) x2) (i + 2) x3) (i + 3) x4 i = x1 := by rw [pk_un (by omega), pk_un (by omega), pk_un (by omega), pk_us]
      have a2 : upd (upd (upd (upd num i x1) (i + 1) x2) (i + 2) x3) (i + 3) x4 (i + 1) = x2 := by rw [pk_un (by omega), pk_un (by omega), pk_us]
      have a3 : upd (upd (upd (upd num i x1) (i + 1) x2) (i + 2) x3) (i + 3) x4 (i + 2) = x3 := by rw [pk_un (by omega), pk_us]
      have a4 : upd (upd (upd (upd num i x1) (i + 1) x2) (i + 2) x3) (i + 3) x4 (i + 3) = x4 := pk_us
      exact ⟨fun z => absurd z (by decide), fun z => absurd z (by decide), fun z => absurd z (by decide), fun _ => a1.trans w1, fun z => absurd z (by decide)⟩
  · subst h
    have be : bodyE lt 119 q = dgB lt 0 (dgB lt 0 (dgB lt 2 (dgB lt 2 (q, false)))) := by
      rw [dgB_add, dgB_add, dgB_add]
      rfl
    refine Okn (by decide) ?_
    refine Okn (by decide) ?_
    unfold f_X7_readNumbers_b29
    obtain ⟨x1, g1, v1⟩ := r_rd hL hlt hr (d := 2) (by omega) (r := (q, false)) (by show q < 2 ^ 12; omega)
    refine Ok3 g1 ?_
    refine Okg (vp_in_nI (by omega) (by omega)) (Okl ?_)
    have u1 := dgB_u lt 2 (q, false)
    refine Okn (by decide) (Okn (by decide) (Okp (by decide) ?_))
    unfold f_X7_readNumbers_b68
    obtain ⟨x2, g2, v2⟩ := r_rd hL hlt hr (d := 2) (by omega) (r := (dgB lt 2 (q, false))) (by omega)
    refine Ok3 g2 ?_
    rw [show nI i + (1 : Int32) = nI (i + 1) from nI_add i 1]
    refine Okg (vp_in_nI (by omega) (by omega)) (Okl ?_)
    have u2 := dgB_u lt 2 (dgB lt 2 (q, false))
    refine Okn (by decide) ?_
    unfold f_X7_readNumbers_b91
    obtain ⟨x3, g3, v3⟩ := r_rd hL hlt hr (d := 0) (by omega) (r := (dgB lt 2 (dgB lt 2 (q, false)))) (by omega)
    refine Ok3 g3 ?_
    rw [show nI i + (2 : Int32) = nI (i + 2) from nI_add i 2]
    refine Okg (vp_in_nI (by omega) (by omega)) (Okl ?_)
    have u3 := dgB_u lt 0 (dgB lt 2 (dgB lt 2 (q, false)))
    refine Okn (by decide) ?_
    obtain ⟨x4, g4, v4⟩ := r_rd hL hlt hr (d := 0) (by omega) (r := (dgB lt 0 (dgB lt 2 (dgB lt 2 (q, false))))) (by omega)
    refine Ok3 g4 ?_
    have u4 := dgB_u lt 0 (dgB lt 0 (dgB lt 2 (dgB lt 2 (q, false))))
    rw [show nI i + (3 : Int32) = nI (i + 3) from nI_add i 3]
    refine Okg (vp_in_nI (by omega) (by omega)) (Okl (Okv ?_))
    rw [nI_clamp (by omega), nI_clamp (by omega), nI_clamp (by omega), nI_clamp (by omega)]
    refine ⟨sm, _, _, _, by rw [be], Nat.le_refl _, by rw [be]; omega, fun j hj => ?_, fun j hj => ⟨rfl, rfl⟩, fun h => ?_⟩
    · rw [pk_un (by omega), pk_un (by omega), pk_un (by omega), pk_un (by omega)]
    · rw [be] at h
      obtain ⟨h3, p4⟩ := dgB_g h
      obtain ⟨h2, p3⟩ := dgB_g h3
      obtain ⟨h1, p2⟩ := dgB_g h2
      obtain ⟨-, p1⟩ := dgB_g h1
      have w1 := v1 h1
      have w2 := v2 h2
      have w3 := v3 h3
      have w4 := v4 h
      rw [p1] at p2 w2
      rw [p2] at p3 w3
      rw [p3] at w4
      have a1 : upd (upd (upd (upd num i x1) (i + 1) x2) (i + 2) x3) (i + 3) x4 i = x1 := by rw [pk_un (by omega), pk_un (by omega), pk_un (by omega), pk_us]
      have a2 : upd (upd (upd (upd num i x1) (i + 1) x2) (i + 2) x3) (i + 3) x4 (i + 1) = x2 := by rw [pk_un (by omega), pk_un (by omega), pk_us]
      have a3 : upd (upd (upd (upd num i x1) (i + 1) x2) (i + 2) x3) (i + 3) x4 (i + 2) = x3 := by rw [pk_un (by omega), pk_us]
      have a4 : upd (upd (upd (upd num i x1) (i + 1) x2) (i + 2) x3) (i + 3) x4 (i + 3) = x4 := pk_us
      exact ⟨fun z => absurd z (by decide), fun z => absurd z (by decide), fun _ => ⟨a1.trans w1, a2.trans w2⟩, fun z => absurd z (by decide), fun z => absurd z (by decide)⟩
  · subst h
    refine Okp rfl ?_
    have hz : (1 : Int32) = 1 := rfl
    obtain ⟨sm', sR', sB', g1, g2, g3, g4, g5⟩ := r_rsl hL hlt hr (i := i) (num2 := upd num i (nI sm)) 96 q sm 4096 sR sB (by omega) (by omega) (by omega) hs
    have e : f_X7_readSteps (nI L) (nI q) 0 (nI sm) rl num sR sB (nI i) = some (nI (stB lt 96 q).1, nB (stB lt 96 q).2, nI sm', upd (upd num i (nI sm)) (i + 1) (nI sm' - nI sm), sR', sB') := by
      unfold f_X7_readSteps
      rw [dq_gd_pos (vp_in_nI (by omega) (by omega)), nI_clamp (by omega)]
      simp only [dq_let]
      rw [g1]
      unfold f_X7_readSteps_b92
      rw [dq_gd_pos (vp_in_nI (by omega) (by omega)), nI_1 i, dq_gd_pos (vp_in_nI (by omega) (by omega)), nI_clamp (by omega), nI_clamp (by omega), pk_us]
      simp only [dq_let]
    have b1 : bodyE lt 108 q = stB lt 96 q := rfl
    refine Ok6 e (Okv ⟨sm', _, _, _, by rw [b1], g2, by rw [b1]; exact g3, fun j hj => ?_, g4, fun h => ?_⟩)
    · rw [pk_un (by omega), pk_un (by omega)]
    · rw [b1] at h
      obtain ⟨k1, k2⟩ := g5 h
      refine ⟨fun z => absurd z (by decide), fun z => absurd z (by decide), fun z => absurd z (by decide), fun z => absurd z (by decide), fun _ => ⟨sm, by omega, ?_, ?_, k2⟩⟩
      · rw [pk_un (by omega), pk_us]
      · rw [pk_us, pk_sub g2]
        congr 1
        omega
  · subst h
    have be : bodyE lt 116 q = dgB lt 0 (dgB lt 0 (dgB lt 0 (dgB lt 2 (q, false)))) := by
      rw [dgB_add, dgB_add, dgB_add]
      rfl
    refine Okn (by decide) ?_
    refine Okn (by decide) ?_
    unfold f_X7_readNumbers_b29
    obtain ⟨x1, g1, v1⟩ := r_rd hL hlt hr (d := 2) (by omega) (r := (q, false)) (by show q < 2 ^ 12; omega)
    refine Ok3 g1 ?_
    refine Okg (vp_in_nI (by omega) (by omega)) (Okl ?_)
    have u1 := dgB_u lt 2 (q, false)
    refine Okn (by decide) (Okn (by decide) (Okn (by decide) ?_))
    unfold f_X7_readNumbers_b68
    obtain ⟨x2, g2, v2⟩ := r_rd hL hlt hr (d := 0) (by omega) (r := (dgB lt 2 (q, false))) (by omega)
    refine Ok3 g2 ?_
    rw [show nI i + (1 : Int32) = nI (i + 1) from nI_add i 1]
    refine Okg (vp_in_nI (by omega) (by omega)) (Okl ?_)
    have u2 := dgB_u lt 0 (dgB lt 2 (q, false))
    refine Okn (by decide) ?_
    unfold f_X7_readNumbers_b91
    obtain ⟨x3, g3, v3⟩ := r_rd hL hlt hr (d := 0) (by omega) (r := (dgB lt 0 (dgB lt 2 (q, false)))) (by omega)
    refine Ok3 g3 ?_
    rw [show nI i + (2 : Int32) = nI (i + 2) from nI_add i 2]
    refine Okg (vp_in_nI (by omega) (by omega)) (Okl ?_)
    have u3 := dgB_u lt 0 (dgB lt 0 (dgB lt 2 (q, false)))
    refine Okn (by decide) ?_
    obtain ⟨x4, g4, v4⟩ := r_rd hL hlt hr (d := 0) (by omega) (r := (dgB lt 0 (dgB lt 0 (dgB lt 2 (q, false))))) (by omega)
    refine Ok3 g4 ?_
    have u4 := dgB_u lt 0 (dgB lt 0 (dgB lt 0 (dgB lt 2 (q, false))))
    rw [show nI i + (3 : Int32) = nI (i + 3) from nI_add i 3]
    refine Okg (vp_in_nI (by omega) (by omega)) (Okl (Okv ?_))
    rw [nI_clamp (by omega), nI_clamp (by omega), nI_clamp (by omega), nI_clamp (by omega)]
    refine ⟨sm, _, _, _, by rw [be], Nat.le_refl _, by rw [be]; omega, fun j hj => ?_, fun j hj => ⟨rfl, rfl⟩, fun h => ?_⟩
    · rw [pk_un (by omega), pk_un (by omega), pk_un (by omega), pk_un (by omega)]
    · rw [be] at h
      obtain ⟨h3, p4⟩ := dgB_g h
      obtain ⟨h2, p3⟩ := dgB_g h3
      obtain ⟨h1, p2⟩ := dgB_g h2
      obtain ⟨-, p1⟩ := dgB_g h1
      have w1 := v1 h1
      have w2 := v2 h2
      have w3 := v3 h3
      have w4 := v4 h
      rw [p1] at p2 w2
      rw [p2] at p3 w3
      rw [p3] at w4
      have a1 : upd (upd (upd (upd num i x1) (i + 1) x2) (i + 2) x3) (i + 3) x4 i = x1 := by rw [pk_un (by omega), pk_un (by omega), pk_un (by omega), pk_us]
      have a2 : upd (upd (upd (upd num i x1) (i + 1) x2) (i + 2) x3) (i + 3) x4 (i + 1) = x2 := by rw [pk_un (by omega), pk_un (by omega), pk_us]
      have a3 : upd (upd (upd (upd num i x1) (i + 1) x2) (i + 2) x3) (i + 3) x4 (i + 2) = x3 := by rw [pk_un (by omega), pk_us]
      have a4 : upd (upd (upd (upd num i x1) (i + 1) x2) (i + 2) x3) (i + 3) x4 (i + 3) = x4 := pk_us
      exact ⟨fun z => absurd z (by decide), fun z => absurd z (by decide), fun z => absurd z (by decide), fun _ => a1.trans w1, fun z => absurd z (by decide)⟩
