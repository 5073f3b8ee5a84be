/-! houses told in letters: all statements, as the reference reads them -/
theorem r_stm {lt : Nat → Int32} {L : Nat} {ℓ rl : Nat → Int32} (hL : L ≤ 96) (hlt : ∀ p, lt p = if p < L then ℓ p else -1) (hr : ∀ i, i < L → rl i = ℓ i) {p k sm : Nat} {pI lO num sR sB : Nat → Int32} (hp : p ≤ 96) (hk : k < 49) (hs : sm ≤ p) : Ok (f_X7_readStatement (nI L) (nI p) 0 (nI k) (nI sm) rl pI lO num sR sB) (fun y => ∃ (sm' : Nat) (num' sR' sB' : Nat → Int32), y = (nI (stE lt p).1, nB (stE lt p).2, nI (k + 1), nI sm', upd pI k (nI p), upd lO k (lt p), num', sR', sB') ∧ sm ≤ sm' ∧ sm' ≤ (stE lt p).1 ∧ (∀ j, j < 4 * k → num' j = num j) ∧ (∀ j, j < sm → sR' j = sR j ∧ sB' j = sB j) ∧ ((stE lt p).2 = false → DD lt (lt p) (p + 1) (4 * k) sm' num' sR' sB')) := by
  have hz : dq_z (1 : Int32) := by unfold dq_z; decide
  have hz0 : dq_z (0 : Int32) := by unfold dq_z; decide
  have vk : vp_in (nI k) 49 := vp_in_nI hk (by omega)
  have ck : (nI k).toNatClampNeg = k := nI_clamp (by omega)
  unfold f_X7_readStatement
  refine Ok1 (r_here hL hlt hr (by omega)) (Okg vk (Okl (Okg vk (Okl (Okp rfl ?_)))))
  rw [ck]
  refine Okbd (r_isL _) (fun y => ?_) (fun y => ?_)
  · obtain ⟨v, e, sm', num', sR', sB', hv, g2, g3, g4, g5, g6⟩ := r_num hL hlt hr (c := lt p) (q := p + 1) (i := 4 * k) (sm := sm) (num := num) (sR := sR) (sB := sB) y (by omega) (by omega) (by omega) (by omega)
    subst hv
    unfold f_X7_readStatement_b47
    refine Okg hz0 (Okp rfl ?_)
    unfold f_X7_readStatement_b67
    refine Okl (Okp rfl ?_)
    rw [show (4 : Int32) * nI k = nI (4 * k) from pk_mul 4 k, nI_1 p]
    refine Ok6 e ?_
    unfold f_X7_readStatement_b86
    have es : stE lt p = semi lt (bodyE lt (lt p) (p + 1)) := if_pos y
    have hu := body_up hL hlt (lt p) (q := p + 1) (by omega)
    refine Okbb (fun z => ?_) (fun z => ?_)
    · have e2 : stE lt p = bodyE lt (lt p) (p + 1) := es.trans (if_pos z)
      unfold f_X7_readStatement_b108
      refine Okg hz (Okn (by decide) ?_)
      unfold f_X7_readStatement_b128
      refine Okl (Okl (Okv ⟨sm', num', sR', sB', ?_, g2, by rw [e2]; exact g3, g4, g5, fun h => by rw [e2, z] at h; cases h⟩))
      rw [e2, z, nI_1 k, Int32.add_zero]
      rfl
    · refine Ok1 (r_here hL hlt hr (by omega)) ?_
      by_cases w : lt (bodyE lt (lt p) (p + 1)).1 = 59
      · have e2 : stE lt p = ((bodyE lt (lt p) (p + 1)).1 + 1, false) := es.trans ((if_neg (by rw [z]; decide)).trans (if_pos w))
        refine Okp w ?_
        unfold f_X7_readStatement_b108
        refine Okg hz0 (Okp rfl ?_)
        unfold f_X7_readStatement_b128
        refine Okl (Okl (Okv ⟨sm', num', sR', sB', ?_, g2, by rw [e2]; show sm' ≤ _ + 1; omega, g4, g5, fun _ => g6 z⟩))
        rw [e2, nI_1 k, nI_1]
        rfl
      · have e2 : stE lt p = ((bodyE lt (lt p) (p + 1)).1, true) := es.trans ((if_neg (by rw [z]; decide)).trans (if_neg w))
        refine Okn w ?_
        unfold f_X7_readStatement_b108
        refine Okg hz (Okn (by decide) ?_)
        unfold f_X7_readStatement_b128
        refine Okl (Okl (Okv ⟨sm', num', sR', sB', ?_, g2, by rw [e2]; exact g3, g4, g5, fun h => by rw [e2] at h; cases h⟩))
        rw [e2, nI_1 k, Int32.add_zero]
        rfl
  · have e2 : stE lt p = (p, true) := if_neg (by rw [y]; decide)
    unfold f_X7_readStatement_b47
    refine Okg hz (Okn (by decide) ?_)
    unfold f_X7_readStatement_b67
    refine Okl (Okn (by decide) ?_)
    unfold f_X7_readStatement_b86
    refine Okn (by decide) ?_
    unfold f_X7_readStatement_b108
    refine Okg hz (Okn (by decide) ?_)
    unfold f_X7_readStatement_b128
    refine Okl (Okl (Okv ⟨sm, num, sR, sB, ?_, Nat.le_refl _, by rw [e2]; exact hs, fun _ _ => rfl, fun _ _ => ⟨rfl, rfl⟩, fun h => by rw [e2] at h; cases h⟩))
    rw [e2, nI_1 k, Int32.add_zero, Int32.add_zero]
    rfl
def InvT (lt : Nat → Int32) (k sm : Nat) (pI lO num sR sB : Nat → Int32) : Prop := ∀ i, i < k → pI i = nI (pl lt i) ∧ lO i = lt (pl lt i) ∧ (stE lt (pl lt i)).2 = false ∧ DD lt (lt (pl lt i)) (pl lt i + 1) (4 * i) sm num sR sB
theorem InvT_s {lt : Nat → Int32} {k sm sm' p : Nat} {pI lO num sR sB num' sR' sB' : Nat → Int32} (I : InvT lt k sm pI lO num sR sB) (hp : p = pl lt k) (h1 : sm ≤ sm') (h2 : ∀ j, j < 4 * k → num' j = num j) (h3 : ∀ j, j < sm → sR' j = sR j ∧ sB' j = sB j) (h4 : (stE lt p).2 = false) (h5 : DD lt (lt p) (p + 1) (4 * k) sm' num' sR' sB') : InvT lt (k + 1) sm' (upd pI k (nI p)) (upd lO k (lt p)) num' sR' sB' := by
  intro i hi
  by_cases z : i = k
  · subst z
    rw [pk_us, pk_us, ← hp]
    exact ⟨rfl, rfl, h4, h5⟩
  · obtain ⟨a1, a2, a3, a4⟩ := I i (by omega)
    rw [pk_un z, pk_un z]
    exact ⟨a1, a2, a3, DD_mono a4 h1 (fun j hj => h2 j (by omega)) h3⟩
theorem r_prs {lt : Nat → Int32} {L : Nat} {ℓ rl : Nat → Int32} (hL : L ≤ 96) (hlt : ∀ p, lt p = if p < L then ℓ p else -1) (hr : ∀ i, i < L → rl i = ℓ i) {a : (Nat → Nat)} {r_airs : Int32} {r_sitters : Int32} {r_stepMany : Int32} {r_today : Int32} {r_taken : Int32} {r_isStill : Int32} {r_place0 : Int32} {r_isTaking : Int32} {r_keptIn : Value} {r_turned : Int32} {r_warms : (Nat → UInt32)} {r_shutAt : (Nat → Int32)} {r_kinds0 : (Nat → Int32)} {r_figures : (Nat → Int32)} {r_airAt : (Nat → Int32)} {r_ways : (Nat → Int32)} {r_crowned : (Nat → Int32)} {r_sitsAt : (Nat → Int32)} {r_shawls : (Nat → Int32)} {r_isOn : (Nat → Int32)} {r_stepOf : (Nat → Int32)} {r_stepBy : (Nat → Int32)} {r_kept : (Nat → Int32)} {r_keptWarms : (Nat → UInt32)} {Q : (Int32 × Int32 × Int32 × Int32 × Int32 × Int32 × Int32 × Int32 × Int32 × Int32 × Int32 × Int32 × Int32 × Int32 × Value × Int32 × (Nat → UInt32) × (Nat → Int32) × (Nat → Int32) × (Nat → Int32) × (Nat → Int32) × (Nat → Int32) × (Nat → Int32) × (Nat → Int32) × (Nat → Int32) × (Nat → Int32) × (Nat → Int32) × (Nat → Int32) × (Nat → Int32) × (Nat → Int32) × (Nat → Int32) × (Nat → Int32) × (Nat → Int32) × (Nat → Int32) × (Nat → UInt32)) → Prop} (K1 : ∀ (S sm p : Nat) (pI lO num sR sB : Nat → Int32), S ≤ 48 → prs lt L 49 0 0 = (S, false) → InvT lt S sm pI lO num sR sB → sm ≤ 96 → Ok (f_X7_house_b57 a r_airs r_sitters r_stepMany r_today r_taken r_isStill r_place0 r_isTaking r_keptIn r_turned r_warms r_shutAt r_kinds0 r_figures r_airAt r_ways r_crowned r_sitsAt r_shawls r_isOn r_stepOf r_stepBy r_kept r_keptWarms (nI p) 0 (nI S) (nI sm) pI lO num sR sB) Q) (K2 : ∀ (S sm : Int32) (pI lO num sR sB : Nat → Int32), (prs lt L 49 0 0).2 = true → Ok (f_X7_house_b57 a r_airs r_sitters r_stepMany r_today r_taken r_isStill r_place0 r_isTaking r_keptIn r_turned r_warms r_shutAt r_kinds0 r_figures r_airAt r_ways r_crowned r_sitsAt r_shawls r_isOn r_stepOf r_stepBy r_kept r_keptWarms (nI (prs lt L 49 0 0).1) 1 S sm pI lO num sR sB) Q) : ∀ (d k p sm m : Nat) (pI lO num sR sB : Nat → Int32), prs lt L d k p = prs lt L 49 0 0 → p = pl lt k → 2 * k ≤ p → p ≤ L → (L - p) / 2 + 1 ≤ d → (p = 0 ↔ k = 0) → d < m → sm ≤ p → InvT lt k sm pI lO num sR sB → Ok (f_X7_house_b25 a r_airs r_sitters r_stepMany r_today r_taken r_isStill (nI L) r_place0 r_isTaking r_keptIn r_turned r_warms r_shutAt r_kinds0 r_figures r_airAt r_ways r_crowned r_sitsAt r_shawls r_isOn r_stepOf r_stepBy rl r_kept r_keptWarms m (nI p) 0 (nI k) (nI sm) pI lO num sR sB) Q
  | d, k, p, sm, 0, _, _, _, _, _, _, _, _, _, _, _, z, _, _ => absurd z (by omega)
  | 0, k, p, sm, m + 1, _, _, _, _, _, _, _, _, _, z, _, _, _, _ => absurd z (by omega)
  | d + 1, k, p, sm, m + 1, pI, lO, num, sR, sB, hP, hp, hk, hpL, hd, hz, hm, hs, I => by
    rw [f_X7_house_b25]
    refine Okp rfl ?_
    by_cases k0 : k = 0
    · have cnd : p < L ∨ k = 0 := Or.inr k0
      refine Okp ((nI_eq (b := 0) (by omega) (by omega)).mpr k0) ?_
      obtain ⟨v, e, sm', num', sR', sB', hv, g2, g3, g4, g5, g6⟩ := r_stm hL hlt hr (p := p) (k := k) (sm := sm) (pI := pI) (lO := lO) (num := num) (sR := sR) (sB := sB) (by omega) (by omega) hs
      subst hv
      refine Ok9 e ?_
      by_cases y : (stE lt p).2 = true
      · have pe : prs lt L (d + 1) k p = stE lt p := (if_pos cnd).trans (if_pos y)
        rw [y]
        cases m with
        | zero => exact absurd hm (by omega)
        | succ m =>
          rw [f_X7_house_b25]
          refine Okn (by decide) ?_
          have K3 := K2 (nI (k + 1)) (nI sm') (upd pI k (nI p)) (upd lO k (lt p)) num' sR' sB' (by rw [← hP, pe]; exact y)
          rw [← hP, pe] at K3
          exact K3
      · have y' : (stE lt p).2 = false := by simpa using y
        have pe : prs lt L (d + 1) k p = prs lt L d (k + 1) (stE lt p).1 := (if_pos cnd).trans (if_neg y)
        have i1 := stE_in hL hlt y'
        have i2 := ((stE_le (lt := lt) p).2 y').1
        rw [y']
        exact r_prs hL hlt hr K1 K2 d (k + 1) (stE lt p).1 sm' m (upd pI k (nI p)) (upd lO k (lt p)) num' sR' sB' (pe.symm.trans hP) (by rw [hp]; rfl) (by omega) (by omega) (by omega) (by omega) (by omega) (by omega) (InvT_s I hp g2 g4 g5 y' (g6 y'))
    · refine Okn (fun z => k0 ((nI_eq (b := 0) (by omega) (by omega)).mp z)) ?_
      by_cases w : p < L
      · have cnd : p < L ∨ k = 0 := Or.inl w
        refine Okn (nI_ge w (by omega)) ?_
        obtain ⟨v, e, sm', num', sR', sB', hv, g2, g3, g4, g5, g6⟩ := r_stm hL hlt hr (p := p) (k := k) (sm := sm) (pI := pI) (lO := lO) (num := num) (sR := sR) (sB := sB) (by omega) (by omega) hs
        subst hv
        refine Ok9 e ?_
        by_cases y : (stE lt p).2 = true
        · have pe : prs lt L (d + 1) k p = stE lt p := (if_pos cnd).trans (if_pos y)
          rw [y]
          cases m with
          | zero => exact absurd hm (by omega)
          | succ m =>
            rw [f_X7_house_b25]
            refine Okn (by decide) ?_
            have K3 := K2 (nI (k + 1)) (nI sm') (upd pI k (nI p)) (upd lO k (lt p)) num' sR' sB' (by rw [← hP, pe]; exact y)
            rw [← hP, pe] at K3
            exact K3
        · have y' : (stE lt p).2 = false := by simpa using y
          have pe : prs lt L (d + 1) k p = prs lt L d (k + 1) (stE lt p).1 := (if_pos cnd).trans (if_neg y)
          have i1 := stE_in hL hlt y'
          have i2 := ((stE_le (lt := lt) p).2 y').1
          rw [y']
          exact r_prs hL hlt hr K1 K2 d (k + 1) (stE lt p).1 sm' m (upd pI k (nI p)) (upd lO k (lt p)) num' sR' sB' (pe.symm.trans hP) (by rw [hp]; rfl) (by omega) (by omega) (by omega) (by omega) (by omega) (by omega) (InvT_s I hp g2 g4 g5 y' (g6 y'))
      · have pe : prs lt L (d + 1) k p = (k, false) := if_neg (by omega)
        refine Okp (nI_le (by omega) (by omega)) ?_
        exact K1 k sm p pI lO num sR sB (by omega) (by rw [← hP, pe]) I (by omega)
