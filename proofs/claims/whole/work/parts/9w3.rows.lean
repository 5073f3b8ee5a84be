/-! the calls, more -/
/-- the place in the row that is not so -/
def jP (h : AH) (tl : Nat → Int32) (i : Nat) : Bool := !(decide (i < aS h) && decide (tl i = nI (if aOn h i = true then aSt h i else 36)))
theorem c_judge_loop {h : AH} {sb : Int64} {ai cb si ob tn tk hc : Int32} {wm : Nat → UInt32} {ki fi ac wy se sl hs hn tl : Nat → Int32} (V : aV h) (E : HC h sb ai cb si ob tn tk wm ki fi ac wy se sl hc hs hn) {T : Nat} (hT : T ≤ 12) : ∀ (d k m : Nat), k + d = T → d < m → (∀ b, b < k → jP h tl b = false) → f_X6_judge_b5 (nI T) si ob se tl m (-9) (nI k) = some (eN (-9) (fM (jP h tl) T), 0)
  | d, k, 0, _, q, _ => absurd q (by omega)
  | 0, k, m + 1, hk, _, hb => by
    have : k = T := by omega
    subst this
    rw [f_X6_judge_b5, dq_if_pos (nI_le (Nat.le_refl _) (by omega)), fM_none.mpr hb]
    rfl
  | d + 1, k, m + 1, hk, hm, hb => by
    have hkl : k < T := by omega
    have hS := V.1.2.1
    have go : jP h tl k = false → f_X6_judge_b5 (nI T) si ob se tl m (-9) (nI k + 1) = some (eN (-9) (fM (jP h tl) T), 0) := by
      intro q
      rw [show nI k + (1 : Int32) = nI (k + 1) from nI_1 k]
      refine c_judge_loop V E hT d (k + 1) m (by omega) (by omega) (fun b hb2 => ?_)
      by_cases z : b = k
      · subst z
        exact q
      · exact hb b (by omega)
    have hit : jP h tl k = true → f_X6_judge_b5 (nI T) si ob se tl m (nI k) (nI k + 1) = some (eN (-9) (fM (jP h tl) T), 0) := by
      intro q
      rw [fM_some.mpr ⟨hkl, q, hb⟩, show nI k + (1 : Int32) = nI (k + 1) from nI_1 k]
      cases m with
      | zero => exact absurd hm (by omega)
      | succ m =>
        rw [f_X6_judge_b5]
        by_cases z : T ≤ k + 1
        · rw [dq_if_pos (nI_le z (by omega))]
          rfl
        · rw [dq_if_neg (nI_ge (by omega) (by omega)), dq_if_neg (fun y => by
            have h1 := nI_toInt (n := k) (by omega)
            rw [y] at h1
            exact absurd h1 (by rw [show ((-9 : Int32)).toInt = -9 from rfl]; omega))]
          rfl
    rw [f_X6_judge_b5, dq_if_neg (nI_ge hkl (by omega)), dq_if_pos rfl, E.1.2.1]
    rw [E.1.2.1] at go hit
    by_cases s : k < aS h
    · have s6 : vp_in (nI k) 6 := vp_in_nI (by omega) (by omega)
      rw [dq_if_neg (nI_ge s (by omega)), dq_gd_pos (vp_in_nI (by omega) (by omega)), dq_bd_s (c_isO V E s)]
      by_cases o : aOn h k = true
      · rw [dq_if_neg (fun z => nB_0.mp z o), dq_gd_pos s6, nI_clamp (by omega), (E.2.2.2.1 k s).1]
        unfold f_X6_judge_b61
        by_cases t : tl k = nI (aSt h k)
        · rw [dq_if_pos t]
          exact go (by unfold jP; rw [if_pos o]; simp [s, t])
        · rw [dq_if_neg t]
          exact hit (by unfold jP; rw [if_pos o]; simp [t])
      · rw [dq_if_pos (nB_0.mpr o), nI_clamp (by omega)]
        unfold f_X6_judge_b61
        rw [show (36 : Int32) = nI 36 from rfl]
        by_cases t : tl k = nI 36
        · rw [dq_if_pos t]
          exact go (by unfold jP; rw [if_neg o]; simp [s, t])
        · rw [dq_if_neg t]
          exact hit (by unfold jP; rw [if_neg o]; simp [t])
    · rw [dq_if_pos (nI_le (by omega) (by omega))]
      exact hit (by unfold jP; simp [s])
theorem r_judge_loop {h : AH} {ai si hc tn tk : Int32} {wm : Nat → UInt32} {sh ki fi ac wy cr se sl on hs hn tl r0 : Nat → Int32} (V : aV h) (E : HR h ai si hc tn tk wm sh ki fi ac wy cr se sl on hs hn) {T : Nat} (hT : T ≤ 12) (hO : ∀ i, i < T → r0 i = tl i ∧ ∃ c, c < 100 ∧ tl i = nI c) : ∀ (k m : Nat) (x : Int32), k ≤ T → k < m → rP (jP h tl) T k x → f_X7_judge_b15 si se on r0 m x (nI k + (-1 : Int32)) = some (eN (-9) (fM (jP h tl) T), 0, 0)
  | k, 0, _, _, q, _ => absurd q (by omega)
  | 0, m + 1, x, _, _, hx => by
    rw [f_X7_judge_b15, dq_if_pos (by decide), rP_0 hx]
  | k + 1, m + 1, x, hk, hm, hx => by
    have hS := V.1.2.1
    have hkl : k < T := by omega
    have v12 : vp_in (nI k) 12 := vp_in_nI (by omega) (by omega)
    obtain ⟨o1, c, o2, o3⟩ := hO k hkl
    have go : jP h tl k = false → f_X7_judge_b15 si se on r0 m x (nI k + (-1 : Int32)) = some (eN (-9) (fM (jP h tl) T), 0, 0) := fun q => r_judge_loop V E hT hO k m x (by omega) (by omega) (rP_n q hx)
    have hit : jP h tl k = true → f_X7_judge_b15 si se on r0 m (nI k) (nI k + (-1 : Int32)) = some (eN (-9) (fM (jP h tl) T), 0, 0) := fun q => r_judge_loop V E hT hO k m (nI k) (by omega) (by omega) (rP_s hkl q)
    rw [f_X7_judge_b15, nI_dn, dq_if_neg (nI_pos (by omega)), E.1.2.1]
    rw [E.1.2.1] at go hit
    by_cases s : k < aS h
    · have s6 : vp_in (nI k) 6 := vp_in_nI (by omega) (by omega)
      obtain ⟨e1, e2, e3⟩ := E.2.2.1 k s
      rw [dq_if_pos (nI_lt s (by omega)), dq_gd_pos s6, nI_clamp (by omega), e3]
      by_cases o : aOn h k = true
      · rw [dq_if_pos (nB_1.mpr o), dq_gd_pos s6, e1]
        unfold f_X7_judge_b52
        rw [dq_gd_pos v12, nI_clamp (by omega), o1]
        by_cases t : tl k = nI (aSt h k)
        · rw [dq_if_pos t]
          exact go (by unfold jP; rw [if_pos o]; simp [s, t])
        · rw [dq_if_neg t]
          exact hit (by unfold jP; rw [if_pos o]; simp [t])
      · rw [dq_if_neg (fun z => o (nB_1.mp z))]
        unfold f_X7_judge_b52
        rw [dq_gd_pos v12, nI_clamp (by omega), o1]
        rw [show (36 : Int32) = nI 36 from rfl]
        by_cases t : tl k = nI 36
        · rw [dq_if_pos t]
          exact go (by unfold jP; rw [if_neg o]; simp [s, t])
        · rw [dq_if_neg t]
          exact hit (by unfold jP; rw [if_neg o]; simp [t])
    · rw [dq_if_neg (nI_nlt (by omega) (by omega))]
      unfold f_X7_judge_b52
      rw [dq_gd_pos v12, nI_clamp (by omega), o1, o3, dq_if_neg (fun y => by
        have h1 := nI_toInt (n := c) (by omega)
        rw [y] at h1
        exact absurd h1 (by rw [show ((-1 : Int32)).toInt = -1 from rfl]; omega))]
      exact hit (by unfold jP; simp [s])
/-! loops of class and reference side by side -/
theorem l_kinds {A : Nat} {n0 : Int32} {ki kr gr rr : Nat → Int32} (hA : A ≤ 5) (he : ∀ i, i < A → ki i = kr i) : ∀ (d k m m' : Nat) (x : Int32), k + d = A → d < m → d < m' → ∃ v, f_X6_kinds_b21 n0 (nI A) ki gr m x (nI k) = some (v, gr) ∧ f_X7_kinds_b28 n0 (nI A) kr rr m' x (nI k) = some (v, 0, rr)
  | d, k, 0, _, _, _, q, _ => absurd q (by omega)
  | d, k, m + 1, 0, _, _, _, q => absurd q (by omega)
  | 0, k, m + 1, m' + 1, x, hk, _, _ => by
    refine ⟨x, ?_, ?_⟩
    · rw [f_X6_kinds_b21, dq_if_pos (nI_le (by omega) (by omega))]
    · rw [f_X7_kinds_b28, dq_if_pos (nI_le (by omega) (by omega))]
  | d + 1, k, m + 1, m' + 1, x, hk, h1, h2 => by
    have hkl : k < A := by omega
    have v5 : vp_in (nI k) 5 := vp_in_nI (by omega) (by omega)
    rw [f_X6_kinds_b21, f_X7_kinds_b28, dq_if_neg (nI_ge hkl (by omega)), dq_if_neg (nI_ge hkl (by omega)), dq_gd_pos v5, dq_gd_pos v5, nI_clamp (by omega), ← he k hkl]
    by_cases t : ki k = n0
    · rw [dq_if_pos t, dq_if_pos t]
      simp only [dq_let]
      rw [show nI k + (1 : Int32) = nI (k + 1) from nI_1 k]
      exact l_kinds hA he d (k + 1) m m' _ (by omega) (by omega) (by omega)
    · rw [dq_if_neg t, dq_if_neg t]
      simp only [dq_let]
      rw [show nI k + (1 : Int32) = nI (k + 1) from nI_1 k, show x + (0 : Int32) = x from Int32.add_zero x]
      exact l_kinds hA he d (k + 1) m m' _ (by omega) (by omega) (by omega)
def dR (a b : Nat) : Nat := if a / 6 ≤ b / 6 then b / 6 - a / 6 else a / 6 - b / 6
def dL (a b : Nat) : Nat := if a % 6 ≤ b % 6 then b % 6 - a % 6 else a % 6 - b % 6
theorem dist_dec : ∀ a b : Fin 36, f_X6_distance (nI a.val) (nI b.val) = some (nI (dR a.val b.val + dL a.val b.val)) := by
  unfold f_X6_distance
  simp only [dq_let]
  decide +kernel
theorem far_dec : ∀ a b : Fin 36, f_X7_far (nI b.val / 6) (nI a.val / 6) = some (nI (dR a.val b.val)) ∧ f_X7_far (nI b.val - nI b.val / 6 * 6) (nI a.val - nI a.val / 6 * 6) = some (nI (dL a.val b.val)) := by
  unfold f_X7_far
  simp only [dq_if_ite]
  decide +kernel
theorem dist_lt (a b : Nat) (ha : a < 36) (hb : b < 36) : dR a b + dL a b < 20 := by
  unfold dR dL
  split <;> split <;> omega
theorem l_nearest {A s : Nat} {n0 n1 : Int32} {ac ar se sr gr rr : Nat → Int32} {at0 : Nat → Nat} {sc : Nat} (hA : A ≤ 5) (hs : s < 6) (hn0 : n0 = nI s) (he : ∀ i, i < A → ac i = nI (at0 i) ∧ ar i = nI (at0 i) ∧ at0 i < 36) (h1 : se s = nI sc) (h2 : sr s = nI sc) (hsc : sc < 36) : ∀ (d k m m' : Nat) (x y : Int32), k + d = A → d < m → d < m' → ((x = -9 ∧ y = -9) ∨ ∃ i l, i < 5 ∧ l < 20 ∧ x = nI i ∧ y = nI l) → ∃ v, f_X6_nearest_b40 n0 n1 (nI A) ac se gr m x y (nI k) = some (v, gr) ∧ f_X7_nearest_b52 n0 n1 (nI A) ar sr rr m' x y (nI k) = some (v, 0, rr)
  | d, k, 0, _, _, _, _, q, _, _ => absurd q (by omega)
  | d, k, m + 1, 0, _, _, _, _, q, _ => absurd q (by omega)
  | 0, k, m + 1, m' + 1, x, y, hk, _, _, _ => by
    by_cases z : n1 = 0
    · refine ⟨x, ?_, ?_⟩
      · rw [f_X6_nearest_b40, dq_if_pos (nI_le (by omega) (by omega)), dq_if_pos z]
      · rw [f_X7_nearest_b52, dq_if_pos (nI_le (by omega) (by omega)), dq_if_pos z]
    · refine ⟨y, ?_, ?_⟩
      · rw [f_X6_nearest_b40, dq_if_pos (nI_le (by omega) (by omega)), dq_if_neg z]
      · rw [f_X7_nearest_b52, dq_if_pos (nI_le (by omega) (by omega)), dq_if_neg z]
  | d + 1, k, m + 1, m' + 1, x, y, hk, q1, q2, hxy => by
    have hkl : k < A := by omega
    have v5 : vp_in (nI k) 5 := vp_in_nI (by omega) (by omega)
    have v6 : vp_in n0 6 := by rw [hn0]; exact vp_in_nI (by omega) (by omega)
    have c0 : n0.toNatClampNeg = s := by rw [hn0]; exact nI_clamp (by omega)
    obtain ⟨e1, e2, e3⟩ := he k hkl
    have D := dist_dec ⟨sc, hsc⟩ ⟨at0 k, e3⟩
    obtain ⟨F1, F2⟩ := far_dec ⟨sc, hsc⟩ ⟨at0 k, e3⟩
    have dl := dist_lt sc (at0 k) hsc e3
    simp only at D F1 F2
    have fold := l_nearest (n1 := n1) (gr := gr) (rr := rr) hA hs hn0 he h1 h2 hsc d (k + 1) m m'
    rw [f_X6_nearest_b40, f_X7_nearest_b52, dq_if_neg (nI_ge hkl (by omega)), dq_if_neg (nI_ge hkl (by omega)), dq_gd_pos v6, dq_gd_pos v5, dq_gd_pos v5, dq_gd_pos v6, nI_clamp (show k < 2 ^ 31 by omega), c0, e1, e2, h1, h2, dq_bd_s D, dq_bd_s F1, dq_gd_pos v5, dq_gd_pos v6, dq_bd_s F2]
    simp only [dq_let]
    rw [show nI k + (1 : Int32) = nI (k + 1) from nI_1 k, nI_add]
    generalize hD : dR sc (at0 k) + dL sc (at0 k) = D0 at *
    unfold f_X7_nearest_b126
    simp only [dq_let]
    rw [show nI k + (1 : Int32) = nI (k + 1) from nI_1 k]
    rcases hxy with ⟨rfl, rfl⟩ | ⟨i, l, hi, hl, rfl, rfl⟩
    · rw [dq_if_pos rfl, dq_if_pos (show (-9 : Int32) < 0 by decide), dq_if_pos (show (-9 : Int32) < 0 by decide)]
      exact fold _ _ (by omega) (by omega) (by omega) (Or.inr ⟨k, D0, by omega, dl, rfl, rfl⟩)
    · rw [dq_if_neg (fun y => by
        have h1 := nI_toInt (n := i) (by omega)
        rw [y] at h1
        exact absurd h1 (by rw [show ((-9 : Int32)).toInt = -9 from rfl]; omega)), dq_if_neg (nI_pos (n := l) (by omega))]
      by_cases t : l ≤ D0
      · have t1 := nI_le t (show D0 < 2 ^ 31 by omega)
        rw [dq_if_pos t1, dq_if_pos t1, dq_if_neg (nI_pos (n := l) (by omega)), dq_if_pos t1]
        exact fold _ _ (by omega) (by omega) (by omega) (Or.inr ⟨i, l, hi, hl, rfl, rfl⟩)
      · have t1 := nI_ge (show D0 < l by omega) (by omega)
        rw [dq_if_neg t1, dq_if_neg t1, dq_if_neg (nI_pos (n := l) (by omega)), dq_if_neg t1]
        exact fold _ _ (by omega) (by omega) (by omega) (Or.inr ⟨k, D0, by omega, dl, rfl, rfl⟩)
theorem i2f_H0 {n : Nat} (h : n ≤ 100) : fH (FP.i2f (nI n)) := by
  have := i2f_H ⟨n + 100, by omega⟩
  rw [show nI (n + 100) - nI 100 = nI n by rw [pk_sub (by omega), Nat.add_sub_cancel]] at this
  exact this
theorem l_howCold {h : AH} {a1 n : Nat} {n0 n1 n2 : Int32} {fi fr gr rr : Nat → Int32} (hV : aV h) (ha : a1 < aA h) (hn0 : n0 = nI a1) (hn1 : n1 = nI n) (hn : n ≤ 99) (e1 : fi a1 = nI (aFg h a1)) (e2 : fr a1 = nI (aFg h a1)) : ∀ (d k m m' : Nat) (x : Int32), k + d = 8 → d < m → d < m' → ∃ v, f_X6_howCold_b56 n0 n1 n2 (nI (aTn h)) fi gr m x (nI k) = some (v, gr) ∧ f_X7_howCold_b61 n0 n1 n2 (nI (aTn h)) fr rr m' x (nI k) = some (v, 0, rr)
  | d, k, 0, _, _, _, q, _ => absurd q (by omega)
  | d, k, m + 1, 0, _, _, _, q => absurd q (by omega)
  | 0, k, m + 1, m' + 1, x, hk, _, _ => by
    refine ⟨x, ?_, ?_⟩
    · rw [f_X6_howCold_b56, show (8 : Int32) = nI 8 from rfl, dq_if_pos (nI_le (by omega) (by omega))]
    · rw [f_X7_howCold_b61, show (8 : Int32) = nI 8 from rfl, dq_if_pos (nI_le (by omega) (by omega))]
  | d + 1, k, m + 1, m' + 1, x, hk, h1, h2 => by
    have hkl : k < 8 := by omega
    have hA := hV.1.1
    have v5 : vp_in n0 5 := by rw [hn0]; exact vp_in_nI (by omega) (by omega)
    have c0 : n0.toNatClampNeg = a1 := by rw [hn0]; exact nI_clamp (by omega)
    have hf := (hV.2.1 a1 ha).2.1
    have ht : aTn h < 2 ^ 30 := by have := hV.1.2.2.2.1; omega
    have hw : fB 134 (FP.i2f n1) := by rw [hn1]; exact (i2f_H0 (by omega)).b
    rw [f_X6_howCold_b56, f_X7_howCold_b61, show (8 : Int32) = nI 8 from rfl, dq_if_neg (nI_ge hkl (by omega)), dq_if_neg (nI_ge hkl (by omega)), dq_gd_pos v5, dq_gd_pos v5, c0, e1, e2, dq_bd_s (chill_ok hw hkl hf ht).1, dq_bd_s (r_chilled hw hkl hf ht)]
    simp only [dq_let]
    rw [show nI k + (1 : Int32) = nI (k + 1) from nI_1 k, show x ||| (0 : Int32) = x by apply Int32.toBitVec_inj.mp; simp]
    by_cases t : FP.f2i (chillF k (aFg h a1) (aTn h) (FP.i2f n1)) = n2
    · rw [dq_if_pos t, dq_if_pos t]
      exact l_howCold hV ha hn0 hn1 hn e1 e2 d (k + 1) m m' _ (by omega) (by omega) (by omega)
    · rw [dq_if_neg t, dq_if_neg t]
      exact l_howCold hV ha hn0 hn1 hn e1 e2 d (k + 1) m m' _ (by omega) (by omega) (by omega)
theorem s_turns {s : S6} {t : S7} (a b : Nat → Nat) (R : Rel s t) (n0 : Int32) : Sim (F6_turns s n0) (F7_turns t b n0) := by
  refine Rel_o (C := fun s t => Sim (F6_turns s n0) (F7_turns t b n0)) R ?_
  intro H P pc pn I L T g_hasImage g_n_warmth g_n_kind g_n_figure g_n_airCell g_n_way g_n_seat g_n_shawls g_n_steps g_n_numbers g_m_shutBits g_m_airs g_m_crownedBits g_m_sitters g_m_onBits g_m_turn g_m_taken g_m_warmth g_m_kind g_m_figure g_m_airCell g_m_way g_m_seat g_m_shawls g_m_count g_m_steps g_m_numbers g_i_shutBits g_i_airs g_i_crownedBits g_i_sitters g_i_onBits g_i_turn g_i_taken g_i_warmth g_i_kind g_i_figure g_i_airCell g_i_way g_i_seat g_i_shawls g_i_count g_i_steps g_i_numbers g_text_letters g_coats_sorts g_coats_sizes g_places g_coats_carried g_told g_refused g_oneHas g_otherHas g_k_shutBits g_k_airs g_k_crownedBits g_k_sitters g_k_onBits g_k_turn g_k_taken g_k_warmth g_k_kind g_k_figure g_k_airCell g_k_way g_k_seat g_k_shawls g_k_count g_k_steps g_k_numbers r_thrown r_at0 r_isBad r_statements r_stepsMany r_hasImage r_place0 r_isTaking r_keptIn r_seed r_warms r_shutAt r_kinds0 r_figures r_airAt r_ways r_crowned r_sitsAt r_shawls r_isOn r_stepOf r_stepBy r_refusals r_letters r_placeIn r_letterOf r_numbers r_stepsRead r_stepsBy r_kept r_keptWarms r_i_imaged r_imagedWarms r_turns0 r_turnWarms0 r_turnOf r_turnWarms r_row0 r_gains r_pegSort r_pegMany r_pegHolds r_coats r_coatsMoved hE hF hg hpc hpn hK hQ hPg hI hL hT hTl hO hR hG
  show Sim (F6_turns _ n0) (F7_turns _ b n0)
  rw [F6_turns_b, F7_turns_b]
  refine sim_o ?_
  unfold f_X6_turns f_X7_turns f_X7_turns_b35
  have hV := hg.1
  obtain ⟨hA5, hS6, hH6, hT20, hK9⟩ := hV.1
  rcases wr_3 n0 1 60 (by omega) (by omega) with ⟨w1, w2⟩ | ⟨w1, w2, w3⟩ | ⟨n, hn1, hn, rfl, w1⟩
  · refine Okn w2 (Ok2 (c_refuse 4 (by omega) (by omega) _ (by decide)) (Okv ?_))
    refine Ok1 (r_wr w1) (Okn (by decide) (Okn (by decide) (Ok2 (r_refuse 4 (by omega) (by omega) _ (by decide)) (Okv ?_))))
    exact ⟨rfl, Rel_i H P pc pn I L T ⟨hE, hF, hg, rfl⟩ ⟨⟨hpc, hpn, rfl, rfl, rfl⟩, hK, hQ, hPg⟩ hI ⟨hL, rfl, rfl, hT⟩ ⟨hTl, rfl, rfl, hO⟩ (pRef_u hR) hG⟩
  · refine Okp w2 (Okp w3 (Ok2 (c_refuse 6 (by omega) (by omega) _ (by decide)) (Okv ?_)))
    refine Ok1 (r_wr w1) (Okn (by decide) (Okn (by decide) (Ok2 (r_refuse 6 (by omega) (by omega) _ (by decide)) (Okv ?_))))
    exact ⟨rfl, Rel_i H P pc pn I L T ⟨hE, hF, hg, rfl⟩ ⟨⟨hpc, hpn, rfl, rfl, rfl⟩, hK, hQ, hPg⟩ hI ⟨hL, rfl, rfl, hT⟩ ⟨hTl, rfl, rfl, hO⟩ (pRef_u hR) hG⟩
  · have h9 := hg.2.2
    by_cases t : aTn H + n ≤ 999
    · have t1 : nI (aTn H) + nI n ≤ (999 : Int32) := by rw [nI_add]; exact nI_le (b := 999) t (by omega)
      obtain ⟨_, _, _, _, _, _, _, _, _, _, _, _, _, _, _, _, _, k6, hK'⟩ := c_keep hV hE hpc hpn hK
      obtain ⟨_, _, _, _, _, _, _, _, _, _, _, _, _, _, _, _, k7, hF', hQ'⟩ := r_keepTurn (a := b) (tO := r_turnOf) (tW := r_turnWarms) hV hF (fun i hi => (hPg i hi).1) hpc hQ
      obtain ⟨cb', ob', tn', tk', wm', ac', wy', sl', g6, E'⟩ := c_goOn (n := n) (by omega) hV (by omega) hE
      obtain ⟨tn2, tk2, wm2, ac2, wy2, cr2, sl2, on2, g7, F'⟩ := r_go (n := n) (by omega) hV (by omega) hF'
      obtain ⟨V', -, -, t'⟩ := goS_V n hV (by omega)
      refine Okp (nI_le (a := 1) hn1 (by omega)) (Okn (nI_nlt (a := 60) hn (by omega)) (Okp t1 (Ok19 k6 (Ok8 g6 (Okv ?_)))))
      refine Ok1 (r_wr w1) (Okp rfl (Okp t1 (Okp (by decide) (Ok25 k7 (Ok8 g7 (Okv ?_))))))
      exact ⟨(E'.1.2.2.2.2.trans F'.1.2.2.2.2.symm), Rel_i (goS n H) (keepP pc H P) (min (pc + 1) 8) ((pn + 1) % 8) I L T ⟨E', F', ⟨V', aI_of (aJ_go n (aJ_of hV hg.2.1)), by omega⟩, rfl⟩ ⟨⟨by omega, Nat.mod_lt _ (by decide), rfl, rfl, rfl⟩, hK', hQ', keepP_G hg hPg⟩ hI ⟨hL, rfl, rfl, hT⟩ ⟨hTl, rfl, rfl, hO⟩ hR hG⟩
    · have t1 : ¬ nI (aTn H) + nI n ≤ (999 : Int32) := by rw [nI_add]; exact nI_ge (a := 999) (by omega) (by omega)
      refine Okp (nI_le (a := 1) hn1 (by omega)) (Okn (nI_nlt (a := 60) hn (by omega)) (Okn t1 (Ok2 (c_refuse 6 (by omega) (by omega) _ (by decide)) (Okv ?_))))
      refine Ok1 (r_wr w1) (Okp rfl (Okn t1 (Okn (by decide) (Ok2 (r_refuse 6 (by omega) (by omega) _ (by decide)) (Okv ?_)))))
      exact ⟨rfl, Rel_i H P pc pn I L T ⟨hE, hF, hg, rfl⟩ ⟨⟨hpc, hpn, rfl, rfl, rfl⟩, hK, hQ, hPg⟩ hI ⟨hL, rfl, rfl, hT⟩ ⟨hTl, rfl, rfl, hO⟩ (pRef_u hR) hG⟩
theorem s_back {s : S6} {t : S7} (a b : Nat → Nat) (R : Rel s t) : Sim (F6_back s) (F7_back t b) := by
  refine Rel_o (C := fun s t => Sim (F6_back s) (F7_back t b)) R ?_
  intro H P pc pn I L T g_hasImage g_n_warmth g_n_kind g_n_figure g_n_airCell g_n_way g_n_seat g_n_shawls g_n_steps g_n_numbers g_m_shutBits g_m_airs g_m_crownedBits g_m_sitters g_m_onBits g_m_turn g_m_taken g_m_warmth g_m_kind g_m_figure g_m_airCell g_m_way g_m_seat g_m_shawls g_m_count g_m_steps g_m_numbers g_i_shutBits g_i_airs g_i_crownedBits g_i_sitters g_i_onBits g_i_turn g_i_taken g_i_warmth g_i_kind g_i_figure g_i_airCell g_i_way g_i_seat g_i_shawls g_i_count g_i_steps g_i_numbers g_text_letters g_coats_sorts g_coats_sizes g_places g_coats_carried g_told g_refused g_oneHas g_otherHas g_k_shutBits g_k_airs g_k_crownedBits g_k_sitters g_k_onBits g_k_turn g_k_taken g_k_warmth g_k_kind g_k_figure g_k_airCell g_k_way g_k_seat g_k_shawls g_k_count g_k_steps g_k_numbers r_thrown r_at0 r_isBad r_statements r_stepsMany r_hasImage r_place0 r_isTaking r_keptIn r_seed r_warms r_shutAt r_kinds0 r_figures r_airAt r_ways r_crowned r_sitsAt r_shawls r_isOn r_stepOf r_stepBy r_refusals r_letters r_placeIn r_letterOf r_numbers r_stepsRead r_stepsBy r_kept r_keptWarms r_i_imaged r_imagedWarms r_turns0 r_turnWarms0 r_turnOf r_turnWarms r_row0 r_gains r_pegSort r_pegMany r_pegHolds r_coats r_coatsMoved hE hF hg hpc hpn hK hQ hPg hI hL hT hTl hO hR hG
  show Sim (F6_back _) (F7_back _ b)
  rw [F6_back_b, F7_back_b]
  refine sim_o ?_
  unfold f_X6_back f_X7_back
  have hV := hg.1
  obtain ⟨hA5, hS6, hH6, hT20, hK9⟩ := hV.1
  by_cases t : pc = 0
  · refine Okp (by rw [t, nI_0]) (Ok2 (c_refuse 3 (by omega) (by omega) _ (by decide)) (Okv ?_))
    refine Okp (by rw [t, nI_0]) (Ok2 (r_refuse 3 (by omega) (by omega) _ (by decide)) (Okv ?_))
    exact ⟨rfl, Rel_i H P pc pn I L T ⟨hE, hF, hg, rfl⟩ ⟨⟨hpc, hpn, rfl, rfl, rfl⟩, hK, hQ, hPg⟩ hI ⟨hL, rfl, rfl, hT⟩ ⟨hTl, rfl, rfl, hO⟩ (pRef_u hR) hG⟩
  · obtain ⟨sb', ai', cb', si', ob', tn', tk', hc', wm', ki', fi', ac', wy', se', sl', hs', hn', g6, E', K'⟩ := c_giveBack (wm0 := g_n_warmth) (ki0 := g_n_kind) (fi0 := g_n_figure) (ac0 := g_n_airCell) (wy0 := g_n_way) (se0 := g_n_seat) (sl0 := g_n_shawls) (hs0 := g_n_steps) (hn0 := g_n_numbers) (fun i hi => (hPg i hi).1) hpc (by omega) hpn hK
    have hp := hPg (pc - 1) (by omega)
    obtain ⟨a2, s2, c2, n2, k2, wm2, sh2, ki2, fi2, ac2, wy2, cr2, se2, sl2, on2, hs2, hn2, tO2, tW2, g7, F'⟩ := r_backT (a := b) (ai := nI (aA H)) (si := nI (aS H)) (hc := nI (aHc H)) (tn := nI (aTn H)) (tk := nI (aTk H)) (wm := r_warms) (sh := r_shutAt) (ki := r_kinds0) (fi := r_figures) (ac := r_airAt) (wy := r_ways) (cr := r_crowned) (se := r_sitsAt) (sl := r_shawls) (on := r_isOn) (hs := r_stepOf) (hn := r_stepBy) (re := r_refusals) (tO := r_turnOf) (tW := r_turnWarms) (t0 := r_turns0) (w0 := r_turnWarms0) hp.1 (pc := pc - 1) (by omega) (hQ (pc - 1) (by omega)) 96 0 4096 r_turnOf (by omega) (by omega) (fun j hj => by rw [if_neg (by omega)])
    have e1 : nI pc - (1 : Int32) = nI (pc - 1) := by rw [show (1 : Int32) = nI 1 from rfl, pk_sub (by omega)]
    refine Okn (nI_ne0 (by omega) (by omega)) (Ok19 g6 (Okv ?_))
    rw [e1]
    refine Okn (nI_ne0 (by omega) (by omega)) (Okl (Oke g7 ?_))
    exact ⟨rfl, Rel_i (P (pc - 1)) P (pc - 1) ((pn + 7) % 8) I L T ⟨E', F', hp, rfl⟩ ⟨⟨by omega, Nat.mod_lt _ (by decide), rfl, rfl, rfl⟩, K', fun i hi => hQ i (by omega), fun i hi => hPg i (by omega)⟩ hI ⟨hL, rfl, rfl, hT⟩ ⟨hTl, rfl, rfl, hO⟩ hR hG⟩
theorem s_image {s : S6} {t : S7} (a b : Nat → Nat) (R : Rel s t) : Sim (F6_image s) (F7_image t b) := by
  refine Rel_o (C := fun s t => Sim (F6_image s) (F7_image t b)) R ?_
  intro H P pc pn I L T g_hasImage g_n_warmth g_n_kind g_n_figure g_n_airCell g_n_way g_n_seat g_n_shawls g_n_steps g_n_numbers g_m_shutBits g_m_airs g_m_crownedBits g_m_sitters g_m_onBits g_m_turn g_m_taken g_m_warmth g_m_kind g_m_figure g_m_airCell g_m_way g_m_seat g_m_shawls g_m_count g_m_steps g_m_numbers g_i_shutBits g_i_airs g_i_crownedBits g_i_sitters g_i_onBits g_i_turn g_i_taken g_i_warmth g_i_kind g_i_figure g_i_airCell g_i_way g_i_seat g_i_shawls g_i_count g_i_steps g_i_numbers g_text_letters g_coats_sorts g_coats_sizes g_places g_coats_carried g_told g_refused g_oneHas g_otherHas g_k_shutBits g_k_airs g_k_crownedBits g_k_sitters g_k_onBits g_k_turn g_k_taken g_k_warmth g_k_kind g_k_figure g_k_airCell g_k_way g_k_seat g_k_shawls g_k_count g_k_steps g_k_numbers r_thrown r_at0 r_isBad r_statements r_stepsMany r_hasImage r_place0 r_isTaking r_keptIn r_seed r_warms r_shutAt r_kinds0 r_figures r_airAt r_ways r_crowned r_sitsAt r_shawls r_isOn r_stepOf r_stepBy r_refusals r_letters r_placeIn r_letterOf r_numbers r_stepsRead r_stepsBy r_kept r_keptWarms r_i_imaged r_imagedWarms r_turns0 r_turnWarms0 r_turnOf r_turnWarms r_row0 r_gains r_pegSort r_pegMany r_pegHolds r_coats r_coatsMoved hE hF hg hpc hpn hK hQ hPg hI hL hT hTl hO hR hG
  show Sim (F6_image _) (F7_image _ b)
  rw [F6_image_b, F7_image_b]
  refine sim_o ?_
  unfold f_X6_image f_X7_image
  have hV := hg.1
  obtain ⟨hA5, hS6, hH6, hT20, hK9⟩ := hV.1
  obtain ⟨wm', ki', fi', ac', wy', se', sl', hs', hn', g6, E'⟩ := c_take hV hE g_i_warmth g_i_kind g_i_figure g_i_airCell g_i_way g_i_seat g_i_shawls g_i_steps g_i_numbers
  obtain ⟨wm2, sh2, ki2, fi2, ac2, wy2, cr2, se2, sl2, on2, hs2, hn2, q2, qw2, g7, F', Q'⟩ := r_takes (q0 := b 22) (q := r_i_imaged) (qw := r_imagedWarms) hV hF
  refine Ok17 g6 (Okv ?_)
  refine Ok22 g7 (Okv ?_)
  exact ⟨rfl, Rel_i H P pc pn H L T ⟨hE, F', hg, rfl⟩ ⟨⟨hpc, hpn, rfl, rfl, rfl⟩, hK, hQ, hPg⟩ (Or.inr ⟨rfl, rfl, E', Q', hg⟩) ⟨hL, rfl, rfl, hT⟩ ⟨hTl, rfl, rfl, hO⟩ hR hG⟩
theorem s_restore {s : S6} {t : S7} (a b : Nat → Nat) (R : Rel s t) : Sim (F6_restore s) (F7_restore t b) := by
  refine Rel_o (C := fun s t => Sim (F6_restore s) (F7_restore t b)) R ?_
  intro H P pc pn I L T g_hasImage g_n_warmth g_n_kind g_n_figure g_n_airCell g_n_way g_n_seat g_n_shawls g_n_steps g_n_numbers g_m_shutBits g_m_airs g_m_crownedBits g_m_sitters g_m_onBits g_m_turn g_m_taken g_m_warmth g_m_kind g_m_figure g_m_airCell g_m_way g_m_seat g_m_shawls g_m_count g_m_steps g_m_numbers g_i_shutBits g_i_airs g_i_crownedBits g_i_sitters g_i_onBits g_i_turn g_i_taken g_i_warmth g_i_kind g_i_figure g_i_airCell g_i_way g_i_seat g_i_shawls g_i_count g_i_steps g_i_numbers g_text_letters g_coats_sorts g_coats_sizes g_places g_coats_carried g_told g_refused g_oneHas g_otherHas g_k_shutBits g_k_airs g_k_crownedBits g_k_sitters g_k_onBits g_k_turn g_k_taken g_k_warmth g_k_kind g_k_figure g_k_airCell g_k_way g_k_seat g_k_shawls g_k_count g_k_steps g_k_numbers r_thrown r_at0 r_isBad r_statements r_stepsMany r_hasImage r_place0 r_isTaking r_keptIn r_seed r_warms r_shutAt r_kinds0 r_figures r_airAt r_ways r_crowned r_sitsAt r_shawls r_isOn r_stepOf r_stepBy r_refusals r_letters r_placeIn r_letterOf r_numbers r_stepsRead r_stepsBy r_kept r_keptWarms r_i_imaged r_imagedWarms r_turns0 r_turnWarms0 r_turnOf r_turnWarms r_row0 r_gains r_pegSort r_pegMany r_pegHolds r_coats r_coatsMoved hE hF hg hpc hpn hK hQ hPg hI hL hT hTl hO hR hG
  show Sim (F6_restore _) (F7_restore _ b)
  rw [F6_restore_b, F7_restore_b]
  refine sim_o ?_
  unfold f_X6_restore f_X7_restore
  have hV := hg.1
  obtain ⟨hA5, hS6, hH6, hT20, hK9⟩ := hV.1
  have hI0 := hI
  rcases hI with ⟨i1, i2⟩ | ⟨i1, i2, i3, i4, i5⟩
  · refine Okp i1 (Ok2 (c_refuse 3 (by omega) (by omega) _ (by decide)) (Okv ?_))
    refine Okp i2 (Ok2 (r_refuse 3 (by omega) (by omega) _ (by decide)) (Okv ?_))
    exact ⟨rfl, Rel_i H P pc pn I L T ⟨hE, hF, hg, rfl⟩ ⟨⟨hpc, hpn, rfl, rfl, rfl⟩, hK, hQ, hPg⟩ hI0 ⟨hL, rfl, rfl, hT⟩ ⟨hTl, rfl, rfl, hO⟩ (pRef_u hR) hG⟩
  · obtain ⟨wm', ki', fi', ac', wy', se', sl', hs', hn', g6, E'⟩ := c_take i5.1 i3 g_n_warmth g_n_kind g_n_figure g_n_airCell g_n_way g_n_seat g_n_shawls g_n_steps g_n_numbers
    obtain ⟨wm2, sh2, ki2, fi2, ac2, wy2, cr2, se2, sl2, on2, hs2, hn2, q2, qw2, g7, F', Q'⟩ := r_gives (q0 := b 22) (ai := nI (aA H)) (si := nI (aS H)) (hc := nI (aHc H)) (tn := nI (aTn H)) (tk := nI (aTk H)) (wm := r_warms) (sh := r_shutAt) (ki := r_kinds0) (fi := r_figures) (ac := r_airAt) (wy := r_ways) (cr := r_crowned) (se := r_sitsAt) (sl := r_shawls) (on := r_isOn) (hs := r_stepOf) (hn := r_stepBy) i5.1 i4
    refine Okn (by rw [i1]; decide) (Ok17 g6 (Ok1 rfl (Okv ?_)))
    refine Okn (by rw [i2]; decide) (Ok22 g7 (Okv ?_))
    exact ⟨(i3.1.2.2.2.1.trans i4.1.2.2.2.1.symm), Rel_i I P 0 pn I L T ⟨E', F', i5, rfl⟩ ⟨⟨by omega, hpn, rfl, rfl, rfl⟩, fun i z hi => absurd hi (by omega), fun i hi => absurd hi (by omega), fun i hi => absurd hi (by omega)⟩ (Or.inr ⟨i1, i2, i3, Q', i5⟩) ⟨hL, rfl, rfl, hT⟩ ⟨hTl, rfl, rfl, hO⟩ hR hG⟩
theorem s_comes {s : S6} {t : S7} (a b : Nat → Nat) (R : Rel s t) (n0 : Int32) (n1 : Int32) (n2 : Int32) : Sim (F6_comes s n0 n1 n2) (F7_comes t n0 n1 n2) := by
  refine Rel_o (C := fun s t => Sim (F6_comes s n0 n1 n2) (F7_comes t n0 n1 n2)) R ?_
  intro H P pc pn I L T g_hasImage g_n_warmth g_n_kind g_n_figure g_n_airCell g_n_way g_n_seat g_n_shawls g_n_steps g_n_numbers g_m_shutBits g_m_airs g_m_crownedBits g_m_sitters g_m_onBits g_m_turn g_m_taken g_m_warmth g_m_kind g_m_figure g_m_airCell g_m_way g_m_seat g_m_shawls g_m_count g_m_steps g_m_numbers g_i_shutBits g_i_airs g_i_crownedBits g_i_sitters g_i_onBits g_i_turn g_i_taken g_i_warmth g_i_kind g_i_figure g_i_airCell g_i_way g_i_seat g_i_shawls g_i_count g_i_steps g_i_numbers g_text_letters g_coats_sorts g_coats_sizes g_places g_coats_carried g_told g_refused g_oneHas g_otherHas g_k_shutBits g_k_airs g_k_crownedBits g_k_sitters g_k_onBits g_k_turn g_k_taken g_k_warmth g_k_kind g_k_figure g_k_airCell g_k_way g_k_seat g_k_shawls g_k_count g_k_steps g_k_numbers r_thrown r_at0 r_isBad r_statements r_stepsMany r_hasImage r_place0 r_isTaking r_keptIn r_seed r_warms r_shutAt r_kinds0 r_figures r_airAt r_ways r_crowned r_sitsAt r_shawls r_isOn r_stepOf r_stepBy r_refusals r_letters r_placeIn r_letterOf r_numbers r_stepsRead r_stepsBy r_kept r_keptWarms r_i_imaged r_imagedWarms r_turns0 r_turnWarms0 r_turnOf r_turnWarms r_row0 r_gains r_pegSort r_pegMany r_pegHolds r_coats r_coatsMoved hE hF hg hpc hpn hK hQ hPg hI hL hT hTl hO hR hG
  show Sim (F6_comes _ n0 n1 n2) (F7_comes _ n0 n1 n2)
  rw [F6_comes_b, F7_comes_b]
  refine sim_o ?_
  unfold f_X6_comes f_X7_comes f_X7_comes_b42 f_X7_comes_b73
  have hV := hg.1
  obtain ⟨hA5, hS6, hH6, hT20, hK9⟩ := hV.1
  by_cases q : ixB n0 8 = true
  · obtain ⟨kd, hk, rfl⟩ := ixB_t q
    have a0 : ¬ nI kd < 0 := nI_pos (by omega)
    have a1 : nI kd < 8 := nI_lt (b := 8) hk (by omega)
    rcases wr_3 n1 0 9 (by omega) (by omega) with ⟨w1, w2⟩ | ⟨w1, w2, w3⟩ | ⟨f, -, hf, rfl, w1⟩
    · refine Okn a0 (Okp a1 (Okn w2 (Ok2 (c_refuse 4 (by omega) (by omega) _ (by decide)) (Okv ?_))))
      refine Okt (in_ix 8 (by decide)) q (Okp (Int32.not_le.mp w2) (Okn w2 (Ok2 (r_refuse 4 (by omega) (by omega) _ (by decide)) (Okv ?_))))
      exact ⟨rfl, Rel_i H P pc pn I L T ⟨hE, hF, hg, rfl⟩ ⟨⟨hpc, hpn, rfl, rfl, rfl⟩, hK, hQ, hPg⟩ hI ⟨hL, rfl, rfl, hT⟩ ⟨hTl, rfl, rfl, hO⟩ (pRef_u hR) hG⟩
    · refine Okn a0 (Okp a1 (Okp w2 (Okp w3 (Ok2 (c_refuse 6 (by omega) (by omega) _ (by decide)) (Okv ?_)))))
      refine Okt (in_ix 8 (by decide)) q (Okn (Int32.not_lt.mpr w2) (Okp w3 (Okp w2 (Ok2 (r_refuse 6 (by omega) (by omega) _ (by decide)) (Okv ?_)))))
      exact ⟨rfl, Rel_i H P pc pn I L T ⟨hE, hF, hg, rfl⟩ ⟨⟨hpc, hpn, rfl, rfl, rfl⟩, hK, hQ, hPg⟩ hI ⟨hL, rfl, rfl, hT⟩ ⟨hTl, rfl, rfl, hO⟩ (pRef_u hR) hG⟩
    · have b0 : ¬ nI f < 0 := nI_pos (by omega)
      have b1 : (0 : Int32) ≤ nI f := nI_pos' (by omega)
      have b2 : ¬ (9 : Int32) < nI f := nI_nlt (b := f) (a := 9) (by omega) (by omega)
      by_cases h5 : aA H < 5
      · have d1 : nI (aA H) < (5 : Int32) := nI_lt (b := 5) h5 (by omega)
        have d2 : ¬ nI (aA H) = (5 : Int32) := fun z => absurd ((nI_eq (b := 5) (by omega) (by omega)).mp z) (by omega)
        by_cases q2 : ixB n2 36 = true
        · obtain ⟨c, hc, rfl⟩ := ixB_t q2
          by_cases t : freeS H c = true
          · obtain ⟨ai', ki', fi', ac', wy', g6, E'⟩ := c_addAir hV hE (kd := kd) (fg := f) (w := 0) hc
            rw [if_pos ⟨h5, t⟩] at g6
            rw [if_pos ⟨h5, t⟩] at E'
            have g7 := r_addAir hV hF (kd := kd) (fg := f) (c := c) (w := 0) hk hc (by omega) h5 t
            refine Okn a0 (Okp a1 (Okp b1 (Okn b2 (Okp d1 (Okt (c_isCell _) q2 (Ok6 g6 (Okn (by decide) (Ok1 rfl (Okv ?_)))))))))
            refine Okt (in_ix 8 (by decide)) q (Okn b0 (Okn b2 (Okn d2 (Okt (r_isCell _) q2 (Okt (r_isFree hV hF hc) t (Ok7 g7 (Okv ?_)))))))
            exact ⟨(by show ai' - 1 = nI (aA H + 1) - 1; rw [E'.1.1]; rfl), Rel_i (addAirS H kd f c 0) P 0 pn I L T ⟨E', addAir_R hF, ⟨addAirS_V hV h5 hk hf hc (by omega), aI_of (aJ_addAir (aJ_of hV hg.2.1) (free_sd t)), hg.2.2⟩, rfl⟩ ⟨⟨by omega, hpn, rfl, rfl, rfl⟩, fun i z hi => absurd hi (by omega), fun i hi => absurd hi (by omega), fun i hi => absurd hi (by omega)⟩ hI ⟨hL, rfl, rfl, hT⟩ ⟨hTl, rfl, rfl, hO⟩ hR hG⟩
          · obtain ⟨ai', ki', fi', ac', wy', g6, E'⟩ := c_addAir hV hE (kd := kd) (fg := f) (w := 0) hc
            rw [if_neg (fun z => t z.2)] at g6
            rw [if_neg (fun z => t z.2)] at E'
            refine Okn a0 (Okp a1 (Okp b1 (Okn b2 (Okp d1 (Okt (c_isCell _) q2 (Ok6 g6 (Okp rfl (Ok2 (c_refuse 3 (by omega) (by omega) _ (by decide)) (Okv ?_)))))))))
            refine Okt (in_ix 8 (by decide)) q (Okn b0 (Okn b2 (Okn d2 (Okt (r_isCell _) q2 (Okf (r_isFree hV hF hc) t (Okt (r_isCell _) q2 (Ok2 (r_refuse 3 (by omega) (by omega) _ (by decide)) (Okv ?_))))))))
            exact ⟨rfl, Rel_i H P pc pn I L T ⟨E', hF, hg, rfl⟩ ⟨⟨hpc, hpn, rfl, rfl, rfl⟩, hK, hQ, hPg⟩ hI ⟨hL, rfl, rfl, hT⟩ ⟨hTl, rfl, rfl, hO⟩ (pRef_u hR) hG⟩
        · refine Okn a0 (Okp a1 (Okp b1 (Okn b2 (Okp d1 (Okf (c_isCell _) q2 (Ok2 (c_refuse 1 (by omega) (by omega) _ (by decide)) (Okv ?_)))))))
          refine Okt (in_ix 8 (by decide)) q (Okn b0 (Okn b2 (Okn d2 (Okf (r_isCell _) q2 (Okf (r_isCell _) q2 (Ok2 (r_refuse 1 (by omega) (by omega) _ (by decide)) (Okv ?_)))))))
          exact ⟨rfl, Rel_i H P pc pn I L T ⟨hE, hF, hg, rfl⟩ ⟨⟨hpc, hpn, rfl, rfl, rfl⟩, hK, hQ, hPg⟩ hI ⟨hL, rfl, rfl, hT⟩ ⟨hTl, rfl, rfl, hO⟩ (pRef_u hR) hG⟩
      · have d1 : ¬ nI (aA H) < (5 : Int32) := nI_nlt (b := 5) (by omega) (by omega)
        have d2 : nI (aA H) = (5 : Int32) := by rw [show aA H = 5 by omega]; rfl
        refine Okn a0 (Okp a1 (Okp b1 (Okn b2 (Okn d1 (Ok2 (c_refuse 6 (by omega) (by omega) _ (by decide)) (Okv ?_))))))
        refine Okt (in_ix 8 (by decide)) q (Okn b0 (Okn b2 (Okp d2 (Okp b1 (Ok2 (r_refuse 6 (by omega) (by omega) _ (by decide)) (Okv ?_))))))
        exact ⟨rfl, Rel_i H P pc pn I L T ⟨hE, hF, hg, rfl⟩ ⟨⟨hpc, hpn, rfl, rfl, rfl⟩, hK, hQ, hPg⟩ hI ⟨hL, rfl, rfl, hT⟩ ⟨hTl, rfl, rfl, hO⟩ (pRef_u hR) hG⟩
  · rcases ix2 (by omega) q with w | ⟨w, w2⟩
    · refine Okp w (Ok2 (c_refuse 2 (by omega) (by omega) _ (by decide)) (Okv ?_))
      refine Okf (in_ix 8 (by decide)) q (Ok2 (r_refuse 2 (by omega) (by omega) _ (by decide)) (Okv ?_))
      exact ⟨rfl, Rel_i H P pc pn I L T ⟨hE, hF, hg, rfl⟩ ⟨⟨hpc, hpn, rfl, rfl, rfl⟩, hK, hQ, hPg⟩ hI ⟨hL, rfl, rfl, hT⟩ ⟨hTl, rfl, rfl, hO⟩ (pRef_u hR) hG⟩
    · refine Okn w (Okn (Int32.not_lt.mpr w2) (Ok2 (c_refuse 2 (by omega) (by omega) _ (by decide)) (Okv ?_)))
      refine Okf (in_ix 8 (by decide)) q (Ok2 (r_refuse 2 (by omega) (by omega) _ (by decide)) (Okv ?_))
      exact ⟨rfl, Rel_i H P pc pn I L T ⟨hE, hF, hg, rfl⟩ ⟨⟨hpc, hpn, rfl, rfl, rfl⟩, hK, hQ, hPg⟩ hI ⟨hL, rfl, rfl, hT⟩ ⟨hTl, rfl, rfl, hO⟩ (pRef_u hR) hG⟩
theorem s_sitsDown {s : S6} {t : S7} (a b : Nat → Nat) (R : Rel s t) (n0 : Int32) : Sim (F6_sitsDown s n0) (F7_sitsDown t n0) := by
  refine Rel_o (C := fun s t => Sim (F6_sitsDown s n0) (F7_sitsDown t n0)) R ?_
  intro H P pc pn I L T g_hasImage g_n_warmth g_n_kind g_n_figure g_n_airCell g_n_way g_n_seat g_n_shawls g_n_steps g_n_numbers g_m_shutBits g_m_airs g_m_crownedBits g_m_sitters g_m_onBits g_m_turn g_m_taken g_m_warmth g_m_kind g_m_figure g_m_airCell g_m_way g_m_seat g_m_shawls g_m_count g_m_steps g_m_numbers g_i_shutBits g_i_airs g_i_crownedBits g_i_sitters g_i_onBits g_i_turn g_i_taken g_i_warmth g_i_kind g_i_figure g_i_airCell g_i_way g_i_seat g_i_shawls g_i_count g_i_steps g_i_numbers g_text_letters g_coats_sorts g_coats_sizes g_places g_coats_carried g_told g_refused g_oneHas g_otherHas g_k_shutBits g_k_airs g_k_crownedBits g_k_sitters g_k_onBits g_k_turn g_k_taken g_k_warmth g_k_kind g_k_figure g_k_airCell g_k_way g_k_seat g_k_shawls g_k_count g_k_steps g_k_numbers r_thrown r_at0 r_isBad r_statements r_stepsMany r_hasImage r_place0 r_isTaking r_keptIn r_seed r_warms r_shutAt r_kinds0 r_figures r_airAt r_ways r_crowned r_sitsAt r_shawls r_isOn r_stepOf r_stepBy r_refusals r_letters r_placeIn r_letterOf r_numbers r_stepsRead r_stepsBy r_kept r_keptWarms r_i_imaged r_imagedWarms r_turns0 r_turnWarms0 r_turnOf r_turnWarms r_row0 r_gains r_pegSort r_pegMany r_pegHolds r_coats r_coatsMoved hE hF hg hpc hpn hK hQ hPg hI hL hT hTl hO hR hG
  show Sim (F6_sitsDown _ n0) (F7_sitsDown _ n0)
  rw [F6_sitsDown_b, F7_sitsDown_b]
  refine sim_o ?_
  unfold f_X6_sitsDown f_X7_sitsDown f_X7_sitsDown_b35
  have hV := hg.1
  obtain ⟨hA5, hS6, hH6, hT20, hK9⟩ := hV.1
  by_cases q2 : ixB n0 36 = true
  · obtain ⟨c, hc, rfl⟩ := ixB_t q2
    by_cases h6 : aS H < 6
    · have d1 : nI (aS H) < (6 : Int32) := nI_lt (b := 6) h6 (by omega)
      have d2 : ¬ nI (aS H) = (6 : Int32) := fun z => absurd ((nI_eq (b := 6) (by omega) (by omega)).mp z) (by omega)
      obtain ⟨si', ob', se', sl', g6, E'⟩ := c_addSitter hV hE (n := 0) hc
      by_cases t : freeS H c = true
      · rw [if_pos ⟨h6, t⟩] at g6
        rw [if_pos ⟨h6, t⟩] at E'
        have g7 := r_addSit hV hF (c := c) (n := 0) hc h6 t
        refine Okt (c_isCell _) q2 (Okp d1 (Ok5 g6 (Okn (by decide) (Ok1 rfl (Okv ?_)))))
        refine Okt (r_isCell _) q2 (Okn d2 (Okt (r_isFree hV hF hc) t (Ok5 g7 (Okv ?_))))
        exact ⟨(by show si' - 1 = nI (aS H + 1) - 1; rw [E'.1.2.1]; rfl), Rel_i (addSitS H c 0) P 0 pn I L T ⟨E', addSit_R hF, ⟨addSitS_V hV h6 hc (by omega), aI_of (aJ_addSit (aJ_of hV hg.2.1) (free_sd t)), hg.2.2⟩, rfl⟩ ⟨⟨by omega, hpn, rfl, rfl, rfl⟩, fun i z hi => absurd hi (by omega), fun i hi => absurd hi (by omega), fun i hi => absurd hi (by omega)⟩ hI ⟨hL, rfl, rfl, hT⟩ ⟨hTl, rfl, rfl, hO⟩ hR hG⟩
      · rw [if_neg (fun z => t z.2)] at g6
        rw [if_neg (fun z => t z.2)] at E'
        refine Okt (c_isCell _) q2 (Okp d1 (Ok5 g6 (Okp rfl (Ok2 (c_refuse 3 (by omega) (by omega) _ (by decide)) (Okv ?_)))))
        refine Okt (r_isCell _) q2 (Okn d2 (Okf (r_isFree hV hF hc) t (Okn d2 (Ok2 (r_refuse 3 (by omega) (by omega) _ (by decide)) (Okv ?_)))))
        exact ⟨rfl, Rel_i H P pc pn I L T ⟨E', hF, hg, rfl⟩ ⟨⟨hpc, hpn, rfl, rfl, rfl⟩, hK, hQ, hPg⟩ hI ⟨hL, rfl, rfl, hT⟩ ⟨hTl, rfl, rfl, hO⟩ (pRef_u hR) hG⟩
    · have d1 : ¬ nI (aS H) < (6 : Int32) := nI_nlt (b := 6) (by omega) (by omega)
      have d2 : nI (aS H) = (6 : Int32) := by rw [show aS H = 6 by omega]; rfl
      refine Okt (c_isCell _) q2 (Okn d1 (Ok2 (c_refuse 6 (by omega) (by omega) _ (by decide)) (Okv ?_)))
      refine Okt (r_isCell _) q2 (Okp d2 (Okp d2 (Ok2 (r_refuse 6 (by omega) (by omega) _ (by decide)) (Okv ?_))))
      exact ⟨rfl, Rel_i H P pc pn I L T ⟨hE, hF, hg, rfl⟩ ⟨⟨hpc, hpn, rfl, rfl, rfl⟩, hK, hQ, hPg⟩ hI ⟨hL, rfl, rfl, hT⟩ ⟨hTl, rfl, rfl, hO⟩ (pRef_u hR) hG⟩
  · refine Okf (c_isCell _) q2 (Ok2 (c_refuse 1 (by omega) (by omega) _ (by decide)) (Okv ?_))
    refine Okf (r_isCell _) q2 (Ok2 (r_refuse 1 (by omega) (by omega) _ (by decide)) (Okv ?_))
    exact ⟨rfl, Rel_i H P pc pn I L T ⟨hE, hF, hg, rfl⟩ ⟨⟨hpc, hpn, rfl, rfl, rfl⟩, hK, hQ, hPg⟩ hI ⟨hL, rfl, rfl, hT⟩ ⟨hTl, rfl, rfl, hO⟩ (pRef_u hR) hG⟩
theorem s_row {s : S6} {t : S7} (a b : Nat → Nat) (R : Rel s t) (n0 : Int32) : Sim (F6_row s n0) (F7_row t n0) := by
  refine Rel_o (C := fun s t => Sim (F6_row s n0) (F7_row t n0)) R ?_
  intro H P pc pn I L T g_hasImage g_n_warmth g_n_kind g_n_figure g_n_airCell g_n_way g_n_seat g_n_shawls g_n_steps g_n_numbers g_m_shutBits g_m_airs g_m_crownedBits g_m_sitters g_m_onBits g_m_turn g_m_taken g_m_warmth g_m_kind g_m_figure g_m_airCell g_m_way g_m_seat g_m_shawls g_m_count g_m_steps g_m_numbers g_i_shutBits g_i_airs g_i_crownedBits g_i_sitters g_i_onBits g_i_turn g_i_taken g_i_warmth g_i_kind g_i_figure g_i_airCell g_i_way g_i_seat g_i_shawls g_i_count g_i_steps g_i_numbers g_text_letters g_coats_sorts g_coats_sizes g_places g_coats_carried g_told g_refused g_oneHas g_otherHas g_k_shutBits g_k_airs g_k_crownedBits g_k_sitters g_k_onBits g_k_turn g_k_taken g_k_warmth g_k_kind g_k_figure g_k_airCell g_k_way g_k_seat g_k_shawls g_k_count g_k_steps g_k_numbers r_thrown r_at0 r_isBad r_statements r_stepsMany r_hasImage r_place0 r_isTaking r_keptIn r_seed r_warms r_shutAt r_kinds0 r_figures r_airAt r_ways r_crowned r_sitsAt r_shawls r_isOn r_stepOf r_stepBy r_refusals r_letters r_placeIn r_letterOf r_numbers r_stepsRead r_stepsBy r_kept r_keptWarms r_i_imaged r_imagedWarms r_turns0 r_turnWarms0 r_turnOf r_turnWarms r_row0 r_gains r_pegSort r_pegMany r_pegHolds r_coats r_coatsMoved hE hF hg hpc hpn hK hQ hPg hI hL hT hTl hO hR hG
  show Sim (F6_row _ n0) (F7_row _ n0)
  rw [F6_row_b, F7_row_b]
  refine sim_o ?_
  unfold f_X6_row f_X7_row f_X7_row_b32
  have hV := hg.1
  rcases wr_3 n0 0 99 (by omega) (by omega) with ⟨w1, w2⟩ | ⟨w1, w2, w3⟩ | ⟨n, -, hn, rfl, w1⟩
  · refine Okn w2 (Ok2 (c_refuse 4 (by omega) (by omega) _ (by decide)) (Okv ?_))
    refine Ok1 (r_wr w1) (Okn (by decide) (Okn (by decide) (Ok2 (r_refuse 4 (by omega) (by omega) _ (by decide)) (Okv ?_))))
    exact ⟨rfl, Rel_i H P pc pn I L T ⟨hE, hF, hg, rfl⟩ ⟨⟨hpc, hpn, rfl, rfl, rfl⟩, hK, hQ, hPg⟩ hI ⟨hL, rfl, rfl, hT⟩ ⟨hTl, rfl, rfl, hO⟩ (pRef_u hR) hG⟩
  · refine Okp w2 (Okp w3 (Ok2 (c_refuse 6 (by omega) (by omega) _ (by decide)) (Okv ?_)))
    refine Ok1 (r_wr w1) (Okn (by decide) (Okn (by decide) (Ok2 (r_refuse 6 (by omega) (by omega) _ (by decide)) (Okv ?_))))
    exact ⟨rfl, Rel_i H P pc pn I L T ⟨hE, hF, hg, rfl⟩ ⟨⟨hpc, hpn, rfl, rfl, rfl⟩, hK, hQ, hPg⟩ hI ⟨hL, rfl, rfl, hT⟩ ⟨hTl, rfl, rfl, hO⟩ (pRef_u hR) hG⟩
  · have b1 : (0 : Int32) ≤ nI n := nI_pos' (by omega)
    have b2 : ¬ (99 : Int32) < nI n := nI_nlt (b := n) (a := 99) (by omega) (by omega)
    by_cases h2 : T < 12
    · have hv : vp_in (nI T) 12 := vp_in_nI (by omega) (by omega)
      have hcl : (nI T).toNatClampNeg = T := nI_clamp (by omega)
      rw [hcl, show nI T + (1 : Int32) = nI (T + 1) from nI_1 T]
      refine Okp b1 (Okn b2 (Okp (nI_lt (b := 12) h2 (by omega)) (Okg hv (Okl (Okl (Okv ?_))))))
      refine Ok1 (r_wr w1) (Okp rfl (Okn (fun z => absurd ((nI_eq (b := 12) (by omega) (by omega)).mp z) (by omega)) (Okp (by decide) (Okg hv (Okl (Okl (Okv ?_)))))))
      refine ⟨rfl, Rel_i H P pc pn I L (T + 1) ⟨hE, hF, hg, rfl⟩ ⟨⟨hpc, hpn, rfl, rfl, rfl⟩, hK, hQ, hPg⟩ hI ⟨hL, rfl, rfl, hT⟩ ⟨h2, rfl, rfl, fun i hi => ?_⟩ hR hG⟩
      show upd r_row0 T (nI n) i = upd g_told T (nI n) i ∧ ∃ c, c < 100 ∧ upd g_told T (nI n) i = nI c
      by_cases z : i = T
      · subst z
        rw [pk_us, pk_us]
        exact ⟨rfl, n, by omega, rfl⟩
      · rw [pk_un z, pk_un z]
        exact hO i (by omega)
    · refine Okp b1 (Okn b2 (Okn (nI_nlt (b := 12) (by omega) (by omega)) (Ok2 (c_refuse 6 (by omega) (by omega) _ (by decide)) (Okv ?_))))
      refine Ok1 (r_wr w1) (Okp rfl (Okp (by rw [show T = 12 by omega]; rfl) (Okn (by decide) (Ok2 (r_refuse 6 (by omega) (by omega) _ (by decide)) (Okv ?_)))))
      exact ⟨rfl, Rel_i H P pc pn I L T ⟨hE, hF, hg, rfl⟩ ⟨⟨hpc, hpn, rfl, rfl, rfl⟩, hK, hQ, hPg⟩ hI ⟨hL, rfl, rfl, hT⟩ ⟨hTl, rfl, rfl, hO⟩ (pRef_u hR) hG⟩
theorem s_judge {s : S6} {t : S7} (a b : Nat → Nat) (R : Rel s t) : Sim (F6_judge s) (F7_judge t) := by
  refine Rel_o (C := fun s t => Sim (F6_judge s) (F7_judge t)) R ?_
  intro H P pc pn I L T g_hasImage g_n_warmth g_n_kind g_n_figure g_n_airCell g_n_way g_n_seat g_n_shawls g_n_steps g_n_numbers g_m_shutBits g_m_airs g_m_crownedBits g_m_sitters g_m_onBits g_m_turn g_m_taken g_m_warmth g_m_kind g_m_figure g_m_airCell g_m_way g_m_seat g_m_shawls g_m_count g_m_steps g_m_numbers g_i_shutBits g_i_airs g_i_crownedBits g_i_sitters g_i_onBits g_i_turn g_i_taken g_i_warmth g_i_kind g_i_figure g_i_airCell g_i_way g_i_seat g_i_shawls g_i_count g_i_steps g_i_numbers g_text_letters g_coats_sorts g_coats_sizes g_places g_coats_carried g_told g_refused g_oneHas g_otherHas g_k_shutBits g_k_airs g_k_crownedBits g_k_sitters g_k_onBits g_k_turn g_k_taken g_k_warmth g_k_kind g_k_figure g_k_airCell g_k_way g_k_seat g_k_shawls g_k_count g_k_steps g_k_numbers r_thrown r_at0 r_isBad r_statements r_stepsMany r_hasImage r_place0 r_isTaking r_keptIn r_seed r_warms r_shutAt r_kinds0 r_figures r_airAt r_ways r_crowned r_sitsAt r_shawls r_isOn r_stepOf r_stepBy r_refusals r_letters r_placeIn r_letterOf r_numbers r_stepsRead r_stepsBy r_kept r_keptWarms r_i_imaged r_imagedWarms r_turns0 r_turnWarms0 r_turnOf r_turnWarms r_row0 r_gains r_pegSort r_pegMany r_pegHolds r_coats r_coatsMoved hE hF hg hpc hpn hK hQ hPg hI hL hT hTl hO hR hG
  show Sim (F6_judge _) (F7_judge _)
  rw [F6_judge_b, F7_judge_b]
  refine sim_o ?_
  unfold f_X6_judge f_X7_judge
  have hV := hg.1
  refine Oke (c_judge_loop hV hE hTl T 0 4096 (by omega) (by omega) (fun b hb => absurd hb (by omega))) ?_
  rw [nI_dn']
  refine Okl (Oke (r_judge_loop hV hF hTl hO T 4096 (-9) (Nat.le_refl _) (by omega) (rP_z _ _)) ?_)
  exact ⟨rfl, Rel_i H P pc pn I L 0 ⟨hE, hF, hg, rfl⟩ ⟨⟨hpc, hpn, rfl, rfl, rfl⟩, hK, hQ, hPg⟩ hI ⟨hL, rfl, rfl, hT⟩ ⟨by omega, nI_0.symm, nI_0.symm, fun i hi => absurd hi (by omega)⟩ hR hG⟩
theorem s_kinds {s : S6} {t : S7} (a b : Nat → Nat) (R : Rel s t) (n0 : Int32) : Sim (F6_kinds s n0) (F7_kinds t n0) := by
  refine Rel_o (C := fun s t => Sim (F6_kinds s n0) (F7_kinds t n0)) R ?_
  intro H P pc pn I L T g_hasImage g_n_warmth g_n_kind g_n_figure g_n_airCell g_n_way g_n_seat g_n_shawls g_n_steps g_n_numbers g_m_shutBits g_m_airs g_m_crownedBits g_m_sitters g_m_onBits g_m_turn g_m_taken g_m_warmth g_m_kind g_m_figure g_m_airCell g_m_way g_m_seat g_m_shawls g_m_count g_m_steps g_m_numbers g_i_shutBits g_i_airs g_i_crownedBits g_i_sitters g_i_onBits g_i_turn g_i_taken g_i_warmth g_i_kind g_i_figure g_i_airCell g_i_way g_i_seat g_i_shawls g_i_count g_i_steps g_i_numbers g_text_letters g_coats_sorts g_coats_sizes g_places g_coats_carried g_told g_refused g_oneHas g_otherHas g_k_shutBits g_k_airs g_k_crownedBits g_k_sitters g_k_onBits g_k_turn g_k_taken g_k_warmth g_k_kind g_k_figure g_k_airCell g_k_way g_k_seat g_k_shawls g_k_count g_k_steps g_k_numbers r_thrown r_at0 r_isBad r_statements r_stepsMany r_hasImage r_place0 r_isTaking r_keptIn r_seed r_warms r_shutAt r_kinds0 r_figures r_airAt r_ways r_crowned r_sitsAt r_shawls r_isOn r_stepOf r_stepBy r_refusals r_letters r_placeIn r_letterOf r_numbers r_stepsRead r_stepsBy r_kept r_keptWarms r_i_imaged r_imagedWarms r_turns0 r_turnWarms0 r_turnOf r_turnWarms r_row0 r_gains r_pegSort r_pegMany r_pegHolds r_coats r_coatsMoved hE hF hg hpc hpn hK hQ hPg hI hL hT hTl hO hR hG
  show Sim (F6_kinds _ n0) (F7_kinds _ n0)
  rw [F6_kinds_b, F7_kinds_b]
  refine sim_o ?_
  unfold f_X6_kinds f_X7_kinds
  have hV := hg.1
  obtain ⟨hA5, hS6, hH6, hT20, hK9⟩ := hV.1
  by_cases q : ixB n0 8 = true
  · obtain ⟨kd, hk, hn0⟩ := ixB_t q
    have a0 : ¬ n0 < 0 := by rw [hn0]; exact nI_pos (by omega)
    have a1 : n0 < 8 := by rw [hn0]; exact nI_lt (b := 8) hk (by omega)
    obtain ⟨v, l6, l7⟩ := l_kinds (n0 := n0) (ki := g_n_kind) (kr := r_kinds0) (gr := g_refused) (rr := r_refusals) hA5 (fun i hi => (hE.2.2.1 i hi).1.trans (hF.2.1 i hi).1.symm) (aA H) 0 4096 4096 0 (by omega) (by omega) (by omega)
    refine Okn a0 (Okp a1 (Oke l6 ?_))
    refine Okt (in_ix 8 (by decide)) q (Oke l7 ?_)
    exact ⟨rfl, Rel_i H P pc pn I L T ⟨hE, hF, hg, rfl⟩ ⟨⟨hpc, hpn, rfl, rfl, rfl⟩, hK, hQ, hPg⟩ hI ⟨hL, rfl, rfl, hT⟩ ⟨hTl, rfl, rfl, hO⟩ hR hG⟩
  · rcases ix2 (by omega) q with w | ⟨w, w2⟩
    · refine Okp w (Ok2 (c_refuse 2 (by omega) (by omega) _ (by decide)) (Okv ?_))
      refine Okf (in_ix 8 (by decide)) q (Ok2 (r_refuse 2 (by omega) (by omega) _ (by decide)) (Okv ?_))
      exact ⟨rfl, Rel_i H P pc pn I L T ⟨hE, hF, hg, rfl⟩ ⟨⟨hpc, hpn, rfl, rfl, rfl⟩, hK, hQ, hPg⟩ hI ⟨hL, rfl, rfl, hT⟩ ⟨hTl, rfl, rfl, hO⟩ (pRef_u hR) hG⟩
    · refine Okn w (Okn (Int32.not_lt.mpr w2) (Ok2 (c_refuse 2 (by omega) (by omega) _ (by decide)) (Okv ?_)))
      refine Okf (in_ix 8 (by decide)) q (Ok2 (r_refuse 2 (by omega) (by omega) _ (by decide)) (Okv ?_))
      exact ⟨rfl, Rel_i H P pc pn I L T ⟨hE, hF, hg, rfl⟩ ⟨⟨hpc, hpn, rfl, rfl, rfl⟩, hK, hQ, hPg⟩ hI ⟨hL, rfl, rfl, hT⟩ ⟨hTl, rfl, rfl, hO⟩ (pRef_u hR) hG⟩
theorem s_nearest {s : S6} {t : S7} (a b : Nat → Nat) (R : Rel s t) (n0 : Int32) (n1 : Int32) : Sim (F6_nearest s n0 n1) (F7_nearest t n0 n1) := by
  refine Rel_o (C := fun s t => Sim (F6_nearest s n0 n1) (F7_nearest t n0 n1)) R ?_
  intro H P pc pn I L T g_hasImage g_n_warmth g_n_kind g_n_figure g_n_airCell g_n_way g_n_seat g_n_shawls g_n_steps g_n_numbers g_m_shutBits g_m_airs g_m_crownedBits g_m_sitters g_m_onBits g_m_turn g_m_taken g_m_warmth g_m_kind g_m_figure g_m_airCell g_m_way g_m_seat g_m_shawls g_m_count g_m_steps g_m_numbers g_i_shutBits g_i_airs g_i_crownedBits g_i_sitters g_i_onBits g_i_turn g_i_taken g_i_warmth g_i_kind g_i_figure g_i_airCell g_i_way g_i_seat g_i_shawls g_i_count g_i_steps g_i_numbers g_text_letters g_coats_sorts g_coats_sizes g_places g_coats_carried g_told g_refused g_oneHas g_otherHas g_k_shutBits g_k_airs g_k_crownedBits g_k_sitters g_k_onBits g_k_turn g_k_taken g_k_warmth g_k_kind g_k_figure g_k_airCell g_k_way g_k_seat g_k_shawls g_k_count g_k_steps g_k_numbers r_thrown r_at0 r_isBad r_statements r_stepsMany r_hasImage r_place0 r_isTaking r_keptIn r_seed r_warms r_shutAt r_kinds0 r_figures r_airAt r_ways r_crowned r_sitsAt r_shawls r_isOn r_stepOf r_stepBy r_refusals r_letters r_placeIn r_letterOf r_numbers r_stepsRead r_stepsBy r_kept r_keptWarms r_i_imaged r_imagedWarms r_turns0 r_turnWarms0 r_turnOf r_turnWarms r_row0 r_gains r_pegSort r_pegMany r_pegHolds r_coats r_coatsMoved hE hF hg hpc hpn hK hQ hPg hI hL hT hTl hO hR hG
  show Sim (F6_nearest _ n0 n1) (F7_nearest _ n0 n1)
  rw [F6_nearest_b, F7_nearest_b]
  refine sim_o ?_
  unfold f_X6_nearest f_X7_nearest f_X7_nearest_b23
  have hV := hg.1
  obtain ⟨hA5, hS6, hH6, hT20, hK9⟩ := hV.1
  by_cases q : ixB n0 (aS H) = true
  · obtain ⟨a1, ha, hn0⟩ := ixB_t q
    by_cases q1 : ixB n1 2 = true
    · obtain ⟨j, hj, hn1⟩ := ixB_t q1
      have b0 : ¬ n1 < 0 := by rw [hn1]; exact nI_pos (by omega)
      have b1 : n1 ≤ 1 := by rw [hn1]; exact nI_le (b := 1) (by omega) (by omega)
      obtain ⟨v, l6, l7⟩ := l_nearest (n0 := n0) (n1 := n1) (s := a1) (gr := g_refused) (rr := r_refusals) (at0 := aAc H) hA5 (by omega) hn0 (fun i hi => ⟨(hE.2.2.1 i hi).2.2.1, (hF.2.1 i hi).2.2.1, (hV.2.1 i hi).2.2.1⟩) (hE.2.2.2.1 a1 ha).1 (hF.2.2.1 a1 ha).1 (hV.2.2.1 a1 ha).1 (aA H) 0 4096 4096 (-9) (-9) (by omega) (by omega) (by omega) (Or.inl ⟨rfl, rfl⟩)
      refine Okt (c_isSitter _ (by omega)) q (Okn b0 (Okp b1 (Oke l6 ?_)))
      refine Okt (r_isSitter _ (by omega)) q (Okt (in_ix 2 (by decide)) q1 (Oke l7 ?_))
      exact ⟨rfl, Rel_i H P pc pn I L T ⟨hE, hF, hg, rfl⟩ ⟨⟨hpc, hpn, rfl, rfl, rfl⟩, hK, hQ, hPg⟩ hI ⟨hL, rfl, rfl, hT⟩ ⟨hTl, rfl, rfl, hO⟩ hR hG⟩
    · rcases ix2 (by omega) q1 with w | ⟨w, w2⟩
      · refine Okt (c_isSitter _ (by omega)) q (Okp w (Ok2 (c_refuse 2 (by omega) (by omega) _ (by decide)) (Okv ?_)))
        refine Okt (r_isSitter _ (by omega)) q (Okf (in_ix 2 (by decide)) q1 (Okt (r_isSitter _ (by omega)) q (Ok2 (r_refuse 2 (by omega) (by omega) _ (by decide)) (Okv ?_))))
        exact ⟨rfl, Rel_i H P pc pn I L T ⟨hE, hF, hg, rfl⟩ ⟨⟨hpc, hpn, rfl, rfl, rfl⟩, hK, hQ, hPg⟩ hI ⟨hL, rfl, rfl, hT⟩ ⟨hTl, rfl, rfl, hO⟩ (pRef_u hR) hG⟩
      · refine Okt (c_isSitter _ (by omega)) q (Okn w (Okn (fun z => absurd (Int32.le_iff_toInt_le.mp (Int32.le_trans w2 z)) (by decide)) (Ok2 (c_refuse 2 (by omega) (by omega) _ (by decide)) (Okv ?_))))
        refine Okt (r_isSitter _ (by omega)) q (Okf (in_ix 2 (by decide)) q1 (Okt (r_isSitter _ (by omega)) q (Ok2 (r_refuse 2 (by omega) (by omega) _ (by decide)) (Okv ?_))))
        exact ⟨rfl, Rel_i H P pc pn I L T ⟨hE, hF, hg, rfl⟩ ⟨⟨hpc, hpn, rfl, rfl, rfl⟩, hK, hQ, hPg⟩ hI ⟨hL, rfl, rfl, hT⟩ ⟨hTl, rfl, rfl, hO⟩ (pRef_u hR) hG⟩
  · refine Okf (c_isSitter _ (by omega)) q (Ok2 (c_refuse 1 (by omega) (by omega) _ (by decide)) (Okv ?_))
    refine Okf (r_isSitter _ (by omega)) q (Okf (r_isSitter _ (by omega)) q (Ok2 (r_refuse 1 (by omega) (by omega) _ (by decide)) (Okv ?_)))
    exact ⟨rfl, Rel_i H P pc pn I L T ⟨hE, hF, hg, rfl⟩ ⟨⟨hpc, hpn, rfl, rfl, rfl⟩, hK, hQ, hPg⟩ hI ⟨hL, rfl, rfl, hT⟩ ⟨hTl, rfl, rfl, hO⟩ (pRef_u hR) hG⟩
theorem s_howCold {s : S6} {t : S7} (a b : Nat → Nat) (R : Rel s t) (n0 : Int32) (n1 : Int32) (n2 : Int32) : Sim (F6_howCold s n0 n1 n2) (F7_howCold t n0 n1 n2) := by
  refine Rel_o (C := fun s t => Sim (F6_howCold s n0 n1 n2) (F7_howCold t n0 n1 n2)) R ?_
  intro H P pc pn I L T g_hasImage g_n_warmth g_n_kind g_n_figure g_n_airCell g_n_way g_n_seat g_n_shawls g_n_steps g_n_numbers g_m_shutBits g_m_airs g_m_crownedBits g_m_sitters g_m_onBits g_m_turn g_m_taken g_m_warmth g_m_kind g_m_figure g_m_airCell g_m_way g_m_seat g_m_shawls g_m_count g_m_steps g_m_numbers g_i_shutBits g_i_airs g_i_crownedBits g_i_sitters g_i_onBits g_i_turn g_i_taken g_i_warmth g_i_kind g_i_figure g_i_airCell g_i_way g_i_seat g_i_shawls g_i_count g_i_steps g_i_numbers g_text_letters g_coats_sorts g_coats_sizes g_places g_coats_carried g_told g_refused g_oneHas g_otherHas g_k_shutBits g_k_airs g_k_crownedBits g_k_sitters g_k_onBits g_k_turn g_k_taken g_k_warmth g_k_kind g_k_figure g_k_airCell g_k_way g_k_seat g_k_shawls g_k_count g_k_steps g_k_numbers r_thrown r_at0 r_isBad r_statements r_stepsMany r_hasImage r_place0 r_isTaking r_keptIn r_seed r_warms r_shutAt r_kinds0 r_figures r_airAt r_ways r_crowned r_sitsAt r_shawls r_isOn r_stepOf r_stepBy r_refusals r_letters r_placeIn r_letterOf r_numbers r_stepsRead r_stepsBy r_kept r_keptWarms r_i_imaged r_imagedWarms r_turns0 r_turnWarms0 r_turnOf r_turnWarms r_row0 r_gains r_pegSort r_pegMany r_pegHolds r_coats r_coatsMoved hE hF hg hpc hpn hK hQ hPg hI hL hT hTl hO hR hG
  show Sim (F6_howCold _ n0 n1 n2) (F7_howCold _ n0 n1 n2)
  rw [F6_howCold_b, F7_howCold_b]
  refine sim_o ?_
  unfold f_X6_howCold f_X7_howCold
  have hV := hg.1
  obtain ⟨hA5, hS6, hH6, hT20, hK9⟩ := hV.1
  by_cases q : ixB n0 (aA H) = true
  · obtain ⟨a1, ha, hn0⟩ := ixB_t q
    by_cases w : n1 < 0
    · refine Okt (c_isAir _ (by omega)) q (Okp w (Ok2 (c_refuse 4 (by omega) (by omega) _ (by decide)) (Okv ?_)))
      refine Okt (r_isAir _ (by omega)) q (Okp w (Ok2 (r_refuse 4 (by omega) (by omega) _ (by decide)) (Okv ?_)))
      exact ⟨rfl, Rel_i H P pc pn I L T ⟨hE, hF, hg, rfl⟩ ⟨⟨hpc, hpn, rfl, rfl, rfl⟩, hK, hQ, hPg⟩ hI ⟨hL, rfl, rfl, hT⟩ ⟨hTl, rfl, rfl, hO⟩ (pRef_u hR) hG⟩
    by_cases y : (-100 : Int32) ≤ n2
    · by_cases w9 : (99 : Int32) < n1
      · refine Okt (c_isAir _ (by omega)) q (Okn w (Okp y (Okp w9 (Ok2 (c_refuse 6 (by omega) (by omega) _ (by decide)) (Okv ?_)))))
        refine Okt (r_isAir _ (by omega)) q (Okn w (Okp y (Okp w9 (Ok2 (r_refuse 6 (by omega) (by omega) _ (by decide)) (Okv ?_)))))
        exact ⟨rfl, Rel_i H P pc pn I L T ⟨hE, hF, hg, rfl⟩ ⟨⟨hpc, hpn, rfl, rfl, rfl⟩, hK, hQ, hPg⟩ hI ⟨hL, rfl, rfl, hT⟩ ⟨hTl, rfl, rfl, hO⟩ (pRef_u hR) hG⟩
      by_cases y1 : n2 ≤ (100 : Int32)
      · obtain ⟨n, hn, hn1⟩ := num_in (Int32.not_lt.mp w) w9 rfl
        have hn : n < 99 + 1 := hn
        obtain ⟨v, l6, l7⟩ := l_howCold (n0 := n0) (n1 := n1) (n2 := n2) (gr := g_refused) (rr := r_refusals) hV ha hn0 hn1 (by omega) (hE.2.2.1 a1 ha).2.1 (hF.2.1 a1 ha).2.1 8 0 4096 4096 0 (by omega) (by omega) (by omega)
        refine Okt (c_isAir _ (by omega)) q (Okn w (Okp y (Okn w9 (Okp y1 (Oke l6 ?_)))))
        refine Okt (r_isAir _ (by omega)) q (Okn w (Okp y (Okn w9 (Okp y1 (Oke l7 ?_)))))
        exact ⟨rfl, Rel_i H P pc pn I L T ⟨hE, hF, hg, rfl⟩ ⟨⟨hpc, hpn, rfl, rfl, rfl⟩, hK, hQ, hPg⟩ hI ⟨hL, rfl, rfl, hT⟩ ⟨hTl, rfl, rfl, hO⟩ hR hG⟩
      · refine Okt (c_isAir _ (by omega)) q (Okn w (Okp y (Okn w9 (Okn y1 (Ok2 (c_refuse 6 (by omega) (by omega) _ (by decide)) (Okv ?_))))))
        refine Okt (r_isAir _ (by omega)) q (Okn w (Okp y (Okn w9 (Okn y1 (Ok2 (r_refuse 6 (by omega) (by omega) _ (by decide)) (Okv ?_))))))
        exact ⟨rfl, Rel_i H P pc pn I L T ⟨hE, hF, hg, rfl⟩ ⟨⟨hpc, hpn, rfl, rfl, rfl⟩, hK, hQ, hPg⟩ hI ⟨hL, rfl, rfl, hT⟩ ⟨hTl, rfl, rfl, hO⟩ (pRef_u hR) hG⟩
    · refine Okt (c_isAir _ (by omega)) q (Okn w (Okn y (Ok2 (c_refuse 4 (by omega) (by omega) _ (by decide)) (Okv ?_))))
      refine Okt (r_isAir _ (by omega)) q (Okn w (Okn y (Ok2 (r_refuse 4 (by omega) (by omega) _ (by decide)) (Okv ?_))))
      exact ⟨rfl, Rel_i H P pc pn I L T ⟨hE, hF, hg, rfl⟩ ⟨⟨hpc, hpn, rfl, rfl, rfl⟩, hK, hQ, hPg⟩ hI ⟨hL, rfl, rfl, hT⟩ ⟨hTl, rfl, rfl, hO⟩ (pRef_u hR) hG⟩
  · refine Okf (c_isAir _ (by omega)) q (Ok2 (c_refuse 1 (by omega) (by omega) _ (by decide)) (Okv ?_))
    refine Okf (r_isAir _ (by omega)) q (Ok2 (r_refuse 1 (by omega) (by omega) _ (by decide)) (Okv ?_))
    exact ⟨rfl, Rel_i H P pc pn I L T ⟨hE, hF, hg, rfl⟩ ⟨⟨hpc, hpn, rfl, rfl, rfl⟩, hK, hQ, hPg⟩ hI ⟨hL, rfl, rfl, hT⟩ ⟨hTl, rfl, rfl, hO⟩ (pRef_u hR) hG⟩
