/-! the calls, one by one -/
theorem num_in {x : Int32} {a b : Int32} (h1 : a ≤ x) (h2 : ¬ b < x) (ha : a.toInt = 0) : ∃ c, c < b.toInt.toNat + 1 ∧ x = nI c := by
  have q1 := Int32.le_iff_toInt_le.mp h1
  have q2 := mt Int32.lt_iff_toInt_lt.mpr h2
  have hl := x.toInt_lt
  refine ⟨x.toInt.toNat, by omega, ?_⟩
  apply Int32.toInt_inj.mp
  rw [nI_toInt (by omega)]
  omega
theorem wrB_0 {x : Int32} (h1 : 0 ≤ x) {b : Int32} (h2 : ¬ b < x) : wrB x 0 b = 0 := by
  unfold wrB
  rw [if_pos h1, if_pos (Int32.not_lt.mp h2)]
theorem wrB_6 {x : Int32} (h1 : 0 ≤ x) {b : Int32} (h2 : b < x) : wrB x 0 b = -6 := by
  unfold wrB
  rw [if_pos h1, if_neg (Int32.not_le.mpr h2)]
theorem wrB_4 {x : Int32} (h1 : ¬ 0 ≤ x) {b : Int32} : wrB x 0 b = -4 := by
  unfold wrB
  rw [if_neg h1]
theorem s_row {s : S6} {t : S7} (a b : Nat → Nat) (R : Rel s t) (n0 : Int32) : Sim (F6_row s n0) (F7_row t n0) := by
  obtain ⟨g_hasImage, g_toldCount, g_n_shutBits, g_n_airs, g_n_crownedBits, g_n_sitters, g_n_onBits, g_n_turn, g_n_taken, g_n_warmth, g_n_kind, g_n_figure, g_n_airCell, g_n_way, g_n_seat, g_n_shawls, g_n_count, g_n_steps, g_n_numbers, g_m_shutBits, g_m_airs, g_m_crownedBits, g_m_sitters, g_m_onBits, g_m_turn, g_m_taken, g_m_warmth, g_m_kind, g_m_figure, g_m_airCell, g_m_way, g_m_seat, g_m_shawls, g_m_count, g_m_steps, g_m_numbers, g_i_shutBits, g_i_airs, g_i_crownedBits, g_i_sitters, g_i_onBits, g_i_turn, g_i_taken, g_i_warmth, g_i_kind, g_i_figure, g_i_airCell, g_i_way, g_i_seat, g_i_shawls, g_i_count, g_i_steps, g_i_numbers, g_past_next, g_past_count, g_text_length, g_text_letters, g_coats_sorts, g_coats_sizes, g_places, g_coats_carried, g_told, g_refused, g_oneHas, g_otherHas, g_k_shutBits, g_k_airs, g_k_crownedBits, g_k_sitters, g_k_onBits, g_k_turn, g_k_taken, g_k_warmth, g_k_kind, g_k_figure, g_k_airCell, g_k_way, g_k_seat, g_k_shawls, g_k_count, g_k_steps, g_k_numbers⟩ := s
  obtain ⟨r_airs, r_sitters, r_stepMany, r_today, r_taken, r_isStill, r_thrown, r_letterMany, r_at0, r_isBad, r_statements, r_stepsMany, r_hasImage, r_place0, r_isTaking, r_keptIn, r_turned, r_rowMany, r_seed, r_warms, r_shutAt, r_kinds0, r_figures, r_airAt, r_ways, r_crowned, r_sitsAt, r_shawls, r_isOn, r_stepOf, r_stepBy, r_refusals, r_letters, r_placeIn, r_letterOf, r_numbers, r_stepsRead, r_stepsBy, r_kept, r_keptWarms, r_i_imaged, r_imagedWarms, r_turns0, r_turnWarms0, r_turnOf, r_turnWarms, r_row0, r_gains, r_pegSort, r_pegMany, r_pegHolds, r_coats, r_coatsMoved⟩ := t
  obtain ⟨H, P, pc, pn, I, L, T, hN, hP, hI, hT, hO, hR, hG⟩ := R
  have hN : pNow H g_n_shutBits g_n_airs g_n_crownedBits g_n_sitters g_n_onBits g_n_turn g_n_taken g_n_warmth g_n_kind g_n_figure g_n_airCell g_n_way g_n_seat g_n_shawls g_n_count g_n_steps g_n_numbers r_airs r_sitters r_stepMany r_today r_taken r_warms r_shutAt r_kinds0 r_figures r_airAt r_ways r_crowned r_sitsAt r_shawls r_isOn r_stepOf r_stepBy r_isStill := hN
  have hP : pPast P pc pn g_past_next g_past_count g_k_shutBits g_k_airs g_k_crownedBits g_k_sitters g_k_onBits g_k_turn g_k_taken g_k_warmth g_k_kind g_k_figure g_k_airCell g_k_way g_k_seat g_k_shawls g_k_count g_k_steps g_k_numbers r_turned r_turns0 r_turnWarms0 := hP
  have hI : pImg I g_hasImage g_i_shutBits g_i_airs g_i_crownedBits g_i_sitters g_i_onBits g_i_turn g_i_taken g_i_warmth g_i_kind g_i_figure g_i_airCell g_i_way g_i_seat g_i_shawls g_i_count g_i_steps g_i_numbers r_hasImage r_i_imaged r_imagedWarms := hI
  have hT : pText L g_text_length g_text_letters r_letterMany r_letters := hT
  have hO : pTold T g_toldCount g_told r_rowMany r_row0 := hO
  have hR : pRef  g_refused r_refusals := hR
  have hG : pPegs  g_coats_sorts g_coats_sizes g_places r_pegSort r_pegMany r_pegHolds r_coats := hG
  rw [F6_row_b, F7_row_b]
  obtain ⟨oT, oc, orr, ot⟩ := id hO
  unfold f_X6_row f_X7_row
  rw [dq_bd_s (r_wrong _ _ _)]
  by_cases h0 : 0 ≤ n0
  · rw [dq_if_pos h0]
    by_cases h1 : (99 : Int32) < n0
    · rw [dq_if_pos h1, wrB_6 h0 h1, dq_if_neg (by decide)]
      unfold f_X7_row_b32
      rw [dq_if_neg (by decide)]
      rw [dq_bd2_s (c_refuse 6 (by omega) (by omega) (-6 : Int32) (by decide)), dq_bd2_s (r_refuse 6 (by omega) (by omega) (-6 : Int32) (by decide))]
      exact ⟨_, _, _, rfl, rfl, H, P, pc, pn, I, L, T, hN, hP, hI, hT, hO, pRef_u hR, hG⟩
    · rw [dq_if_neg h1, wrB_0 h0 h1, dq_if_pos rfl]
      by_cases h2 : T < 12
      · rw [dq_if_pos (by rw [oc, show (12 : Int32) = nI 12 from rfl]; exact nI_lt h2 (by omega)), dq_if_neg (by rw [orr, show (12 : Int32) = nI 12 from rfl]; exact fun z => absurd ((nI_eq (by omega) (by omega)).mp z) (by omega)), dq_gd_pos (by rw [oc]; exact vp_in_nI h2 (by omega))]
        unfold f_X7_row_b32
        rw [dq_if_pos (by decide), dq_gd_pos (by rw [orr]; exact vp_in_nI h2 (by omega))]
        simp only [dq_let]
        rw [oc, orr, nI_clamp (by omega), show nI T + (1 : Int32) = nI (T + 1) from nI_1 T]
        refine ⟨_, _, _, rfl, rfl, H, P, pc, pn, I, L, T + 1, hN, hP, hI, hT, ⟨h2, rfl, rfl, fun i hi => ?_⟩, hR, hG⟩
        show upd r_row0 T n0 i = upd g_told T n0 i ∧ ∃ c, c < 100 ∧ upd g_told T n0 i = nI c
        by_cases z : i = T
        · subst z
          rw [pk_us, pk_us]
          exact ⟨rfl, num_in h0 h1 rfl⟩
        · rw [pk_un z, pk_un z]
          exact ot i (by omega)
      · rw [dq_if_neg (by rw [oc, show (12 : Int32) = nI 12 from rfl]; exact nI_nlt (by omega) (by omega)), dq_if_pos (by rw [orr, show T = 12 by omega]; rfl)]
        unfold f_X7_row_b32
        rw [dq_if_neg (by decide)]
        rw [dq_bd2_s (c_refuse 6 (by omega) (by omega) (-6 : Int32) (by decide)), dq_bd2_s (r_refuse 6 (by omega) (by omega) (-6 : Int32) (by decide))]
        exact ⟨_, _, _, rfl, rfl, H, P, pc, pn, I, L, T, hN, hP, hI, hT, hO, pRef_u hR, hG⟩
  · rw [dq_if_neg h0, wrB_4 h0, dq_if_neg (by decide)]
    unfold f_X7_row_b32
    rw [dq_if_neg (by decide)]
    rw [dq_bd2_s (c_refuse 4 (by omega) (by omega) (-4 : Int32) (by decide)), dq_bd2_s (r_refuse 4 (by omega) (by omega) (-4 : Int32) (by decide))]
    exact ⟨_, _, _, rfl, rfl, H, P, pc, pn, I, L, T, hN, hP, hI, hT, hO, pRef_u hR, hG⟩
theorem s_air {s : S6} {t : S7} (a b : Nat → Nat) (R : Rel s t) (n0 : Int32) (n1 : Int32) : Sim (F6_air s n0 n1) (F7_air t n0 n1) := by
  obtain ⟨g_hasImage, g_toldCount, g_n_shutBits, g_n_airs, g_n_crownedBits, g_n_sitters, g_n_onBits, g_n_turn, g_n_taken, g_n_warmth, g_n_kind, g_n_figure, g_n_airCell, g_n_way, g_n_seat, g_n_shawls, g_n_count, g_n_steps, g_n_numbers, g_m_shutBits, g_m_airs, g_m_crownedBits, g_m_sitters, g_m_onBits, g_m_turn, g_m_taken, g_m_warmth, g_m_kind, g_m_figure, g_m_airCell, g_m_way, g_m_seat, g_m_shawls, g_m_count, g_m_steps, g_m_numbers, g_i_shutBits, g_i_airs, g_i_crownedBits, g_i_sitters, g_i_onBits, g_i_turn, g_i_taken, g_i_warmth, g_i_kind, g_i_figure, g_i_airCell, g_i_way, g_i_seat, g_i_shawls, g_i_count, g_i_steps, g_i_numbers, g_past_next, g_past_count, g_text_length, g_text_letters, g_coats_sorts, g_coats_sizes, g_places, g_coats_carried, g_told, g_refused, g_oneHas, g_otherHas, g_k_shutBits, g_k_airs, g_k_crownedBits, g_k_sitters, g_k_onBits, g_k_turn, g_k_taken, g_k_warmth, g_k_kind, g_k_figure, g_k_airCell, g_k_way, g_k_seat, g_k_shawls, g_k_count, g_k_steps, g_k_numbers⟩ := s
  obtain ⟨r_airs, r_sitters, r_stepMany, r_today, r_taken, r_isStill, r_thrown, r_letterMany, r_at0, r_isBad, r_statements, r_stepsMany, r_hasImage, r_place0, r_isTaking, r_keptIn, r_turned, r_rowMany, r_seed, r_warms, r_shutAt, r_kinds0, r_figures, r_airAt, r_ways, r_crowned, r_sitsAt, r_shawls, r_isOn, r_stepOf, r_stepBy, r_refusals, r_letters, r_placeIn, r_letterOf, r_numbers, r_stepsRead, r_stepsBy, r_kept, r_keptWarms, r_i_imaged, r_imagedWarms, r_turns0, r_turnWarms0, r_turnOf, r_turnWarms, r_row0, r_gains, r_pegSort, r_pegMany, r_pegHolds, r_coats, r_coatsMoved⟩ := t
  obtain ⟨H, P, pc, pn, I, L, T, hN, hP, hI, hT, hO, hR, hG⟩ := R
  have hN : pNow H g_n_shutBits g_n_airs g_n_crownedBits g_n_sitters g_n_onBits g_n_turn g_n_taken g_n_warmth g_n_kind g_n_figure g_n_airCell g_n_way g_n_seat g_n_shawls g_n_count g_n_steps g_n_numbers r_airs r_sitters r_stepMany r_today r_taken r_warms r_shutAt r_kinds0 r_figures r_airAt r_ways r_crowned r_sitsAt r_shawls r_isOn r_stepOf r_stepBy r_isStill := hN
  have hP : pPast P pc pn g_past_next g_past_count g_k_shutBits g_k_airs g_k_crownedBits g_k_sitters g_k_onBits g_k_turn g_k_taken g_k_warmth g_k_kind g_k_figure g_k_airCell g_k_way g_k_seat g_k_shawls g_k_count g_k_steps g_k_numbers r_turned r_turns0 r_turnWarms0 := hP
  have hI : pImg I g_hasImage g_i_shutBits g_i_airs g_i_crownedBits g_i_sitters g_i_onBits g_i_turn g_i_taken g_i_warmth g_i_kind g_i_figure g_i_airCell g_i_way g_i_seat g_i_shawls g_i_count g_i_steps g_i_numbers r_hasImage r_i_imaged r_imagedWarms := hI
  have hT : pText L g_text_length g_text_letters r_letterMany r_letters := hT
  have hO : pTold T g_toldCount g_told r_rowMany r_row0 := hO
  have hR : pRef  g_refused r_refusals := hR
  have hG : pPegs  g_coats_sorts g_coats_sizes g_places r_pegSort r_pegMany r_pegHolds r_coats := hG
  rw [F6_air_b, F7_air_b]
  obtain ⟨hC, hH, ⟨hV, hI2, hT9⟩, hS⟩ := id hN
  have hA5 := hV.1.1
  have hS6 := hV.1.2.1
  have c1 := c_isAir n0 (n := aA H) (by omega)
  have r1 := r_isAir n0 (n := aA H) (by omega)
  unfold f_X6_air f_X7_air
  rw [hC.1.1, hH.1.1, dq_bd_s c1, dq_bd_s r1]
  have out : f_X7_air_b25 n0 (nI (aA H)) r_refusals = some (if ixB n0 (aA H) = true then -2 else -1, 0, refU r_refusals (if ixB n0 (aA H) = true then 2 else 1)) := by
    unfold f_X7_air_b25
    rw [dq_bd_s r1]
    by_cases q : ixB n0 (aA H) = true
    · rw [dq_if_neg (fun z => nB_0.mp z q), if_pos q, if_pos q, dq_bd2_s (r_refuse 2 (by omega) (by omega) (-2 : Int32) (by decide))]
    · rw [dq_if_pos (nB_0.mpr q), if_neg q, if_neg q, dq_bd2_s (r_refuse 1 (by omega) (by omega) (-1 : Int32) (by decide))]
  by_cases q : ixB n0 (aA H) = true
  · obtain ⟨a1, ha, rfl⟩ := ixB_t q
    have hv := vp_in_nI (show a1 < 5 by omega) (by omega)
    obtain ⟨v1, v2, v3, v4⟩ := hV.2.1 a1 ha
    obtain ⟨e1, e2, e3, e4⟩ := hC.2.2.1 a1 ha
    obtain ⟨f1, f2, f3, f4, f5⟩ := hH.2.1 a1 ha
    rw [dq_if_neg (fun z => nB_0.mp z q), dq_if_neg (fun z => nB_0.mp z q), dq_bd_s (r_in n1 _ _)]
    by_cases z0 : n1 = 0
    · subst z0
      rw [dq_if_pos rfl, dq_if_neg (by decide), dq_if_pos rfl, dq_gd_pos hv, dq_gd_pos hv, nI_clamp (by omega), e1, f1]
      exact ⟨_, _, _, rfl, rfl, H, P, pc, pn, I, L, T, hN, hP, hI, hT, hO, hR, hG⟩
    by_cases z1 : n1 = 1
    · subst z1
      rw [dq_if_neg (by decide), dq_if_pos rfl, dq_if_neg (by decide), dq_if_neg (by decide), dq_if_pos rfl, dq_gd_pos hv, dq_gd_pos hv, nI_clamp (by omega), e2, f2]
      exact ⟨_, _, _, rfl, rfl, H, P, pc, pn, I, L, T, hN, hP, hI, hT, hO, hR, hG⟩
    by_cases z2 : n1 = 2
    · subst z2
      rw [dq_if_neg (by decide), dq_if_neg (by decide), dq_if_pos rfl, dq_if_neg (by decide), dq_if_neg (by decide), dq_if_neg (by decide), dq_if_pos rfl, dq_gd_pos hv, dq_gd_pos hv, nI_clamp (by omega), e3, f3]
      exact ⟨_, _, _, rfl, rfl, H, P, pc, pn, I, L, T, hN, hP, hI, hT, hO, hR, hG⟩
    by_cases z3 : n1 = 3
    · subst z3
      rw [dq_if_neg (by decide), dq_if_neg (by decide), dq_if_neg (by decide), dq_if_pos rfl, dq_if_neg (by decide), dq_if_neg (by decide), dq_if_neg (by decide), dq_if_neg (by decide), dq_if_pos rfl, dq_gd_pos hv, dq_gd_pos hv, nI_clamp (by omega), e4, f4]
      exact ⟨_, _, _, rfl, rfl, H, P, pc, pn, I, L, T, hN, hP, hI, hT, hO, hR, hG⟩
    by_cases z4 : n1 = 4
    · subst z4
      have hcr : f_X2_isCrowned g_n_crownedBits (nI a1) = some (nB (aCr H a1)) := c_isCrowned hV hC ha
      rw [dq_if_neg (by decide), dq_if_neg (by decide), dq_if_neg (by decide), dq_if_neg (by decide), dq_if_pos rfl, dq_bd_s hcr, dq_if_neg (by decide), dq_if_neg (by decide), dq_if_neg (by decide), dq_if_neg (by decide), dq_if_neg (by decide), dq_if_pos rfl, dq_gd_pos hv, nI_clamp (by omega), f5]
      by_cases y : aCr H a1 = true
      · rw [dq_if_neg (fun x => nB_0.mp x y), nB_1.mpr y]
        exact ⟨_, _, _, rfl, rfl, H, P, pc, pn, I, L, T, hN, hP, hI, hT, hO, hR, hG⟩
      · rw [dq_if_pos (nB_0.mpr y), nB_0.mpr y]
        exact ⟨_, _, _, rfl, rfl, H, P, pc, pn, I, L, T, hN, hP, hI, hT, hO, hR, hG⟩
    by_cases z5 : n1 = 5
    · subst z5
      rw [dq_if_neg (by decide), dq_if_neg (by decide), dq_if_neg (by decide), dq_if_neg (by decide), dq_if_neg (by decide), dq_if_pos rfl, dq_gd_pos hv, dq_gd_pos hv, nI_clamp (by omega), e1, e2, dq_bd_s (leaps_ok v1 v2), dq_if_neg (by decide), dq_if_neg (by decide), dq_if_neg (by decide), dq_if_neg (by decide), dq_if_neg (by decide), dq_if_neg (by decide), dq_bd_s (r_leapsOf (by omega) f1 f2 v1 v2)]
      exact ⟨_, _, _, rfl, rfl, H, P, pc, pn, I, L, T, hN, hP, hI, hT, hO, hR, hG⟩
    have hno : inB n1 (0 : Int64).toInt (5 : Int64).toInt = false := by
      apply decide_eq_false
      intro w
      have w : 0 ≤ n1.toInt ∧ n1.toInt ≤ 5 := w
      have y0 : n1.toInt ≠ 0 := fun y => z0 (Int32.toInt_inj.mp y)
      have y1 : n1.toInt ≠ 1 := fun y => z1 (Int32.toInt_inj.mp y)
      have y2 : n1.toInt ≠ 2 := fun y => z2 (Int32.toInt_inj.mp y)
      have y3 : n1.toInt ≠ 3 := fun y => z3 (Int32.toInt_inj.mp y)
      have y4 : n1.toInt ≠ 4 := fun y => z4 (Int32.toInt_inj.mp y)
      have y5 : n1.toInt ≠ 5 := fun y => z5 (Int32.toInt_inj.mp y)
      omega
    rw [dq_if_neg z0, dq_if_neg z1, dq_if_neg z2, dq_if_neg z3, dq_if_neg z4, dq_if_neg z5, hno, dq_if_pos (by decide), out, if_pos q, if_pos q, dq_bd2_s (c_refuse 2 (by omega) (by omega) (-2 : Int32) (by decide))]
    exact ⟨_, _, _, rfl, rfl, H, P, pc, pn, I, L, T, hN, hP, hI, hT, hO, pRef_u hR, hG⟩
  · rw [dq_if_pos (nB_0.mpr q), dq_if_pos (nB_0.mpr q), out, if_neg q, if_neg q, dq_bd2_s (c_refuse 1 (by omega) (by omega) (-1 : Int32) (by decide))]
    exact ⟨_, _, _, rfl, rfl, H, P, pc, pn, I, L, T, hN, hP, hI, hT, hO, pRef_u hR, hG⟩
