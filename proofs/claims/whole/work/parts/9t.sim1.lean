/-! the calls, one by one -/
theorem s_feed {s : S6} {t : S7} (a b : Nat → Nat) (R : Rel s t) (n0 : Int32) : Sim (F6_feed s n0) (F7_feed t n0) := by
  obtain ⟨g_hasImage, g_toldCount, g_n_shutBits, g_n_airs, g_n_crownedBits, g_n_sitters, g_n_onBits, g_n_turn, g_n_taken, g_n_warmth, g_n_kind, g_n_figure, g_n_airCell, g_n_way, g_n_seat, g_n_shawls, g_n_count, g_n_steps, g_n_numbers, g_m_shutBits, g_m_airs, g_m_crownedBits, g_m_sitters, g_m_onBits, g_m_turn, g_m_taken, g_m_warmth, g_m_kind, g_m_figure, g_m_airCell, g_m_way, g_m_seat, g_m_shawls, g_m_count, g_m_steps, g_m_numbers, g_i_shutBits, g_i_airs, g_i_crownedBits, g_i_sitters, g_i_onBits, g_i_turn, g_i_taken, g_i_warmth, g_i_kind, g_i_figure, g_i_airCell, g_i_way, g_i_seat, g_i_shawls, g_i_count, g_i_steps, g_i_numbers, g_past_next, g_past_count, g_text_length, g_text_letters, g_coats_sorts, g_coats_sizes, g_places, g_coats_carried, g_told, g_refused, g_oneHas, g_otherHas, g_k_shutBits, g_k_airs, g_k_crownedBits, g_k_sitters, g_k_onBits, g_k_turn, g_k_taken, g_k_warmth, g_k_kind, g_k_figure, g_k_airCell, g_k_way, g_k_seat, g_k_shawls, g_k_count, g_k_steps, g_k_numbers⟩ := s
  obtain ⟨r_airs, r_sitters, r_stepMany, r_today, r_taken, r_isStill, r_thrown, r_letterMany, r_at0, r_isBad, r_statements, r_stepsMany, r_hasImage, r_place0, r_isTaking, r_keptIn, r_turned, r_rowMany, r_seed, r_warms, r_shutAt, r_kinds0, r_figures, r_airAt, r_ways, r_crowned, r_sitsAt, r_shawls, r_isOn, r_stepOf, r_stepBy, r_refusals, r_letters, r_placeIn, r_letterOf, r_numbers, r_stepsRead, r_stepsBy, r_kept, r_keptWarms, r_i_imaged, r_imagedWarms, r_turns0, r_turnWarms0, r_turnOf, r_turnWarms, r_row0, r_gains, r_pegSort, r_pegMany, r_pegHolds, r_coats, r_coatsMoved⟩ := t
  obtain ⟨H, P, pc, pn, I, L, T, hN, hP, hI, hT, hO, hR, hG⟩ := R
  have hN : pNow H g_n_shutBits g_n_airs g_n_crownedBits g_n_sitters g_n_onBits g_n_turn g_n_taken g_n_warmth g_n_kind g_n_figure g_n_airCell g_n_way g_n_seat g_n_shawls g_n_count g_n_steps g_n_numbers r_airs r_sitters r_stepMany r_today r_taken r_warms r_shutAt r_kinds0 r_figures r_airAt r_ways r_crowned r_sitsAt r_shawls r_isOn r_stepOf r_stepBy r_isStill := hN
  have hP : pPast P pc pn g_past_next g_past_count g_k_shutBits g_k_airs g_k_crownedBits g_k_sitters g_k_onBits g_k_turn g_k_taken g_k_warmth g_k_kind g_k_figure g_k_airCell g_k_way g_k_seat g_k_shawls g_k_count g_k_steps g_k_numbers r_turned r_turns0 r_turnWarms0 := hP
  have hI : pImg I g_hasImage g_i_shutBits g_i_airs g_i_crownedBits g_i_sitters g_i_onBits g_i_turn g_i_taken g_i_warmth g_i_kind g_i_figure g_i_airCell g_i_way g_i_seat g_i_shawls g_i_count g_i_steps g_i_numbers r_hasImage r_i_imaged r_imagedWarms := hI
  have hT : pText L g_text_length g_text_letters r_letterMany r_letters := hT
  have hO : pTold T g_toldCount g_told r_rowMany r_row0 := hO
  have hR : pRef  g_refused r_refusals := hR
  have hG : pPegs  g_coats_sorts g_coats_sizes g_places r_pegSort r_pegMany r_pegHolds r_coats := hG
  rw [F6_feed_b, F7_feed_b]
  obtain ⟨tL, tc, tr, tt⟩ := hT
  unfold f_X6_feed f_X7_feed
  by_cases h0 : 0 ≤ n0
  · rw [dq_if_pos h0, dq_if_pos h0]
    by_cases h1 : (255 : Int32) < n0
    · rw [dq_if_pos h1, dq_if_pos h1]
      have hT : pText L g_text_length g_text_letters r_letterMany r_letters := ⟨tL, tc, tr, tt⟩
      rw [dq_bd2_s (c_refuse 6 (by omega) (by omega) (-6 : Int32) (by decide)), dq_bd2_s (r_refuse 6 (by omega) (by omega) (-6 : Int32) (by decide))]
      exact ⟨_, _, _, rfl, rfl, H, P, pc, pn, I, L, T, hN, hP, hI, hT, hO, pRef_u hR, hG⟩
    · rw [dq_if_neg h1, dq_if_neg h1]
      by_cases h2 : L < 96
      · rw [dq_if_pos (by rw [tc, show (96 : Int32) = nI 96 from rfl]; exact nI_lt h2 (by omega)), dq_if_neg (by rw [tr, show (96 : Int32) = nI 96 from rfl]; exact fun z => absurd ((nI_eq (by omega) (by omega)).mp z) (by omega)), dq_gd_pos (by rw [tc]; exact vp_in_nI h2 (by omega)), dq_gd_pos (by rw [tr]; exact vp_in_nI h2 (by omega))]
        simp only [dq_let]
        rw [tc, tr, nI_clamp (by omega), show nI L + (1 : Int32) = nI (L + 1) from nI_1 L]
        refine ⟨_, _, _, rfl, rfl, H, P, pc, pn, I, L + 1, T, hN, hP, hI, ⟨h2, rfl, rfl, fun i hi => ?_⟩, hO, hR, hG⟩
        show upd r_letters L n0 i = upd g_text_letters L n0 i ∧ ∃ c, c < 256 ∧ upd g_text_letters L n0 i = nI c
        by_cases z : i = L
        · subst z
          rw [pk_us, pk_us]
          refine ⟨rfl, n0.toInt.toNat, ?_, ?_⟩
          · have := Int32.le_iff_toInt_le.mp h0
            have := mt Int32.lt_iff_toInt_lt.mpr h1
            rw [show (255 : Int32).toInt = 255 from rfl] at this
            omega
          · have := Int32.le_iff_toInt_le.mp h0
            have hl := n0.toInt_lt
            rw [i0] at this
            apply Int32.toInt_inj.mp
            rw [nI_toInt (by omega)]
            omega
        · rw [pk_un z, pk_un z]
          exact tt i (by omega)
      · rw [dq_if_neg (by rw [tc, show (96 : Int32) = nI 96 from rfl]; exact nI_nlt (by omega) (by omega)), dq_if_pos (by rw [tr, show L = 96 by omega]; rfl)]
        have hT : pText L g_text_length g_text_letters r_letterMany r_letters := ⟨tL, tc, tr, tt⟩
        rw [dq_bd2_s (c_refuse 6 (by omega) (by omega) (-6 : Int32) (by decide)), dq_bd2_s (r_refuse 6 (by omega) (by omega) (-6 : Int32) (by decide))]
        exact ⟨_, _, _, rfl, rfl, H, P, pc, pn, I, L, T, hN, hP, hI, hT, hO, pRef_u hR, hG⟩
  · rw [dq_if_neg h0, dq_if_neg h0]
    have hT : pText L g_text_length g_text_letters r_letterMany r_letters := ⟨tL, tc, tr, tt⟩
    rw [dq_bd2_s (c_refuse 4 (by omega) (by omega) (-4 : Int32) (by decide)), dq_bd2_s (r_refuse 4 (by omega) (by omega) (-4 : Int32) (by decide))]
    exact ⟨_, _, _, rfl, rfl, H, P, pc, pn, I, L, T, hN, hP, hI, hT, hO, pRef_u hR, hG⟩
theorem s_clear {s : S6} {t : S7} (a b : Nat → Nat) (R : Rel s t) : Sim (F6_clear s) (F7_clear t) := by
  obtain ⟨g_hasImage, g_toldCount, g_n_shutBits, g_n_airs, g_n_crownedBits, g_n_sitters, g_n_onBits, g_n_turn, g_n_taken, g_n_warmth, g_n_kind, g_n_figure, g_n_airCell, g_n_way, g_n_seat, g_n_shawls, g_n_count, g_n_steps, g_n_numbers, g_m_shutBits, g_m_airs, g_m_crownedBits, g_m_sitters, g_m_onBits, g_m_turn, g_m_taken, g_m_warmth, g_m_kind, g_m_figure, g_m_airCell, g_m_way, g_m_seat, g_m_shawls, g_m_count, g_m_steps, g_m_numbers, g_i_shutBits, g_i_airs, g_i_crownedBits, g_i_sitters, g_i_onBits, g_i_turn, g_i_taken, g_i_warmth, g_i_kind, g_i_figure, g_i_airCell, g_i_way, g_i_seat, g_i_shawls, g_i_count, g_i_steps, g_i_numbers, g_past_next, g_past_count, g_text_length, g_text_letters, g_coats_sorts, g_coats_sizes, g_places, g_coats_carried, g_told, g_refused, g_oneHas, g_otherHas, g_k_shutBits, g_k_airs, g_k_crownedBits, g_k_sitters, g_k_onBits, g_k_turn, g_k_taken, g_k_warmth, g_k_kind, g_k_figure, g_k_airCell, g_k_way, g_k_seat, g_k_shawls, g_k_count, g_k_steps, g_k_numbers⟩ := s
  obtain ⟨r_airs, r_sitters, r_stepMany, r_today, r_taken, r_isStill, r_thrown, r_letterMany, r_at0, r_isBad, r_statements, r_stepsMany, r_hasImage, r_place0, r_isTaking, r_keptIn, r_turned, r_rowMany, r_seed, r_warms, r_shutAt, r_kinds0, r_figures, r_airAt, r_ways, r_crowned, r_sitsAt, r_shawls, r_isOn, r_stepOf, r_stepBy, r_refusals, r_letters, r_placeIn, r_letterOf, r_numbers, r_stepsRead, r_stepsBy, r_kept, r_keptWarms, r_i_imaged, r_imagedWarms, r_turns0, r_turnWarms0, r_turnOf, r_turnWarms, r_row0, r_gains, r_pegSort, r_pegMany, r_pegHolds, r_coats, r_coatsMoved⟩ := t
  obtain ⟨H, P, pc, pn, I, L, T, hN, hP, hI, hT, hO, hR, hG⟩ := R
  have hN : pNow H g_n_shutBits g_n_airs g_n_crownedBits g_n_sitters g_n_onBits g_n_turn g_n_taken g_n_warmth g_n_kind g_n_figure g_n_airCell g_n_way g_n_seat g_n_shawls g_n_count g_n_steps g_n_numbers r_airs r_sitters r_stepMany r_today r_taken r_warms r_shutAt r_kinds0 r_figures r_airAt r_ways r_crowned r_sitsAt r_shawls r_isOn r_stepOf r_stepBy r_isStill := hN
  have hP : pPast P pc pn g_past_next g_past_count g_k_shutBits g_k_airs g_k_crownedBits g_k_sitters g_k_onBits g_k_turn g_k_taken g_k_warmth g_k_kind g_k_figure g_k_airCell g_k_way g_k_seat g_k_shawls g_k_count g_k_steps g_k_numbers r_turned r_turns0 r_turnWarms0 := hP
  have hI : pImg I g_hasImage g_i_shutBits g_i_airs g_i_crownedBits g_i_sitters g_i_onBits g_i_turn g_i_taken g_i_warmth g_i_kind g_i_figure g_i_airCell g_i_way g_i_seat g_i_shawls g_i_count g_i_steps g_i_numbers r_hasImage r_i_imaged r_imagedWarms := hI
  have hT : pText L g_text_length g_text_letters r_letterMany r_letters := hT
  have hO : pTold T g_toldCount g_told r_rowMany r_row0 := hO
  have hR : pRef  g_refused r_refusals := hR
  have hG : pPegs  g_coats_sorts g_coats_sizes g_places r_pegSort r_pegMany r_pegHolds r_coats := hG
  rw [F6_clear_b, F7_clear_b]
  obtain ⟨oT, oc, orr, ot⟩ := hO
  unfold f_X6_clear f_X7_clear
  rw [oc, orr]
  exact ⟨_, _, _, rfl, rfl, H, P, pc, pn, I, L, 0, hN, hP, hI, hT, ⟨by omega, nI_0.symm, nI_0.symm, fun i hi => absurd hi (by omega)⟩, hR, hG⟩
