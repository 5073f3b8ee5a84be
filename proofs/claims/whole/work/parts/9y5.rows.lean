/-! the calls: in mind -/
theorem s_airThen {s : S6} {t : S7} (a b : Nat → Nat) (R : Rel s t) (n0 : Int32) (n1 : Int32) : Sim (F6_airThen s n0 n1) (F7_airThen t b n0 n1) := by
  refine Rel_o (C := fun s t => Sim (F6_airThen s n0 n1) (F7_airThen t b n0 n1)) R ?_
  intro H P pc pn I L T g_hasImage g_n_warmth g_n_kind g_n_figure g_n_airCell g_n_way g_n_seat g_n_shawls g_n_steps g_n_numbers g_m_shutBits g_m_airs g_m_crownedBits g_m_sitters g_m_onBits g_m_turn g_m_taken g_m_warmth g_m_kind g_m_figure g_m_airCell g_m_way g_m_seat g_m_shawls g_m_count g_m_steps g_m_numbers g_i_shutBits g_i_airs g_i_crownedBits g_i_sitters g_i_onBits g_i_turn g_i_taken g_i_warmth g_i_kind g_i_figure g_i_airCell g_i_way g_i_seat g_i_shawls g_i_count g_i_steps g_i_numbers g_text_letters g_coats_sorts g_coats_sizes g_places g_coats_carried g_told g_refused g_oneHas g_otherHas g_k_shutBits g_k_airs g_k_crownedBits g_k_sitters g_k_onBits g_k_turn g_k_taken g_k_warmth g_k_kind g_k_figure g_k_airCell g_k_way g_k_seat g_k_shawls g_k_count g_k_steps g_k_numbers r_thrown r_at0 r_isBad r_statements r_stepsMany r_hasImage r_place0 r_isTaking r_keptIn r_seed r_warms r_shutAt r_kinds0 r_figures r_airAt r_ways r_crowned r_sitsAt r_shawls r_isOn r_stepOf r_stepBy r_refusals r_letters r_placeIn r_letterOf r_numbers r_stepsRead r_stepsBy r_kept r_keptWarms r_i_imaged r_imagedWarms r_turns0 r_turnWarms0 r_turnOf r_turnWarms r_row0 r_gains r_pegSort r_pegMany r_pegHolds r_coats r_coatsMoved hE hF hg hpc hpn hK hQ hPg hI hL hT hTl hO hR hG
  show Sim (F6_airThen _ n0 n1) (F7_airThen _ b n0 n1)
  rw [F6_airThen_b, F7_airThen_b]
  refine sim_o ?_
  unfold f_X6_airThen f_X7_airThen
  have hV := hg.1
  obtain ⟨hA5, hS6, hH6, hT20, hK9⟩ := hV.1
  by_cases q : ixB n0 (aA H) = true
  · obtain ⟨a1, ha, rfl⟩ := ixB_t q
    have hv : vp_in (nI a1) 5 := vp_in_nI (by omega) (by omega)
    have hcl : (nI a1).toNatClampNeg = a1 := nI_clamp (by omega)
    rw [hcl]
    rcases wr_3 n1 0 60 (by omega) (by omega) with ⟨w1, w2⟩ | ⟨w1, w2, w3⟩ | ⟨n, -, hn, rfl, w1⟩
    · refine Okt (c_isAir _ (by omega)) q (Ok1 (c_wr w1) (Okn (by decide) (Ok2 (c_refuse 4 (by omega) (by omega) _ (by decide)) (Okv ?_))))
      refine Okt (r_isAir _ (by omega)) q (Ok1 (r_wr w1) (Okn (by decide) (Ok1 (r_wr w1) (Ok2 (r_refuse 4 (by omega) (by omega) _ (by decide)) (Okv ?_)))))
      exact ⟨rfl, Rel_i H P pc pn I L T ⟨hE, hF, hg, rfl⟩ ⟨⟨hpc, hpn, rfl, rfl, rfl⟩, hK, hQ, hPg⟩ hI ⟨hL, rfl, rfl, hT⟩ ⟨hTl, rfl, rfl, hO⟩ (pRef_u hR) hG⟩
    · refine Okt (c_isAir _ (by omega)) q (Ok1 (c_wr w1) (Okn (by decide) (Ok2 (c_refuse 6 (by omega) (by omega) _ (by decide)) (Okv ?_))))
      refine Okt (r_isAir _ (by omega)) q (Ok1 (r_wr w1) (Okn (by decide) (Ok1 (r_wr w1) (Ok2 (r_refuse 6 (by omega) (by omega) _ (by decide)) (Okv ?_)))))
      exact ⟨rfl, Rel_i H P pc pn I L T ⟨hE, hF, hg, rfl⟩ ⟨⟨hpc, hpn, rfl, rfl, rfl⟩, hK, hQ, hPg⟩ hI ⟨hL, rfl, rfl, hT⟩ ⟨hTl, rfl, rfl, hO⟩ (pRef_u hR) hG⟩
    · obtain ⟨GV, gA, gS, gT⟩ := goS_V n hV (by have := hg.2.2; omega)
      refine Okt (c_isAir _ (by omega)) q (Ok1 (c_wr w1) (Okp rfl ?_))
      refine K_thinkOf (by omega) hV (by have := hg.2.2; omega) hE ?_
      intro _ _ _ _ _ _ _ _ _ _ _ _ _ E1
      refine Okg hv (Okv ?_)
      refine Okt (r_isAir _ (by omega)) q (Ok1 (r_wr w1) (Okp (by decide) ?_))
      refine K_think hV hF ?_
      intro _ _ _ _ _ _ _ _ _ _ _ _ _ _ F1 Q1
      refine K_go (by omega) hV (by have := hg.2.2; omega) F1 ?_
      intro _ _ _ _ _ _ _ _ F2
      refine Okg hv (Okl ?_)
      refine K_again hV Q1 ?_
      intro _ _ _ _ _ _ _ _ _ _ _ _ _ _ _ _ _ _ _ F3 Q3
      refine Okv ?_
      exact ⟨((E1.2.2.1 a1 (by omega)).2.2.1.trans (F2.2.1 a1 (by omega)).2.2.1.symm), Rel_i H P pc pn I L T ⟨hE, F3, hg, rfl⟩ ⟨⟨hpc, hpn, rfl, rfl, rfl⟩, hK, hQ, hPg⟩ hI ⟨hL, rfl, rfl, hT⟩ ⟨hTl, rfl, rfl, hO⟩ hR hG⟩
  · refine Okf (c_isAir _ (by omega)) q (Ok2 (c_refuse 1 (by omega) (by omega) _ (by decide)) (Okv ?_))
    refine Okf (r_isAir _ (by omega)) q (Ok2 (r_refuse 1 (by omega) (by omega) _ (by decide)) (Okv ?_))
    exact ⟨rfl, Rel_i H P pc pn I L T ⟨hE, hF, hg, rfl⟩ ⟨⟨hpc, hpn, rfl, rfl, rfl⟩, hK, hQ, hPg⟩ hI ⟨hL, rfl, rfl, hT⟩ ⟨hTl, rfl, rfl, hO⟩ (pRef_u hR) hG⟩
theorem s_then {s : S6} {t : S7} (a b : Nat → Nat) (R : Rel s t) (n0 : Int32) (n1 : Int32) : Sim (F6_then s n0 n1) (F7_then t b n0 n1) := by
  refine Rel_o (C := fun s t => Sim (F6_then s n0 n1) (F7_then t b n0 n1)) R ?_
  intro H P pc pn I L T g_hasImage g_n_warmth g_n_kind g_n_figure g_n_airCell g_n_way g_n_seat g_n_shawls g_n_steps g_n_numbers g_m_shutBits g_m_airs g_m_crownedBits g_m_sitters g_m_onBits g_m_turn g_m_taken g_m_warmth g_m_kind g_m_figure g_m_airCell g_m_way g_m_seat g_m_shawls g_m_count g_m_steps g_m_numbers g_i_shutBits g_i_airs g_i_crownedBits g_i_sitters g_i_onBits g_i_turn g_i_taken g_i_warmth g_i_kind g_i_figure g_i_airCell g_i_way g_i_seat g_i_shawls g_i_count g_i_steps g_i_numbers g_text_letters g_coats_sorts g_coats_sizes g_places g_coats_carried g_told g_refused g_oneHas g_otherHas g_k_shutBits g_k_airs g_k_crownedBits g_k_sitters g_k_onBits g_k_turn g_k_taken g_k_warmth g_k_kind g_k_figure g_k_airCell g_k_way g_k_seat g_k_shawls g_k_count g_k_steps g_k_numbers r_thrown r_at0 r_isBad r_statements r_stepsMany r_hasImage r_place0 r_isTaking r_keptIn r_seed r_warms r_shutAt r_kinds0 r_figures r_airAt r_ways r_crowned r_sitsAt r_shawls r_isOn r_stepOf r_stepBy r_refusals r_letters r_placeIn r_letterOf r_numbers r_stepsRead r_stepsBy r_kept r_keptWarms r_i_imaged r_imagedWarms r_turns0 r_turnWarms0 r_turnOf r_turnWarms r_row0 r_gains r_pegSort r_pegMany r_pegHolds r_coats r_coatsMoved hE hF hg hpc hpn hK hQ hPg hI hL hT hTl hO hR hG
  show Sim (F6_then _ n0 n1) (F7_then _ b n0 n1)
  rw [F6_then_b, F7_then_b]
  refine sim_o ?_
  unfold f_X6_then f_X7_then f_X7_then_b27
  have hV := hg.1
  obtain ⟨hA5, hS6, hH6, hT20, hK9⟩ := hV.1
  rcases wr_3 n0 0 60 (by omega) (by omega) with ⟨w1, w2⟩ | ⟨w1, w2, w3⟩ | ⟨n, -, hn, rfl, w1⟩
  · refine Ok1 (c_wr w1) (Okn (by decide) (Ok2 (c_refuse 4 (by omega) (by omega) _ (by decide)) (Okv ?_)))
    refine Ok1 (r_wr w1) (Okp (by decide) (Ok1 (r_wr w1) (Okn (by decide) (Ok1 (r_wr w1) (Ok2 (r_refuse 4 (by omega) (by omega) _ (by decide)) (Okv ?_))))))
    exact ⟨rfl, Rel_i H P pc pn I L T ⟨hE, hF, hg, rfl⟩ ⟨⟨hpc, hpn, rfl, rfl, rfl⟩, hK, hQ, hPg⟩ hI ⟨hL, rfl, rfl, hT⟩ ⟨hTl, rfl, rfl, hO⟩ (pRef_u hR) hG⟩
  · refine Ok1 (c_wr w1) (Okn (by decide) (Ok2 (c_refuse 6 (by omega) (by omega) _ (by decide)) (Okv ?_)))
    refine Ok1 (r_wr w1) (Okp (by decide) (Ok1 (r_wr w1) (Okn (by decide) (Ok1 (r_wr w1) (Ok2 (r_refuse 6 (by omega) (by omega) _ (by decide)) (Okv ?_))))))
    exact ⟨rfl, Rel_i H P pc pn I L T ⟨hE, hF, hg, rfl⟩ ⟨⟨hpc, hpn, rfl, rfl, rfl⟩, hK, hQ, hPg⟩ hI ⟨hL, rfl, rfl, hT⟩ ⟨hTl, rfl, rfl, hO⟩ (pRef_u hR) hG⟩
  · by_cases q : ixB n1 3 = true
    · obtain ⟨j, hj, rfl⟩ := ixB_t q
      obtain ⟨GV, gA, gS, gT⟩ := goS_V n hV (by have := hg.2.2; omega)
      rcases (show j = 0 ∨ j = 1 ∨ j = 2 by omega) with rfl | rfl | rfl
      · refine Ok1 (c_wr w1) (Okp rfl (Okn (by decide) (Okp (by decide) ?_)))
        refine K_thinkOf (by omega) hV (by have := hg.2.2; omega) hE ?_
        intro _ _ _ _ _ _ _ _ _ _ _ _ _ E1
        refine Okp (by decide) (Okv ?_)
        refine Ok1 (r_wr w1) (Okn (by decide) (Okt (in_ix 3 (by decide)) q ?_))
        refine K_think hV hF ?_
        intro _ _ _ _ _ _ _ _ _ _ _ _ _ _ F1 Q1
        refine K_go (by omega) hV (by have := hg.2.2; omega) F1 ?_
        intro _ _ _ _ _ _ _ _ F2
        refine Okp (by decide) (Ok1 (r_onBits GV F2) ?_)
        refine K_again hV Q1 ?_
        intro _ _ _ _ _ _ _ _ _ _ _ _ _ _ _ _ _ _ _ F3 Q3
        refine Okv ?_
        exact ⟨E1.2.1.2.1, Rel_i H P pc pn I L T ⟨hE, F3, hg, rfl⟩ ⟨⟨hpc, hpn, rfl, rfl, rfl⟩, hK, hQ, hPg⟩ hI ⟨hL, rfl, rfl, hT⟩ ⟨hTl, rfl, rfl, hO⟩ hR hG⟩
      · refine Ok1 (c_wr w1) (Okp rfl (Okn (by decide) (Okp (by decide) ?_)))
        refine K_thinkOf (by omega) hV (by have := hg.2.2; omega) hE ?_
        intro _ _ _ _ _ _ _ _ _ _ _ _ _ E1
        refine Okn (by decide) (Okp (by decide) (Okv ?_))
        refine Ok1 (r_wr w1) (Okn (by decide) (Okt (in_ix 3 (by decide)) q ?_))
        refine K_think hV hF ?_
        intro _ _ _ _ _ _ _ _ _ _ _ _ _ _ F1 Q1
        refine K_go (by omega) hV (by have := hg.2.2; omega) F1 ?_
        intro _ _ _ _ _ _ _ _ F2
        refine Okn (by decide) (Okp (by decide) ?_)
        refine K_again hV Q1 ?_
        intro _ _ _ _ _ _ _ _ _ _ _ _ _ _ _ _ _ _ _ F3 Q3
        refine Okv ?_
        exact ⟨(E1.1.2.2.2.2.trans F2.1.2.2.2.2.symm), Rel_i H P pc pn I L T ⟨hE, F3, hg, rfl⟩ ⟨⟨hpc, hpn, rfl, rfl, rfl⟩, hK, hQ, hPg⟩ hI ⟨hL, rfl, rfl, hT⟩ ⟨hTl, rfl, rfl, hO⟩ hR hG⟩
      · refine Ok1 (c_wr w1) (Okp rfl (Okn (by decide) (Okp (by decide) ?_)))
        refine K_thinkOf (by omega) hV (by have := hg.2.2; omega) hE ?_
        intro _ _ _ _ _ _ _ _ _ _ _ _ _ E1
        refine Okn (by decide) (Okn (by decide) (Ok1 (y := nI (oC (bN (aCr (goS n H)) (aA (goS n H))))) (by rw [E1.2.1.1]; exact c_pop6 ⟨_, bN6 _ (by omega)⟩) (Okv ?_)))
        refine Ok1 (r_wr w1) (Okn (by decide) (Okt (in_ix 3 (by decide)) q ?_))
        refine K_think hV hF ?_
        intro _ _ _ _ _ _ _ _ _ _ _ _ _ _ F1 Q1
        refine K_go (by omega) hV (by have := hg.2.2; omega) F1 ?_
        intro _ _ _ _ _ _ _ _ F2
        refine Okn (by decide) (Okn (by decide) (Ok1 (r_crM GV F2) ?_))
        refine K_again hV Q1 ?_
        intro _ _ _ _ _ _ _ _ _ _ _ _ _ _ _ _ _ _ _ F3 Q3
        refine Okv ?_
        exact ⟨rfl, Rel_i H P pc pn I L T ⟨hE, F3, hg, rfl⟩ ⟨⟨hpc, hpn, rfl, rfl, rfl⟩, hK, hQ, hPg⟩ hI ⟨hL, rfl, rfl, hT⟩ ⟨hTl, rfl, rfl, hO⟩ hR hG⟩
    · rcases ix2 (by omega) q with w | ⟨w, w2⟩
      · refine Ok1 (c_wr w1) (Okp rfl (Okp w (Ok2 (c_refuse 2 (by omega) (by omega) _ (by decide)) (Okv ?_))))
        refine Ok1 (r_wr w1) (Okn (by decide) (Okf (in_ix 3 (by decide)) q (Ok1 (r_wr w1) (Okp (by decide) (Ok2 (r_refuse 2 (by omega) (by omega) _ (by decide)) (Okv ?_))))))
        exact ⟨rfl, Rel_i H P pc pn I L T ⟨hE, hF, hg, rfl⟩ ⟨⟨hpc, hpn, rfl, rfl, rfl⟩, hK, hQ, hPg⟩ hI ⟨hL, rfl, rfl, hT⟩ ⟨hTl, rfl, rfl, hO⟩ (pRef_u hR) hG⟩
      · refine Ok1 (c_wr w1) (Okp rfl (Okn w (Okn (fun z => absurd (Int32.le_iff_toInt_le.mp (Int32.le_trans w2 z)) (by decide)) (Ok2 (c_refuse 2 (by omega) (by omega) _ (by decide)) (Okv ?_)))))
        refine Ok1 (r_wr w1) (Okn (by decide) (Okf (in_ix 3 (by decide)) q (Ok1 (r_wr w1) (Okp (by decide) (Ok2 (r_refuse 2 (by omega) (by omega) _ (by decide)) (Okv ?_))))))
        exact ⟨rfl, Rel_i H P pc pn I L T ⟨hE, hF, hg, rfl⟩ ⟨⟨hpc, hpn, rfl, rfl, rfl⟩, hK, hQ, hPg⟩ hI ⟨hL, rfl, rfl, hT⟩ ⟨hTl, rfl, rfl, hO⟩ (pRef_u hR) hG⟩
theorem s_warmThen {s : S6} {t : S7} (a b : Nat → Nat) (R : Rel s t) (n0 : Int32) (n1 : Int32) : Sim (F6_warmThen s n0 n1) (F7_warmThen t b n0 n1) := by
  refine Rel_o (C := fun s t => Sim (F6_warmThen s n0 n1) (F7_warmThen t b n0 n1)) R ?_
  intro H P pc pn I L T g_hasImage g_n_warmth g_n_kind g_n_figure g_n_airCell g_n_way g_n_seat g_n_shawls g_n_steps g_n_numbers g_m_shutBits g_m_airs g_m_crownedBits g_m_sitters g_m_onBits g_m_turn g_m_taken g_m_warmth g_m_kind g_m_figure g_m_airCell g_m_way g_m_seat g_m_shawls g_m_count g_m_steps g_m_numbers g_i_shutBits g_i_airs g_i_crownedBits g_i_sitters g_i_onBits g_i_turn g_i_taken g_i_warmth g_i_kind g_i_figure g_i_airCell g_i_way g_i_seat g_i_shawls g_i_count g_i_steps g_i_numbers g_text_letters g_coats_sorts g_coats_sizes g_places g_coats_carried g_told g_refused g_oneHas g_otherHas g_k_shutBits g_k_airs g_k_crownedBits g_k_sitters g_k_onBits g_k_turn g_k_taken g_k_warmth g_k_kind g_k_figure g_k_airCell g_k_way g_k_seat g_k_shawls g_k_count g_k_steps g_k_numbers r_thrown r_at0 r_isBad r_statements r_stepsMany r_hasImage r_place0 r_isTaking r_keptIn r_seed r_warms r_shutAt r_kinds0 r_figures r_airAt r_ways r_crowned r_sitsAt r_shawls r_isOn r_stepOf r_stepBy r_refusals r_letters r_placeIn r_letterOf r_numbers r_stepsRead r_stepsBy r_kept r_keptWarms r_i_imaged r_imagedWarms r_turns0 r_turnWarms0 r_turnOf r_turnWarms r_row0 r_gains r_pegSort r_pegMany r_pegHolds r_coats r_coatsMoved hE hF hg hpc hpn hK hQ hPg hI hL hT hTl hO hR hG
  show Sim (F6_warmThen _ n0 n1) (F7_warmThen _ b n0 n1)
  rw [F6_warmThen_b, F7_warmThen_b]
  refine sim_o ?_
  unfold f_X6_warmThen f_X7_warmThen
  have hV := hg.1
  obtain ⟨hA5, hS6, hH6, hT20, hK9⟩ := hV.1
  by_cases q : ixB n0 36 = true
  · obtain ⟨c, hc, rfl⟩ := ixB_t q
    have hv : vp_in (nI c) 36 := vp_in_nI (by omega) (by omega)
    have hcl : (nI c).toNatClampNeg = c := nI_clamp (by omega)
    rw [hcl]
    by_cases q1 : ixB n1 61 = true
    · obtain ⟨n, hn, rfl⟩ := ixB_t q1
      obtain ⟨GV, gA, gS, gT⟩ := goS_V n hV (by have := hg.2.2; omega)
      have f := GV.2.2.2.2 c hc
      refine Okt (c_isCell _) q (Okn (nI_pos (by omega)) (Okp (nI_le (b := 60) (by omega) (by omega)) ?_))
      refine K_thinkOf (by omega) hV (by have := hg.2.2; omega) hE ?_
      intro _ _ _ _ _ _ _ _ _ _ _ _ _ E1
      refine Okg hv (Ok1 (by rw [E1.2.2.2.2.2 c hc]; exact bits_ok (f.b.bt (by omega))) (Okv ?_))
      refine Okt (r_isCell _) q (Okt (in_ix 61 (by decide)) q1 ?_)
      refine K_think hV hF ?_
      intro _ _ _ _ _ _ _ _ _ _ _ _ _ _ F1 Q1
      refine K_go (by omega) hV (by have := hg.2.2; omega) F1 ?_
      intro _ _ _ _ _ _ _ _ F2
      refine Okg hv (Ok1 (by rw [F2.2.2.2.2.2 c hc]; exact r_bits (f.b.nan (by omega))) ?_)
      refine K_again hV Q1 ?_
      intro _ _ _ _ _ _ _ _ _ _ _ _ _ _ _ _ _ _ _ F3 Q3
      refine Okv ?_
      exact ⟨rfl, Rel_i H P pc pn I L T ⟨hE, F3, hg, rfl⟩ ⟨⟨hpc, hpn, rfl, rfl, rfl⟩, hK, hQ, hPg⟩ hI ⟨hL, rfl, rfl, hT⟩ ⟨hTl, rfl, rfl, hO⟩ hR hG⟩
    · rcases ix2 (by omega) q1 with w | ⟨w, w2⟩
      · refine Okt (c_isCell _) q (Okp w (Okv ?_))
        refine Okt (r_isCell _) q (Okf (in_ix 61 (by decide)) q1 (Okv ?_))
        exact ⟨rfl, Rel_i H P pc pn I L T ⟨hE, hF, hg, rfl⟩ ⟨⟨hpc, hpn, rfl, rfl, rfl⟩, hK, hQ, hPg⟩ hI ⟨hL, rfl, rfl, hT⟩ ⟨hTl, rfl, rfl, hO⟩ hR hG⟩
      · refine Okt (c_isCell _) q (Okn w (Okn (fun z => absurd (Int32.le_iff_toInt_le.mp (Int32.le_trans w2 z)) (by decide)) (Okv ?_)))
        refine Okt (r_isCell _) q (Okf (in_ix 61 (by decide)) q1 (Okv ?_))
        exact ⟨rfl, Rel_i H P pc pn I L T ⟨hE, hF, hg, rfl⟩ ⟨⟨hpc, hpn, rfl, rfl, rfl⟩, hK, hQ, hPg⟩ hI ⟨hL, rfl, rfl, hT⟩ ⟨hTl, rfl, rfl, hO⟩ hR hG⟩
  · refine Okf (c_isCell _) q (Okv ?_)
    refine Okf (r_isCell _) q (Okv ?_)
    exact ⟨rfl, Rel_i H P pc pn I L T ⟨hE, hF, hg, rfl⟩ ⟨⟨hpc, hpn, rfl, rfl, rfl⟩, hK, hQ, hPg⟩ hI ⟨hL, rfl, rfl, hT⟩ ⟨hTl, rfl, rfl, hO⟩ hR hG⟩
theorem s_count {s : S6} {t : S7} (a b : Nat → Nat) (R : Rel s t) (n0 : Int32) : Sim (F6_count s n0) (F7_count t n0) := by
  refine Rel_o (C := fun s t => Sim (F6_count s n0) (F7_count t n0)) R ?_
  intro H P pc pn I L T g_hasImage g_n_warmth g_n_kind g_n_figure g_n_airCell g_n_way g_n_seat g_n_shawls g_n_steps g_n_numbers g_m_shutBits g_m_airs g_m_crownedBits g_m_sitters g_m_onBits g_m_turn g_m_taken g_m_warmth g_m_kind g_m_figure g_m_airCell g_m_way g_m_seat g_m_shawls g_m_count g_m_steps g_m_numbers g_i_shutBits g_i_airs g_i_crownedBits g_i_sitters g_i_onBits g_i_turn g_i_taken g_i_warmth g_i_kind g_i_figure g_i_airCell g_i_way g_i_seat g_i_shawls g_i_count g_i_steps g_i_numbers g_text_letters g_coats_sorts g_coats_sizes g_places g_coats_carried g_told g_refused g_oneHas g_otherHas g_k_shutBits g_k_airs g_k_crownedBits g_k_sitters g_k_onBits g_k_turn g_k_taken g_k_warmth g_k_kind g_k_figure g_k_airCell g_k_way g_k_seat g_k_shawls g_k_count g_k_steps g_k_numbers r_thrown r_at0 r_isBad r_statements r_stepsMany r_hasImage r_place0 r_isTaking r_keptIn r_seed r_warms r_shutAt r_kinds0 r_figures r_airAt r_ways r_crowned r_sitsAt r_shawls r_isOn r_stepOf r_stepBy r_refusals r_letters r_placeIn r_letterOf r_numbers r_stepsRead r_stepsBy r_kept r_keptWarms r_i_imaged r_imagedWarms r_turns0 r_turnWarms0 r_turnOf r_turnWarms r_row0 r_gains r_pegSort r_pegMany r_pegHolds r_coats r_coatsMoved hE hF hg hpc hpn hK hQ hPg hI hL hT hTl hO hR hG
  show Sim (F6_count _ n0) (F7_count _ n0)
  rw [F6_count_b, F7_count_b]
  refine sim_o ?_
  unfold f_X6_count f_X7_count f_X6_count_b22
  have hV := hg.1
  obtain ⟨hA5, hS6, hH6, hT20, hK9⟩ := hV.1
  by_cases q : ixB n0 10 = true
  · obtain ⟨j, hj, rfl⟩ := ixB_t q
    rcases (show j = 0 ∨ j = 1 ∨ j = 2 ∨ j = 3 ∨ j = 4 ∨ j = 5 ∨ j = 6 ∨ j = 7 ∨ j = 8 ∨ j = 9 by omega) with rfl | rfl | rfl | rfl | rfl | rfl | rfl | rfl | rfl | rfl
    · refine Okp (by decide) (Okp (by decide) (Okv ?_))
      refine Okp (by decide) (Okv ?_)
      exact ⟨rfl, Rel_i H P pc pn I L T ⟨hE, hF, hg, rfl⟩ ⟨⟨hpc, hpn, rfl, rfl, rfl⟩, hK, hQ, hPg⟩ hI ⟨hL, rfl, rfl, hT⟩ ⟨hTl, rfl, rfl, hO⟩ hR hG⟩
    · refine Okp (by decide) (Okn (by decide) (Okp (by decide) (Okv ?_)))
      refine Okn (by decide) (Okp (by decide) (Okv ?_))
      exact ⟨rfl, Rel_i H P pc pn I L T ⟨hE, hF, hg, rfl⟩ ⟨⟨hpc, hpn, rfl, rfl, rfl⟩, hK, hQ, hPg⟩ hI ⟨hL, rfl, rfl, hT⟩ ⟨hTl, rfl, rfl, hO⟩ hR hG⟩
    · refine Okp (by decide) (Okn (by decide) (Okn (by decide) (Okp (by decide) (Okv ?_))))
      refine Okn (by decide) (Okn (by decide) (Okp (by decide) (Okv ?_)))
      exact ⟨rfl, Rel_i H P pc pn I L T ⟨hE, hF, hg, rfl⟩ ⟨⟨hpc, hpn, rfl, rfl, rfl⟩, hK, hQ, hPg⟩ hI ⟨hL, rfl, rfl, hT⟩ ⟨hTl, rfl, rfl, hO⟩ hR hG⟩
    · refine Okp (by decide) (Okn (by decide) (Okn (by decide) (Okn (by decide) (Okp (by decide) (Okv ?_)))))
      refine Okn (by decide) (Okn (by decide) (Okn (by decide) (Okp (by decide) (Okv ?_))))
      exact ⟨rfl, Rel_i H P pc pn I L T ⟨hE, hF, hg, rfl⟩ ⟨⟨hpc, hpn, rfl, rfl, rfl⟩, hK, hQ, hPg⟩ hI ⟨hL, rfl, rfl, hT⟩ ⟨hTl, rfl, rfl, hO⟩ hR hG⟩
    · refine Okp (by decide) (Okn (by decide) (Okn (by decide) (Okn (by decide) (Okn (by decide) (Okp (by decide) (Okv ?_))))))
      refine Okn (by decide) (Okn (by decide) (Okn (by decide) (Okn (by decide) (Okp (by decide) (Ok1 (r_onBits hV hF) (Okv ?_))))))
      exact ⟨rfl, Rel_i H P pc pn I L T ⟨hE, hF, hg, rfl⟩ ⟨⟨hpc, hpn, rfl, rfl, rfl⟩, hK, hQ, hPg⟩ hI ⟨hL, rfl, rfl, hT⟩ ⟨hTl, rfl, rfl, hO⟩ hR hG⟩
    · refine Okp (by decide) (Okn (by decide) (Okn (by decide) (Okn (by decide) (Okn (by decide) (Okn (by decide) (Okp (by decide) (Okv ?_)))))))
      refine Okn (by decide) (Okn (by decide) (Okn (by decide) (Okn (by decide) (Okn (by decide) (Okp (by decide) (Okv ?_))))))
      exact ⟨rfl, Rel_i H P pc pn I L T ⟨hE, hF, hg, rfl⟩ ⟨⟨hpc, hpn, rfl, rfl, rfl⟩, hK, hQ, hPg⟩ hI ⟨hL, rfl, rfl, hT⟩ ⟨hTl, rfl, rfl, hO⟩ hR hG⟩
    · refine Okp (by decide) (Okn (by decide) (Okn (by decide) (Okn (by decide) (Okn (by decide) (Okn (by decide) (Okn (by decide) (Okp (by decide) (Ok1 (c_pop36 _) (Okv ?_)))))))))
      refine Okn (by decide) (Okn (by decide) (Okn (by decide) (Okn (by decide) (Okn (by decide) (Okn (by decide) (Okp (by decide) (Ok1 (r_shM hF.2.2.2.2.1) (Okv ?_))))))))
      exact ⟨rfl, Rel_i H P pc pn I L T ⟨hE, hF, hg, rfl⟩ ⟨⟨hpc, hpn, rfl, rfl, rfl⟩, hK, hQ, hPg⟩ hI ⟨hL, rfl, rfl, hT⟩ ⟨hTl, rfl, rfl, hO⟩ hR hG⟩
    · refine Okp (by decide) (Okn (by decide) (Okn (by decide) (Okn (by decide) (Okn (by decide) (Okn (by decide) (Okn (by decide) (Okn (by decide) (Okp (by decide) (Okv ?_)))))))))
      refine Okn (by decide) (Okn (by decide) (Okn (by decide) (Okn (by decide) (Okn (by decide) (Okn (by decide) (Okn (by decide) (Okp (by decide) (Okv ?_))))))))
      exact ⟨rfl, Rel_i H P pc pn I L T ⟨hE, hF, hg, rfl⟩ ⟨⟨hpc, hpn, rfl, rfl, rfl⟩, hK, hQ, hPg⟩ hI ⟨hL, rfl, rfl, hT⟩ ⟨hTl, rfl, rfl, hO⟩ hR hG⟩
    · refine Okp (by decide) (Okn (by decide) (Okn (by decide) (Okn (by decide) (Okn (by decide) (Okn (by decide) (Okn (by decide) (Okn (by decide) (Okn (by decide) (Okp (by decide) (Okv ?_))))))))))
      refine Okn (by decide) (Okn (by decide) (Okn (by decide) (Okn (by decide) (Okn (by decide) (Okn (by decide) (Okn (by decide) (Okn (by decide) (Okp (by decide) (Okv ?_)))))))))
      exact ⟨rfl, Rel_i H P pc pn I L T ⟨hE, hF, hg, rfl⟩ ⟨⟨hpc, hpn, rfl, rfl, rfl⟩, hK, hQ, hPg⟩ hI ⟨hL, rfl, rfl, hT⟩ ⟨hTl, rfl, rfl, hO⟩ hR hG⟩
    · refine Okp (by decide) (Okn (by decide) (Okn (by decide) (Okn (by decide) (Okn (by decide) (Okn (by decide) (Okn (by decide) (Okn (by decide) (Okn (by decide) (Okn (by decide) (Okp (by decide) (Okv ?_)))))))))))
      refine Okn (by decide) (Okn (by decide) (Okn (by decide) (Okn (by decide) (Okn (by decide) (Okn (by decide) (Okn (by decide) (Okn (by decide) (Okn (by decide) (Okp (by decide) (Okv ?_))))))))))
      exact ⟨rfl, Rel_i H P pc pn I L T ⟨hE, hF, hg, rfl⟩ ⟨⟨hpc, hpn, rfl, rfl, rfl⟩, hK, hQ, hPg⟩ hI ⟨hL, rfl, rfl, hT⟩ ⟨hTl, rfl, rfl, hO⟩ hR hG⟩
  · have hno : ∀ j : Nat, j < 10 → ¬ n0 = nI j := fun j hj => ixX q (ixB_j hj (by omega))
    by_cases q1 : ∃ j : Nat, 1 ≤ j ∧ j ≤ 6 ∧ n0 = nI (j + 10)
    · obtain ⟨j, j1, j6, rfl⟩ := q1
      have e10 : nI (j + 10) - (10 : Int32) = nI j := by rw [show (10 : Int32) = nI 10 from rfl, pk_sub (by omega), Nat.add_sub_cancel]
      have hv : vp_in (nI j) 7 := vp_in_nI (by omega) (by omega)
      have hin : inB (nI (j + 10)) (11 : Int64).toInt (16 : Int64).toInt = true := by
        refine decide_eq_true ?_
        rw [nI_toInt (by omega), show (11 : Int64).toInt = 11 by decide, show (16 : Int64).toInt = 16 by decide]
        omega
      rw [e10, nI_clamp (n := j) (by omega)]
      refine Okn (nI_nlt (b := 11) (by omega) (by omega)) (Okn (nI_nlt (a := 16) (by omega) (by omega)) (Okg hv (Okv ?_)))
      refine Okn (hno 0 (by omega)) (Okn (hno 1 (by omega)) (Okn (hno 2 (by omega)) (Okn (hno 3 (by omega)) (Okn (hno 4 (by omega)) (Okn (hno 5 (by omega)) (Okn (hno 6 (by omega)) (Okn (hno 7 (by omega)) (Okn (hno 8 (by omega)) (Okn (hno 9 (by omega)) (Okt (r_in _ _ _) hin (Okg hv (Okv ?_))))))))))))
      exact ⟨(hR j j1 j6).symm, Rel_i H P pc pn I L T ⟨hE, hF, hg, rfl⟩ ⟨⟨hpc, hpn, rfl, rfl, rfl⟩, hK, hQ, hPg⟩ hI ⟨hL, rfl, rfl, hT⟩ ⟨hTl, rfl, rfl, hO⟩ hR hG⟩
    · have hin : ¬ inB n0 (11 : Int64).toInt (16 : Int64).toInt = true := by
        intro z
        have z := of_decide_eq_true z
        rw [show (11 : Int64).toInt = 11 by decide, show (16 : Int64).toInt = 16 by decide] at z
        refine q1 ⟨n0.toInt.toNat - 10, by omega, by omega, ?_⟩
        rw [show n0.toInt.toNat - 10 + 10 = n0.toInt.toNat by omega]
        exact nat_of (by omega)
      by_cases l1 : n0 < 11
      · refine Okp l1 (Okn (hno 0 (by omega)) (Okn (hno 1 (by omega)) (Okn (hno 2 (by omega)) (Okn (hno 3 (by omega)) (Okn (hno 4 (by omega)) (Okn (hno 5 (by omega)) (Okn (hno 6 (by omega)) (Okn (hno 7 (by omega)) (Okn (hno 8 (by omega)) (Okn (hno 9 (by omega)) (Okv ?_)))))))))))
        refine Okn (hno 0 (by omega)) (Okn (hno 1 (by omega)) (Okn (hno 2 (by omega)) (Okn (hno 3 (by omega)) (Okn (hno 4 (by omega)) (Okn (hno 5 (by omega)) (Okn (hno 6 (by omega)) (Okn (hno 7 (by omega)) (Okn (hno 8 (by omega)) (Okn (hno 9 (by omega)) (Okf (r_in _ _ _) hin (Okv ?_)))))))))))
        exact ⟨rfl, Rel_i H P pc pn I L T ⟨hE, hF, hg, rfl⟩ ⟨⟨hpc, hpn, rfl, rfl, rfl⟩, hK, hQ, hPg⟩ hI ⟨hL, rfl, rfl, hT⟩ ⟨hTl, rfl, rfl, hO⟩ hR hG⟩
      · have l2 : (16 : Int32) < n0 := by
          apply Int32.not_le.mp
          intro z
          refine hin (decide_eq_true ?_)
          have z1 := Int32.le_iff_toInt_le.mp z
          have z2 := Int32.le_iff_toInt_le.mp (Int32.not_lt.mp l1)
          rw [show (11 : Int64).toInt = (11 : Int32).toInt by decide, show (16 : Int64).toInt = (16 : Int32).toInt by decide]
          exact ⟨z2, z1⟩
        refine Okn l1 (Okp l2 (Okn (hno 0 (by omega)) (Okn (hno 1 (by omega)) (Okn (hno 2 (by omega)) (Okn (hno 3 (by omega)) (Okn (hno 4 (by omega)) (Okn (hno 5 (by omega)) (Okn (hno 6 (by omega)) (Okn (hno 7 (by omega)) (Okn (hno 8 (by omega)) (Okn (hno 9 (by omega)) (Okv ?_))))))))))))
        refine Okn (hno 0 (by omega)) (Okn (hno 1 (by omega)) (Okn (hno 2 (by omega)) (Okn (hno 3 (by omega)) (Okn (hno 4 (by omega)) (Okn (hno 5 (by omega)) (Okn (hno 6 (by omega)) (Okn (hno 7 (by omega)) (Okn (hno 8 (by omega)) (Okn (hno 9 (by omega)) (Okf (r_in _ _ _) hin (Okv ?_)))))))))))
        exact ⟨rfl, Rel_i H P pc pn I L T ⟨hE, hF, hg, rfl⟩ ⟨⟨hpc, hpn, rfl, rfl, rfl⟩, hK, hQ, hPg⟩ hI ⟨hL, rfl, rfl, hT⟩ ⟨hTl, rfl, rfl, hO⟩ hR hG⟩
