/-! the calls: what changes the house -/
theorem r_wr {x a b v : Int32} (e : wrB x a b = v) : f_X7_wrongNumber x a b = some v := by rw [r_wrong, e]
theorem c_wr {x a b v : Int32} (e : wrB x a b = v) : f_X6_refusalOf x a b = some v := by rw [c_refusalOf, e]
theorem ix2 {x : Int32} {n : Nat} (hn : n < 2 ^ 31) (q : ¬ ixB x n = true) : x < 0 ∨ (¬ x < 0 ∧ nI n ≤ x) := by
  by_cases h : x < 0
  · exact Or.inl h
  · refine Or.inr ⟨h, Int32.le_iff_toInt_le.mpr ?_⟩
    rw [nI_toInt hn]
    have h1 := mt Int32.lt_iff_toInt_lt.mpr h
    have h2 : ¬ (0 ≤ x.toInt ∧ x.toInt < (n : Int)) := fun z => q (decide_eq_true z)
    rw [i0] at h1
    omega
theorem neg_3 (x : Int32) : (wrB x (-100) 100 = -4 ∧ ¬ 0 ≤ x ∧ inB x (-100 : Int64).toInt (100 : Int64).toInt = false) ∨ (wrB x (-100) 100 = -6 ∧ 0 ≤ x ∧ inB x (-100 : Int64).toInt (100 : Int64).toInt = false) ∨ (∃ k : Fin 201, x = nI k.val - nI 100 ∧ wrB x (-100) 100 = 0 ∧ inB x (-100 : Int64).toInt (100 : Int64).toInt = true) := by
  have m1 : (-100 : Int64).toInt = -100 := by decide
  have m2 : (100 : Int64).toInt = 100 := by decide
  have m3 : (-100 : Int32).toInt = -100 := by decide
  have m4 : (100 : Int32).toInt = 100 := by decide
  unfold wrB inB
  rw [m1, m2]
  by_cases h : (-100 : Int32) ≤ x
  · have h1 := Int32.le_iff_toInt_le.mp h
    rw [m3] at h1
    rw [if_pos h]
    by_cases q : x ≤ (100 : Int32)
    · have h2 := Int32.le_iff_toInt_le.mp q
      rw [m4] at h2
      rw [if_pos q]
      refine Or.inr (Or.inr ⟨⟨(x.toInt + 100).toNat, by omega⟩, ?_, rfl, decide_eq_true ⟨h1, h2⟩⟩)
      apply Int32.toInt_inj.mp
      show x.toInt = (nI (x.toInt + 100).toNat - nI 100).toInt
      rw [pk_sub_toInt (by omega) (by omega)]
      omega
    · have h2 := mt Int32.le_iff_toInt_le.mpr q
      rw [m4] at h2
      rw [if_neg q]
      refine Or.inr (Or.inl ⟨rfl, Int32.le_iff_toInt_le.mpr (by rw [i0]; omega), decide_eq_false (by omega)⟩)
  · have h1 := mt Int32.le_iff_toInt_le.mpr h
    rw [m3] at h1
    rw [if_neg h]
    refine Or.inl ⟨rfl, fun z => ?_, decide_eq_false (by omega)⟩
    have z := Int32.le_iff_toInt_le.mp z
    rw [i0] at z
    omega
theorem r_addAir {h : AH} {ai si hc tn tk : Int32} {wm : Nat → UInt32} {sh ki fi ac wy cr se sl on hs hn : Nat → Int32} (V : aV h) (E : HR h ai si hc tn tk wm sh ki fi ac wy cr se sl on hs hn) {kd fg c w : Nat} (hk : kd < 8) (hc36 : c < 36) (hw : w < 4) (hA : aA h < 5) (hf : freeS h c = true) : f_X7_airComesNew ai si sh ki fi ac wy cr se on (nI kd) (nI fg) (nI c) (nI w) = some (1, nI (aA h + 1), upd ki (aA h) (nI kd), upd fi (aA h) (nI fg), upd ac (aA h) (nI c), upd wy (aA h) (nI w), upd cr (aA h) 0) := by
  have hv : vp_in (nI (aA h)) 5 := vp_in_nI hA (by omega)
  have hz : dq_z (1 : Int32) := by unfold dq_z; decide
  unfold f_X7_airComesNew
  rw [show (8 : Int32) = nI 8 from rfl, dq_if_neg (nI_ge hk (by omega)), dq_bd_s (r_isCell _), dq_if_neg (fun z => nB_0.mp z (ixB_j hc36 (by omega))), show (4 : Int32) = nI 4 from rfl, dq_if_neg (nI_ge hw (by omega)), E.1.1, show (5 : Int32) = nI 5 from rfl, dq_if_neg (nI_ge hA (by omega)), ← E.1.1, dq_bd_s (r_isFree V E hc36), dq_if_neg (fun z => nB_0.mp z hf)]
  unfold f_X7_airComesNew_b40
  rw [dq_if_neg (by decide), E.1.1, dq_gd_pos hv, nI_clamp (by omega)]
  simp only [dq_let]
  rw [dq_gd_pos hv, dq_gd_pos hv, dq_gd_pos hv, dq_gd_pos hv, dq_gd_pos hz, show nI (aA h) + (1 : Int32) = nI (aA h + 1) from nI_1 _]
theorem r_addSit {h : AH} {ai si hc tn tk : Int32} {wm : Nat → UInt32} {sh ki fi ac wy cr se sl on hs hn : Nat → Int32} (V : aV h) (E : HR h ai si hc tn tk wm sh ki fi ac wy cr se sl on hs hn) {c n : Nat} (hc36 : c < 36) (hS : aS h < 6) (hf : freeS h c = true) : f_X7_sitterComes ai si sh ac se sl on (nI c) (nI n) = some (1, nI (aS h + 1), upd se (aS h) (nI c), upd sl (aS h) (nI n), upd on (aS h) 1) := by
  have hv : vp_in (nI (aS h)) 6 := vp_in_nI hS (by omega)
  have hz : dq_z (1 : Int32) := by unfold dq_z; decide
  unfold f_X7_sitterComes
  rw [dq_bd_s (r_isCell _), dq_if_neg (fun z => nB_0.mp z (ixB_j hc36 (by omega))), E.1.2.1, show (6 : Int32) = nI 6 from rfl, dq_if_neg (nI_ge hS (by omega)), ← E.1.2.1, dq_bd_s (r_isFree V E hc36), dq_if_neg (fun z => nB_0.mp z hf)]
  unfold f_X7_sitterComes_b29
  rw [dq_if_neg (by decide), E.1.2.1, dq_gd_pos hv, nI_clamp (by omega)]
  simp only [dq_let]
  rw [dq_gd_pos hv, dq_gd_pos hv, dq_gd_pos hz, show nI (aS h) + (1 : Int32) = nI (aS h + 1) from nI_1 _]
theorem toggle_at {h : AH} {c : Nat} : aSd (toggleS h c) c = !aSd h c := up_s
theorem s_shuts {s : S6} {t : S7} (a b : Nat → Nat) (R : Rel s t) (n0 : Int32) : Sim (F6_shuts s n0) (F7_shuts t b n0) := by
  refine Rel_o (C := fun s t => Sim (F6_shuts s n0) (F7_shuts t b n0)) R ?_
  intro H P pc pn I L T g_hasImage g_n_warmth g_n_kind g_n_figure g_n_airCell g_n_way g_n_seat g_n_shawls g_n_steps g_n_numbers g_m_shutBits g_m_airs g_m_crownedBits g_m_sitters g_m_onBits g_m_turn g_m_taken g_m_warmth g_m_kind g_m_figure g_m_airCell g_m_way g_m_seat g_m_shawls g_m_count g_m_steps g_m_numbers g_i_shutBits g_i_airs g_i_crownedBits g_i_sitters g_i_onBits g_i_turn g_i_taken g_i_warmth g_i_kind g_i_figure g_i_airCell g_i_way g_i_seat g_i_shawls g_i_count g_i_steps g_i_numbers g_text_letters g_coats_sorts g_coats_sizes g_places g_coats_carried g_told g_refused g_oneHas g_otherHas g_k_shutBits g_k_airs g_k_crownedBits g_k_sitters g_k_onBits g_k_turn g_k_taken g_k_warmth g_k_kind g_k_figure g_k_airCell g_k_way g_k_seat g_k_shawls g_k_count g_k_steps g_k_numbers r_thrown r_at0 r_isBad r_statements r_stepsMany r_hasImage r_place0 r_isTaking r_keptIn r_seed r_warms r_shutAt r_kinds0 r_figures r_airAt r_ways r_crowned r_sitsAt r_shawls r_isOn r_stepOf r_stepBy r_refusals r_letters r_placeIn r_letterOf r_numbers r_stepsRead r_stepsBy r_kept r_keptWarms r_i_imaged r_imagedWarms r_turns0 r_turnWarms0 r_turnOf r_turnWarms r_row0 r_gains r_pegSort r_pegMany r_pegHolds r_coats r_coatsMoved hE hF hg hpc hpn hK hQ hPg hI hL hT hTl hO hR hG
  show Sim (F6_shuts _ n0) (F7_shuts _ b n0)
  rw [F6_shuts_b, F7_shuts_b]
  refine sim_o ?_
  unfold f_X6_shuts f_X7_shuts f_X7_shuts_b42
  have hV := hg.1
  obtain ⟨hA5, hS6, hH6, hT20, hK9⟩ := hV.1
  by_cases q : ixB n0 36 = true
  · obtain ⟨c, hc, rfl⟩ := ixB_t q
    have hv : vp_in (nI c) 36 := vp_in_nI (by omega) (by omega)
    have hcl : (nI c).toNatClampNeg = c := nI_clamp (by omega)
    have f2 := hF.2.2.2.2.1 c hc
    rw [hcl]
    by_cases t : takenS H c = true
    · have sd : aSd H c = false := by
        cases z : aSd H c with
        | false => rfl
        | true =>
          have := hg.2.1 c hc z
          rw [t] at this
          cases this
      refine Okt (c_isCell _) q (Ok1 (c_isTk hV hE hc) (Okn (fun z => nB_0.mp z t) (Ok2 (c_refuse 3 (by omega) (by omega) _ (by decide)) (Okv ?_))))
      refine Okt (r_isCell _) q (Okg hv (Okp (by rw [f2, sd]; rfl) (Okf (r_isEmpty hV hF hc) (by rw [t]; decide) (Ok2 (r_refuse 3 (by omega) (by omega) _ (by decide)) (Okv ?_)))))
      exact ⟨rfl, Rel_i H P pc pn I L T ⟨hE, hF, hg, rfl⟩ ⟨⟨hpc, hpn, rfl, rfl, rfl⟩, hK, hQ, hPg⟩ hI ⟨hL, rfl, rfl, hT⟩ ⟨hTl, rfl, rfl, hO⟩ (pRef_u hR) hG⟩
    · have t' : takenS H c = false := by simpa using t
      obtain ⟨sb', tg, E'⟩ := c_toggle hE hc
      obtain ⟨_, _, _, _, _, _, _, _, _, _, _, _, _, _, _, _, _, k6, hK'⟩ := c_keep hV hE hpc hpn hK
      obtain ⟨_, _, _, _, _, _, _, _, _, _, _, _, _, _, _, _, k7, hF', hQ'⟩ := r_keepTurn (a := b) (tO := r_turnOf) (tW := r_turnWarms) hV hF (fun i hi => (hPg i hi).1) hpc hQ
      have G : aG (toggleS H c) := ⟨show aV (toggleS H c) from hV, aI_of (aJ_toggle hV (aJ_of hV hg.2.1) t'), hg.2.2⟩
      have g2 := hF'.2.2.2.2.1 c hc
      by_cases sd : aSd H c = true
      · refine Okt (c_isCell _) q (Okf (c_isTk hV hE hc) t (Ok19 k6 (Ok1 tg (Okf (c_isSh E' hc) (by rw [toggle_at, sd]; decide) (Okv ?_)))))
        refine Okt (r_isCell _) q (Okg hv (Okn (by rw [f2, sd]; decide) (Ok25 k7 (Okg hv (Okg hv (Okl (Okg hv (Okv ?_))))))))
        exact ⟨(by show (0 : Int32) = upd _ c _ c; rw [pk_us, g2, sd]; rfl), Rel_i (toggleS H c) (keepP pc H P) (min (pc + 1) 8) ((pn + 1) % 8) I L T ⟨E', toggle_R hF' hc, G, rfl⟩ ⟨⟨by omega, Nat.mod_lt _ (by decide), rfl, rfl, rfl⟩, hK', hQ', keepP_G hg hPg⟩ hI ⟨hL, rfl, rfl, hT⟩ ⟨hTl, rfl, rfl, hO⟩ hR hG⟩
      · refine Okt (c_isCell _) q (Okf (c_isTk hV hE hc) t (Ok19 k6 (Ok1 tg (Okt (c_isSh E' hc) (by rw [toggle_at]; simpa using sd) (Okv ?_)))))
        refine Okt (r_isCell _) q (Okg hv (Okp (by rw [f2]; exact nB_0.mpr sd) (Okt (r_isEmpty hV hF hc) (by rw [t']; decide) (Ok25 k7 (Okg hv (Okg hv (Okl (Okg hv (Okv ?_)))))))))
        exact ⟨(by show (1 : Int32) = upd _ c _ c; rw [pk_us, g2, nB_0.mpr sd]; rfl), Rel_i (toggleS H c) (keepP pc H P) (min (pc + 1) 8) ((pn + 1) % 8) I L T ⟨E', toggle_R hF' hc, G, rfl⟩ ⟨⟨by omega, Nat.mod_lt _ (by decide), rfl, rfl, rfl⟩, hK', hQ', keepP_G hg hPg⟩ hI ⟨hL, rfl, rfl, hT⟩ ⟨hTl, rfl, rfl, hO⟩ hR hG⟩
  · refine Okf (c_isCell _) q (Ok2 (c_refuse 1 (by omega) (by omega) _ (by decide)) (Okv ?_))
    refine Okf (r_isCell _) q (Ok2 (r_refuse 1 (by omega) (by omega) _ (by decide)) (Okv ?_))
    exact ⟨rfl, Rel_i H P pc pn I L T ⟨hE, hF, hg, rfl⟩ ⟨⟨hpc, hpn, rfl, rfl, rfl⟩, hK, hQ, hPg⟩ hI ⟨hL, rfl, rfl, hT⟩ ⟨hTl, rfl, rfl, hO⟩ (pRef_u hR) hG⟩
theorem s_warms {s : S6} {t : S7} (a b : Nat → Nat) (R : Rel s t) (n0 : Int32) (n1 : Int32) : Sim (F6_warms s n0 n1) (F7_warms t b n0 n1) := by
  refine Rel_o (C := fun s t => Sim (F6_warms s n0 n1) (F7_warms t b n0 n1)) R ?_
  intro H P pc pn I L T g_hasImage g_n_warmth g_n_kind g_n_figure g_n_airCell g_n_way g_n_seat g_n_shawls g_n_steps g_n_numbers g_m_shutBits g_m_airs g_m_crownedBits g_m_sitters g_m_onBits g_m_turn g_m_taken g_m_warmth g_m_kind g_m_figure g_m_airCell g_m_way g_m_seat g_m_shawls g_m_count g_m_steps g_m_numbers g_i_shutBits g_i_airs g_i_crownedBits g_i_sitters g_i_onBits g_i_turn g_i_taken g_i_warmth g_i_kind g_i_figure g_i_airCell g_i_way g_i_seat g_i_shawls g_i_count g_i_steps g_i_numbers g_text_letters g_coats_sorts g_coats_sizes g_places g_coats_carried g_told g_refused g_oneHas g_otherHas g_k_shutBits g_k_airs g_k_crownedBits g_k_sitters g_k_onBits g_k_turn g_k_taken g_k_warmth g_k_kind g_k_figure g_k_airCell g_k_way g_k_seat g_k_shawls g_k_count g_k_steps g_k_numbers r_thrown r_at0 r_isBad r_statements r_stepsMany r_hasImage r_place0 r_isTaking r_keptIn r_seed r_warms r_shutAt r_kinds0 r_figures r_airAt r_ways r_crowned r_sitsAt r_shawls r_isOn r_stepOf r_stepBy r_refusals r_letters r_placeIn r_letterOf r_numbers r_stepsRead r_stepsBy r_kept r_keptWarms r_i_imaged r_imagedWarms r_turns0 r_turnWarms0 r_turnOf r_turnWarms r_row0 r_gains r_pegSort r_pegMany r_pegHolds r_coats r_coatsMoved hE hF hg hpc hpn hK hQ hPg hI hL hT hTl hO hR hG
  show Sim (F6_warms _ n0 n1) (F7_warms _ b n0 n1)
  rw [F6_warms_b, F7_warms_b]
  refine sim_o ?_
  unfold f_X6_warms f_X7_warms
  have hV := hg.1
  obtain ⟨hA5, hS6, hH6, hT20, hK9⟩ := hV.1
  by_cases q : ixB n0 36 = true
  · obtain ⟨c, hc, rfl⟩ := ixB_t q
    have hv : vp_in (nI c) 36 := vp_in_nI (by omega) (by omega)
    have hcl : (nI c).toNatClampNeg = c := nI_clamp (by omega)
    rw [hcl]
    rcases neg_3 n1 with ⟨w1, w2, w3⟩ | ⟨w1, w2, w3⟩ | ⟨k, rfl, w1, w3⟩
    · refine Okt (c_isCell _) q (Ok1 (c_wr w1) (Okn (by decide) (Ok2 (c_refuse 4 (by omega) (by omega) _ (by decide)) (Okv ?_))))
      refine Okt (r_isCell _) q (Okf (r_in _ _ _) (by rw [w3]; decide) (Okn w2 (Ok2 (r_refuse 4 (by omega) (by omega) _ (by decide)) (Okv ?_))))
      exact ⟨rfl, Rel_i H P pc pn I L T ⟨hE, hF, hg, rfl⟩ ⟨⟨hpc, hpn, rfl, rfl, rfl⟩, hK, hQ, hPg⟩ hI ⟨hL, rfl, rfl, hT⟩ ⟨hTl, rfl, rfl, hO⟩ (pRef_u hR) hG⟩
    · refine Okt (c_isCell _) q (Ok1 (c_wr w1) (Okn (by decide) (Ok2 (c_refuse 6 (by omega) (by omega) _ (by decide)) (Okv ?_))))
      refine Okt (r_isCell _) q (Okf (r_in _ _ _) (by rw [w3]; decide) (Okp w2 (Ok2 (r_refuse 6 (by omega) (by omega) _ (by decide)) (Okv ?_))))
      exact ⟨rfl, Rel_i H P pc pn I L T ⟨hE, hF, hg, rfl⟩ ⟨⟨hpc, hpn, rfl, rfl, rfl⟩, hK, hQ, hPg⟩ hI ⟨hL, rfl, rfl, hT⟩ ⟨hTl, rfl, rfl, hO⟩ (pRef_u hR) hG⟩
    · have e1 := hE.2.2.2.2.2 c hc
      obtain ⟨_, _, _, _, _, _, _, _, _, _, _, _, _, _, _, _, _, k6, hK'⟩ := c_keep hV hE hpc hpn hK
      obtain ⟨_, _, _, _, _, _, _, _, _, _, _, _, _, _, _, _, k7, hF', hQ'⟩ := r_keepTurn (a := b) (tO := r_turnOf) (tW := r_turnWarms) hV hF (fun i hi => (hPg i hi).1) hpc hQ
      have g1 := hF'.2.2.2.2.2 c hc
      refine Okt (c_isCell _) q (Ok1 (c_wr w1) (Okp rfl (Ok19 k6 (Okg hv (Okl (Okg hv (Okl (Okv ?_))))))))
      refine Okt (r_isCell _) q (Okt (r_in _ _ _) w3 (Ok25 k7 (Okg hv (Okl (Okg hv (Okl (Okv ?_)))))))
      exact ⟨(by show FP.f2i (g_n_warmth c) = FP.f2i _; rw [e1, g1]), Rel_i (warmS H c (FP.i2f (nI k.val - nI 100))) (keepP pc H P) (min (pc + 1) 8) ((pn + 1) % 8) I L T ⟨warmS_C hE, warmS_R hF', ⟨warmS_V hV (i2f_H k), hg.2.1, hg.2.2⟩, rfl⟩ ⟨⟨by omega, Nat.mod_lt _ (by decide), rfl, rfl, rfl⟩, hK', hQ', keepP_G hg hPg⟩ hI ⟨hL, rfl, rfl, hT⟩ ⟨hTl, rfl, rfl, hO⟩ hR hG⟩
  · refine Okf (c_isCell _) q (Ok2 (c_refuse 1 (by omega) (by omega) _ (by decide)) (Okv ?_))
    refine Okf (r_isCell _) q (Ok2 (r_refuse 1 (by omega) (by omega) _ (by decide)) (Okv ?_))
    exact ⟨rfl, Rel_i H P pc pn I L T ⟨hE, hF, hg, rfl⟩ ⟨⟨hpc, hpn, rfl, rfl, rfl⟩, hK, hQ, hPg⟩ hI ⟨hL, rfl, rfl, hT⟩ ⟨hTl, rfl, rfl, hO⟩ (pRef_u hR) hG⟩
theorem s_sits {s : S6} {t : S7} (a b : Nat → Nat) (R : Rel s t) (n0 : Int32) (n1 : Int32) : Sim (F6_sits s n0 n1) (F7_sits t b n0 n1) := by
  refine Rel_o (C := fun s t => Sim (F6_sits s n0 n1) (F7_sits t b n0 n1)) R ?_
  intro H P pc pn I L T g_hasImage g_n_warmth g_n_kind g_n_figure g_n_airCell g_n_way g_n_seat g_n_shawls g_n_steps g_n_numbers g_m_shutBits g_m_airs g_m_crownedBits g_m_sitters g_m_onBits g_m_turn g_m_taken g_m_warmth g_m_kind g_m_figure g_m_airCell g_m_way g_m_seat g_m_shawls g_m_count g_m_steps g_m_numbers g_i_shutBits g_i_airs g_i_crownedBits g_i_sitters g_i_onBits g_i_turn g_i_taken g_i_warmth g_i_kind g_i_figure g_i_airCell g_i_way g_i_seat g_i_shawls g_i_count g_i_steps g_i_numbers g_text_letters g_coats_sorts g_coats_sizes g_places g_coats_carried g_told g_refused g_oneHas g_otherHas g_k_shutBits g_k_airs g_k_crownedBits g_k_sitters g_k_onBits g_k_turn g_k_taken g_k_warmth g_k_kind g_k_figure g_k_airCell g_k_way g_k_seat g_k_shawls g_k_count g_k_steps g_k_numbers r_thrown r_at0 r_isBad r_statements r_stepsMany r_hasImage r_place0 r_isTaking r_keptIn r_seed r_warms r_shutAt r_kinds0 r_figures r_airAt r_ways r_crowned r_sitsAt r_shawls r_isOn r_stepOf r_stepBy r_refusals r_letters r_placeIn r_letterOf r_numbers r_stepsRead r_stepsBy r_kept r_keptWarms r_i_imaged r_imagedWarms r_turns0 r_turnWarms0 r_turnOf r_turnWarms r_row0 r_gains r_pegSort r_pegMany r_pegHolds r_coats r_coatsMoved hE hF hg hpc hpn hK hQ hPg hI hL hT hTl hO hR hG
  show Sim (F6_sits _ n0 n1) (F7_sits _ b n0 n1)
  rw [F6_sits_b, F7_sits_b]
  refine sim_o ?_
  unfold f_X6_sits f_X7_sits
  have hV := hg.1
  obtain ⟨hA5, hS6, hH6, hT20, hK9⟩ := hV.1
  by_cases q : ixB n0 (aS H) = true
  · obtain ⟨a1, ha, rfl⟩ := ixB_t q
    have hv : vp_in (nI a1) 6 := vp_in_nI (by omega) (by omega)
    have hcl : (nI a1).toNatClampNeg = a1 := nI_clamp (by omega)
    obtain ⟨v1, v2⟩ := hV.2.2.1 a1 ha
    obtain ⟨e1, e2⟩ := hE.2.2.2.1 a1 ha
    obtain ⟨f1, f2, f3⟩ := hF.2.2.1 a1 ha
    rw [hcl]
    by_cases q1 : ixB n1 36 = true
    · obtain ⟨c, hc, rfl⟩ := ixB_t q1
      by_cases t : freeS H c = true
      · obtain ⟨_, _, _, _, _, _, _, _, _, _, _, _, _, _, _, _, _, k6, hK'⟩ := c_keep hV hE hpc hpn hK
        obtain ⟨_, _, _, _, _, _, _, _, _, _, _, _, _, _, _, _, k7, hF', hQ'⟩ := r_keepTurn (a := b) (tO := r_turnOf) (tW := r_turnWarms) hV hF (fun i hi => (hPg i hi).1) hpc hQ
        refine Okt (c_isSitter _ (by omega)) q (Okt (c_isCell _) q1 (Okt (c_isFr hV hE hc) t (Ok19 k6 (Okg hv (Okl (Okg hv (Okl (Okl (Okv ?_)))))))))
        refine Okt (r_isSitter _ (by omega)) q (Okt (r_isCell _) q1 (Okt (r_isFree hV hF hc) t (Ok25 k7 (Okg hv (Okl (Okg hv (Okl (Okg hv (Okl (Okv ?_))))))))))
        exact ⟨(by show g_n_seat a1 = _; rw [e1]; exact (hF'.2.2.1 a1 ha).1.symm), Rel_i (seatS H a1 c) (keepP pc H P) (min (pc + 1) 8) ((pn + 1) % 8) I L T ⟨seatS_C hV hE ha, seatS_R hF', ⟨seatS_V hV hc, aI_of (aJ_seat (aJ_of hV hg.2.1) (free_sd t)), hg.2.2⟩, rfl⟩ ⟨⟨by omega, Nat.mod_lt _ (by decide), rfl, rfl, rfl⟩, hK', hQ', keepP_G hg hPg⟩ hI ⟨hL, rfl, rfl, hT⟩ ⟨hTl, rfl, rfl, hO⟩ hR hG⟩
      · refine Okt (c_isSitter _ (by omega)) q (Okt (c_isCell _) q1 (Okf (c_isFr hV hE hc) t (Ok2 (c_refuse 3 (by omega) (by omega) _ (by decide)) (Okv ?_))))
        refine Okt (r_isSitter _ (by omega)) q (Okt (r_isCell _) q1 (Okf (r_isFree hV hF hc) t (Ok2 (r_refuse 3 (by omega) (by omega) _ (by decide)) (Okv ?_))))
        exact ⟨rfl, Rel_i H P pc pn I L T ⟨hE, hF, hg, rfl⟩ ⟨⟨hpc, hpn, rfl, rfl, rfl⟩, hK, hQ, hPg⟩ hI ⟨hL, rfl, rfl, hT⟩ ⟨hTl, rfl, rfl, hO⟩ (pRef_u hR) hG⟩
    · refine Okt (c_isSitter _ (by omega)) q (Okf (c_isCell _) q1 (Ok2 (c_refuse 1 (by omega) (by omega) _ (by decide)) (Okv ?_)))
      refine Okt (r_isSitter _ (by omega)) q (Okf (r_isCell _) q1 (Ok2 (r_refuse 1 (by omega) (by omega) _ (by decide)) (Okv ?_)))
      exact ⟨rfl, Rel_i H P pc pn I L T ⟨hE, hF, hg, rfl⟩ ⟨⟨hpc, hpn, rfl, rfl, rfl⟩, hK, hQ, hPg⟩ hI ⟨hL, rfl, rfl, hT⟩ ⟨hTl, rfl, rfl, hO⟩ (pRef_u hR) hG⟩
  · refine Okf (c_isSitter _ (by omega)) q (Ok2 (c_refuse 1 (by omega) (by omega) _ (by decide)) (Okv ?_))
    refine Okf (r_isSitter _ (by omega)) q (Ok2 (r_refuse 1 (by omega) (by omega) _ (by decide)) (Okv ?_))
    exact ⟨rfl, Rel_i H P pc pn I L T ⟨hE, hF, hg, rfl⟩ ⟨⟨hpc, hpn, rfl, rfl, rfl⟩, hK, hQ, hPg⟩ hI ⟨hL, rfl, rfl, hT⟩ ⟨hTl, rfl, rfl, hO⟩ (pRef_u hR) hG⟩
theorem s_blows {s : S6} {t : S7} (a b : Nat → Nat) (R : Rel s t) (n0 : Int32) (n1 : Int32) : Sim (F6_blows s n0 n1) (F7_blows t b n0 n1) := by
  refine Rel_o (C := fun s t => Sim (F6_blows s n0 n1) (F7_blows t b n0 n1)) R ?_
  intro H P pc pn I L T g_hasImage g_n_warmth g_n_kind g_n_figure g_n_airCell g_n_way g_n_seat g_n_shawls g_n_steps g_n_numbers g_m_shutBits g_m_airs g_m_crownedBits g_m_sitters g_m_onBits g_m_turn g_m_taken g_m_warmth g_m_kind g_m_figure g_m_airCell g_m_way g_m_seat g_m_shawls g_m_count g_m_steps g_m_numbers g_i_shutBits g_i_airs g_i_crownedBits g_i_sitters g_i_onBits g_i_turn g_i_taken g_i_warmth g_i_kind g_i_figure g_i_airCell g_i_way g_i_seat g_i_shawls g_i_count g_i_steps g_i_numbers g_text_letters g_coats_sorts g_coats_sizes g_places g_coats_carried g_told g_refused g_oneHas g_otherHas g_k_shutBits g_k_airs g_k_crownedBits g_k_sitters g_k_onBits g_k_turn g_k_taken g_k_warmth g_k_kind g_k_figure g_k_airCell g_k_way g_k_seat g_k_shawls g_k_count g_k_steps g_k_numbers r_thrown r_at0 r_isBad r_statements r_stepsMany r_hasImage r_place0 r_isTaking r_keptIn r_seed r_warms r_shutAt r_kinds0 r_figures r_airAt r_ways r_crowned r_sitsAt r_shawls r_isOn r_stepOf r_stepBy r_refusals r_letters r_placeIn r_letterOf r_numbers r_stepsRead r_stepsBy r_kept r_keptWarms r_i_imaged r_imagedWarms r_turns0 r_turnWarms0 r_turnOf r_turnWarms r_row0 r_gains r_pegSort r_pegMany r_pegHolds r_coats r_coatsMoved hE hF hg hpc hpn hK hQ hPg hI hL hT hTl hO hR hG
  show Sim (F6_blows _ n0 n1) (F7_blows _ b n0 n1)
  rw [F6_blows_b, F7_blows_b]
  refine sim_o ?_
  unfold f_X6_blows f_X7_blows f_X7_blows_b25
  have hV := hg.1
  obtain ⟨hA5, hS6, hH6, hT20, hK9⟩ := hV.1
  by_cases q : ixB n0 (aA H) = true
  · obtain ⟨a1, ha, rfl⟩ := ixB_t q
    have hv : vp_in (nI a1) 5 := vp_in_nI (by omega) (by omega)
    have hcl : (nI a1).toNatClampNeg = a1 := nI_clamp (by omega)
    obtain ⟨v1, v2, v3, v4⟩ := hV.2.1 a1 ha
    obtain ⟨e1, e2, e3, e4⟩ := hE.2.2.1 a1 ha
    obtain ⟨f1, f2, f3, f4, f5⟩ := hF.2.1 a1 ha
    rw [hcl]
    by_cases q1 : ixB n1 4 = true
    · obtain ⟨w, hw, rfl⟩ := ixB_t q1
      obtain ⟨_, _, _, _, _, _, _, _, _, _, _, _, _, _, _, _, _, k6, hK'⟩ := c_keep hV hE hpc hpn hK
      obtain ⟨_, _, _, _, _, _, _, _, _, _, _, _, _, _, _, _, k7, hF', hQ'⟩ := r_keepTurn (a := b) (tO := r_turnOf) (tW := r_turnWarms) hV hF (fun i hi => (hPg i hi).1) hpc hQ
      refine Okt (c_isAir _ (by omega)) q (Okn (nI_pos (by omega)) (Okp (nI_lt (b := 4) hw (by omega)) (Ok19 k6 (Okg hv (Okl (Okg hv (Okl (Okv ?_))))))))
      refine Okt (r_isAir _ (by omega)) q (Okt (in_ix 4 (by decide)) q1 (Ok25 k7 (Okg hv (Okl (Okg hv (Okl (Okv ?_)))))))
      exact ⟨(by show g_n_way a1 = _; rw [e4]; exact (hF'.2.1 a1 ha).2.2.2.1.symm), Rel_i (wayS H a1 w) (keepP pc H P) (min (pc + 1) 8) ((pn + 1) % 8) I L T ⟨wayS_C hE, wayS_R hF', ⟨wayS_V hV hw, hg.2.1, hg.2.2⟩, rfl⟩ ⟨⟨by omega, Nat.mod_lt _ (by decide), rfl, rfl, rfl⟩, hK', hQ', keepP_G hg hPg⟩ hI ⟨hL, rfl, rfl, hT⟩ ⟨hTl, rfl, rfl, hO⟩ hR hG⟩
    · rcases ix2 (by omega) q1 with w | ⟨w, w2⟩
      · refine Okt (c_isAir _ (by omega)) q (Okp w (Ok2 (c_refuse 2 (by omega) (by omega) _ (by decide)) (Okv ?_)))
        refine Okt (r_isAir _ (by omega)) q (Okf (in_ix 4 (by decide)) q1 (Okt (r_isAir _ (by omega)) q (Ok2 (r_refuse 2 (by omega) (by omega) _ (by decide)) (Okv ?_))))
        exact ⟨rfl, Rel_i H P pc pn I L T ⟨hE, hF, hg, rfl⟩ ⟨⟨hpc, hpn, rfl, rfl, rfl⟩, hK, hQ, hPg⟩ hI ⟨hL, rfl, rfl, hT⟩ ⟨hTl, rfl, rfl, hO⟩ (pRef_u hR) hG⟩
      · refine Okt (c_isAir _ (by omega)) q (Okn w (Okn (Int32.not_lt.mpr w2) (Ok2 (c_refuse 2 (by omega) (by omega) _ (by decide)) (Okv ?_))))
        refine Okt (r_isAir _ (by omega)) q (Okf (in_ix 4 (by decide)) q1 (Okt (r_isAir _ (by omega)) q (Ok2 (r_refuse 2 (by omega) (by omega) _ (by decide)) (Okv ?_))))
        exact ⟨rfl, Rel_i H P pc pn I L T ⟨hE, hF, hg, rfl⟩ ⟨⟨hpc, hpn, rfl, rfl, rfl⟩, hK, hQ, hPg⟩ hI ⟨hL, rfl, rfl, hT⟩ ⟨hTl, rfl, rfl, hO⟩ (pRef_u hR) hG⟩
  · refine Okf (c_isAir _ (by omega)) q (Ok2 (c_refuse 1 (by omega) (by omega) _ (by decide)) (Okv ?_))
    refine Okf (r_isAir _ (by omega)) q (Okf (r_isAir _ (by omega)) q (Ok2 (r_refuse 1 (by omega) (by omega) _ (by decide)) (Okv ?_)))
    exact ⟨rfl, Rel_i H P pc pn I L T ⟨hE, hF, hg, rfl⟩ ⟨⟨hpc, hpn, rfl, rfl, rfl⟩, hK, hQ, hPg⟩ hI ⟨hL, rfl, rfl, hT⟩ ⟨hTl, rfl, rfl, hO⟩ (pRef_u hR) hG⟩
theorem s_wraps {s : S6} {t : S7} (a b : Nat → Nat) (R : Rel s t) (n0 : Int32) (n1 : Int32) : Sim (F6_wraps s n0 n1) (F7_wraps t b n0 n1) := by
  refine Rel_o (C := fun s t => Sim (F6_wraps s n0 n1) (F7_wraps t b n0 n1)) R ?_
  intro H P pc pn I L T g_hasImage g_n_warmth g_n_kind g_n_figure g_n_airCell g_n_way g_n_seat g_n_shawls g_n_steps g_n_numbers g_m_shutBits g_m_airs g_m_crownedBits g_m_sitters g_m_onBits g_m_turn g_m_taken g_m_warmth g_m_kind g_m_figure g_m_airCell g_m_way g_m_seat g_m_shawls g_m_count g_m_steps g_m_numbers g_i_shutBits g_i_airs g_i_crownedBits g_i_sitters g_i_onBits g_i_turn g_i_taken g_i_warmth g_i_kind g_i_figure g_i_airCell g_i_way g_i_seat g_i_shawls g_i_count g_i_steps g_i_numbers g_text_letters g_coats_sorts g_coats_sizes g_places g_coats_carried g_told g_refused g_oneHas g_otherHas g_k_shutBits g_k_airs g_k_crownedBits g_k_sitters g_k_onBits g_k_turn g_k_taken g_k_warmth g_k_kind g_k_figure g_k_airCell g_k_way g_k_seat g_k_shawls g_k_count g_k_steps g_k_numbers r_thrown r_at0 r_isBad r_statements r_stepsMany r_hasImage r_place0 r_isTaking r_keptIn r_seed r_warms r_shutAt r_kinds0 r_figures r_airAt r_ways r_crowned r_sitsAt r_shawls r_isOn r_stepOf r_stepBy r_refusals r_letters r_placeIn r_letterOf r_numbers r_stepsRead r_stepsBy r_kept r_keptWarms r_i_imaged r_imagedWarms r_turns0 r_turnWarms0 r_turnOf r_turnWarms r_row0 r_gains r_pegSort r_pegMany r_pegHolds r_coats r_coatsMoved hE hF hg hpc hpn hK hQ hPg hI hL hT hTl hO hR hG
  show Sim (F6_wraps _ n0 n1) (F7_wraps _ b n0 n1)
  rw [F6_wraps_b, F7_wraps_b]
  refine sim_o ?_
  unfold f_X6_wraps f_X7_wraps
  have hV := hg.1
  obtain ⟨hA5, hS6, hH6, hT20, hK9⟩ := hV.1
  by_cases q : ixB n0 (aS H) = true
  · obtain ⟨a1, ha, rfl⟩ := ixB_t q
    have hv : vp_in (nI a1) 6 := vp_in_nI (by omega) (by omega)
    have hcl : (nI a1).toNatClampNeg = a1 := nI_clamp (by omega)
    obtain ⟨v1, v2⟩ := hV.2.2.1 a1 ha
    obtain ⟨e1, e2⟩ := hE.2.2.2.1 a1 ha
    obtain ⟨f1, f2, f3⟩ := hF.2.2.1 a1 ha
    rw [hcl]
    rcases wr_3 n1 0 9 (by omega) (by omega) with ⟨w1, w2⟩ | ⟨w1, w2, w3⟩ | ⟨n, -, hn, rfl, w1⟩
    · refine Okt (c_isSitter _ (by omega)) q (Okn w2 (Ok2 (c_refuse 4 (by omega) (by omega) _ (by decide)) (Okv ?_)))
      refine Okt (r_isSitter _ (by omega)) q (Ok1 (r_wr w1) (Okn (by decide) (Ok1 (r_wr w1) (Ok2 (r_refuse 4 (by omega) (by omega) _ (by decide)) (Okv ?_)))))
      exact ⟨rfl, Rel_i H P pc pn I L T ⟨hE, hF, hg, rfl⟩ ⟨⟨hpc, hpn, rfl, rfl, rfl⟩, hK, hQ, hPg⟩ hI ⟨hL, rfl, rfl, hT⟩ ⟨hTl, rfl, rfl, hO⟩ (pRef_u hR) hG⟩
    · refine Okt (c_isSitter _ (by omega)) q (Okp w2 (Okn (Int32.not_le.mpr w3) (Ok2 (c_refuse 6 (by omega) (by omega) _ (by decide)) (Okv ?_))))
      refine Okt (r_isSitter _ (by omega)) q (Ok1 (r_wr w1) (Okn (by decide) (Ok1 (r_wr w1) (Ok2 (r_refuse 6 (by omega) (by omega) _ (by decide)) (Okv ?_)))))
      exact ⟨rfl, Rel_i H P pc pn I L T ⟨hE, hF, hg, rfl⟩ ⟨⟨hpc, hpn, rfl, rfl, rfl⟩, hK, hQ, hPg⟩ hI ⟨hL, rfl, rfl, hT⟩ ⟨hTl, rfl, rfl, hO⟩ (pRef_u hR) hG⟩
    · obtain ⟨_, _, _, _, _, _, _, _, _, _, _, _, _, _, _, _, _, k6, hK'⟩ := c_keep hV hE hpc hpn hK
      obtain ⟨_, _, _, _, _, _, _, _, _, _, _, _, _, _, _, _, k7, hF', hQ'⟩ := r_keepTurn (a := b) (tO := r_turnOf) (tW := r_turnWarms) hV hF (fun i hi => (hPg i hi).1) hpc hQ
      refine Okt (c_isSitter _ (by omega)) q (Okp (nI_pos' (by omega)) (Okp (nI_le (b := 9) hn (by omega)) (Ok19 k6 (Okg hv (Okl (Okg hv (Okl (Okv ?_))))))))
      refine Okt (r_isSitter _ (by omega)) q (Ok1 (r_wr w1) (Okp (by decide) (Ok25 k7 (Okg hv (Okl (Okg hv (Okl (Okv ?_))))))))
      exact ⟨(by show g_n_shawls a1 = _; rw [e2]; exact (hF'.2.2.1 a1 ha).2.1.symm), Rel_i (wrapS H a1 n) (keepP pc H P) (min (pc + 1) 8) ((pn + 1) % 8) I L T ⟨wrapS_C hE, wrapS_R hF', ⟨wrapS_V hV hn, hg.2.1, hg.2.2⟩, rfl⟩ ⟨⟨by omega, Nat.mod_lt _ (by decide), rfl, rfl, rfl⟩, hK', hQ', keepP_G hg hPg⟩ hI ⟨hL, rfl, rfl, hT⟩ ⟨hTl, rfl, rfl, hO⟩ hR hG⟩
  · refine Okf (c_isSitter _ (by omega)) q (Ok2 (c_refuse 1 (by omega) (by omega) _ (by decide)) (Okv ?_))
    refine Okf (r_isSitter _ (by omega)) q (Ok2 (r_refuse 1 (by omega) (by omega) _ (by decide)) (Okv ?_))
    exact ⟨rfl, Rel_i H P pc pn I L T ⟨hE, hF, hg, rfl⟩ ⟨⟨hpc, hpn, rfl, rfl, rfl⟩, hK, hQ, hPg⟩ hI ⟨hL, rfl, rfl, hT⟩ ⟨hTl, rfl, rfl, hO⟩ (pRef_u hR) hG⟩
theorem s_clearHearth {s : S6} {t : S7} (a b : Nat → Nat) (R : Rel s t) : Sim (F6_clearHearth s) (F7_clearHearth t b) := by
  refine Rel_o (C := fun s t => Sim (F6_clearHearth s) (F7_clearHearth t b)) R ?_
  intro H P pc pn I L T g_hasImage g_n_warmth g_n_kind g_n_figure g_n_airCell g_n_way g_n_seat g_n_shawls g_n_steps g_n_numbers g_m_shutBits g_m_airs g_m_crownedBits g_m_sitters g_m_onBits g_m_turn g_m_taken g_m_warmth g_m_kind g_m_figure g_m_airCell g_m_way g_m_seat g_m_shawls g_m_count g_m_steps g_m_numbers g_i_shutBits g_i_airs g_i_crownedBits g_i_sitters g_i_onBits g_i_turn g_i_taken g_i_warmth g_i_kind g_i_figure g_i_airCell g_i_way g_i_seat g_i_shawls g_i_count g_i_steps g_i_numbers g_text_letters g_coats_sorts g_coats_sizes g_places g_coats_carried g_told g_refused g_oneHas g_otherHas g_k_shutBits g_k_airs g_k_crownedBits g_k_sitters g_k_onBits g_k_turn g_k_taken g_k_warmth g_k_kind g_k_figure g_k_airCell g_k_way g_k_seat g_k_shawls g_k_count g_k_steps g_k_numbers r_thrown r_at0 r_isBad r_statements r_stepsMany r_hasImage r_place0 r_isTaking r_keptIn r_seed r_warms r_shutAt r_kinds0 r_figures r_airAt r_ways r_crowned r_sitsAt r_shawls r_isOn r_stepOf r_stepBy r_refusals r_letters r_placeIn r_letterOf r_numbers r_stepsRead r_stepsBy r_kept r_keptWarms r_i_imaged r_imagedWarms r_turns0 r_turnWarms0 r_turnOf r_turnWarms r_row0 r_gains r_pegSort r_pegMany r_pegHolds r_coats r_coatsMoved hE hF hg hpc hpn hK hQ hPg hI hL hT hTl hO hR hG
  show Sim (F6_clearHearth _) (F7_clearHearth _ b)
  rw [F6_clearHearth_b, F7_clearHearth_b]
  refine sim_o ?_
  unfold f_X6_clearHearth f_X7_clearHearth
  have hV := hg.1
  obtain ⟨hA5, hS6, hH6, hT20, hK9⟩ := hV.1
  obtain ⟨_, _, _, _, _, _, _, _, _, _, _, _, _, _, _, _, _, k6, hK'⟩ := c_keep hV hE hpc hpn hK
  obtain ⟨_, _, _, _, _, _, _, _, _, _, _, _, _, _, _, _, k7, hF', hQ'⟩ := r_keepTurn (a := b) (tO := r_turnOf) (tW := r_turnWarms) hV hF (fun i hi => (hPg i hi).1) hpc hQ
  refine Ok19 k6 (Okv ?_)
  refine Ok25 k7 (Okv ?_)
  exact ⟨rfl, Rel_i (clearS H) (keepP pc H P) (min (pc + 1) 8) ((pn + 1) % 8) I L T ⟨clearS_C hE, clearS_R hF', ⟨clearS_V hV, hg.2.1, hg.2.2⟩, rfl⟩ ⟨⟨by omega, Nat.mod_lt _ (by decide), rfl, rfl, rfl⟩, hK', hQ', keepP_G hg hPg⟩ hI ⟨hL, rfl, rfl, hT⟩ ⟨hTl, rfl, rfl, hO⟩ hR hG⟩
theorem s_step {s : S6} {t : S7} (a b : Nat → Nat) (R : Rel s t) (n0 : Int32) (n1 : Int32) : Sim (F6_step s n0 n1) (F7_step t b n0 n1) := by
  refine Rel_o (C := fun s t => Sim (F6_step s n0 n1) (F7_step t b n0 n1)) R ?_
  intro H P pc pn I L T g_hasImage g_n_warmth g_n_kind g_n_figure g_n_airCell g_n_way g_n_seat g_n_shawls g_n_steps g_n_numbers g_m_shutBits g_m_airs g_m_crownedBits g_m_sitters g_m_onBits g_m_turn g_m_taken g_m_warmth g_m_kind g_m_figure g_m_airCell g_m_way g_m_seat g_m_shawls g_m_count g_m_steps g_m_numbers g_i_shutBits g_i_airs g_i_crownedBits g_i_sitters g_i_onBits g_i_turn g_i_taken g_i_warmth g_i_kind g_i_figure g_i_airCell g_i_way g_i_seat g_i_shawls g_i_count g_i_steps g_i_numbers g_text_letters g_coats_sorts g_coats_sizes g_places g_coats_carried g_told g_refused g_oneHas g_otherHas g_k_shutBits g_k_airs g_k_crownedBits g_k_sitters g_k_onBits g_k_turn g_k_taken g_k_warmth g_k_kind g_k_figure g_k_airCell g_k_way g_k_seat g_k_shawls g_k_count g_k_steps g_k_numbers r_thrown r_at0 r_isBad r_statements r_stepsMany r_hasImage r_place0 r_isTaking r_keptIn r_seed r_warms r_shutAt r_kinds0 r_figures r_airAt r_ways r_crowned r_sitsAt r_shawls r_isOn r_stepOf r_stepBy r_refusals r_letters r_placeIn r_letterOf r_numbers r_stepsRead r_stepsBy r_kept r_keptWarms r_i_imaged r_imagedWarms r_turns0 r_turnWarms0 r_turnOf r_turnWarms r_row0 r_gains r_pegSort r_pegMany r_pegHolds r_coats r_coatsMoved hE hF hg hpc hpn hK hQ hPg hI hL hT hTl hO hR hG
  show Sim (F6_step _ n0 n1) (F7_step _ b n0 n1)
  rw [F6_step_b, F7_step_b]
  refine sim_o ?_
  unfold f_X6_step f_X7_step f_X7_step_b51 f_X7_step_b95
  have hV := hg.1
  obtain ⟨hA5, hS6, hH6, hT20, hK9⟩ := hV.1
  by_cases q : ixB n0 7 = true
  · obtain ⟨st, hst, rfl⟩ := ixB_t q
    rcases wr_3 n1 0 99 (by omega) (by omega) with ⟨w1, w2⟩ | ⟨w1, w2, w3⟩ | ⟨n, -, hn, rfl, w1⟩
    · refine Okn (nI_pos (by omega)) (Okp (nI_le (b := 6) (by omega) (by omega)) (Okn w2 (Ok2 (c_refuse 4 (by omega) (by omega) _ (by decide)) (Okv ?_))))
      refine Okt (in_ix 7 (by decide)) q (Ok1 (r_wr w1) (Okn (by decide) (Okn (by decide) (Ok2 (r_refuse 4 (by omega) (by omega) _ (by decide)) (Okv ?_)))))
      exact ⟨rfl, Rel_i H P pc pn I L T ⟨hE, hF, hg, rfl⟩ ⟨⟨hpc, hpn, rfl, rfl, rfl⟩, hK, hQ, hPg⟩ hI ⟨hL, rfl, rfl, hT⟩ ⟨hTl, rfl, rfl, hO⟩ (pRef_u hR) hG⟩
    · refine Okn (nI_pos (by omega)) (Okp (nI_le (b := 6) (by omega) (by omega)) (Okp w2 (Okp w3 (Ok2 (c_refuse 6 (by omega) (by omega) _ (by decide)) (Okv ?_)))))
      refine Okt (in_ix 7 (by decide)) q (Ok1 (r_wr w1) (Okn (by decide) (Okn (by decide) (Ok2 (r_refuse 6 (by omega) (by omega) _ (by decide)) (Okv ?_)))))
      exact ⟨rfl, Rel_i H P pc pn I L T ⟨hE, hF, hg, rfl⟩ ⟨⟨hpc, hpn, rfl, rfl, rfl⟩, hK, hQ, hPg⟩ hI ⟨hL, rfl, rfl, hT⟩ ⟨hTl, rfl, rfl, hO⟩ (pRef_u hR) hG⟩
    · by_cases h6 : aHc H < 6
      · obtain ⟨_, _, _, _, _, _, _, _, _, _, _, _, _, _, _, _, _, k6, hK'⟩ := c_keep hV hE hpc hpn hK
        obtain ⟨_, _, _, _, _, _, _, _, _, _, _, _, _, _, _, _, k7, hF', hQ'⟩ := r_keepTurn (a := b) (tO := r_turnOf) (tW := r_turnWarms) hV hF (fun i hi => (hPg i hi).1) hpc hQ
        have hv : vp_in (nI (aHc H)) 6 := vp_in_nI (by omega) (by omega)
        have hcl : (nI (aHc H)).toNatClampNeg = aHc H := nI_clamp (by omega)
        obtain ⟨ad, E'⟩ := addStep_C hV hE h6 (st := st) (n := n)
        refine Okn (nI_pos (by omega)) (Okp (nI_le (b := 6) (by omega) (by omega)) (Okp (nI_pos' (by omega)) (Okn (nI_nlt (a := 99) hn (by omega)) (Okp (nI_lt (b := 6) h6 (by omega)) (Ok19 k6 (Ok3 ad (Okv ?_)))))))
        refine Okt (in_ix 7 (by decide)) q (Ok1 (r_wr w1) (Okp rfl (Okn (fun z => absurd ((nI_eq (b := 6) (by omega) (by omega)).mp z) (by omega)) (Okp (by decide) (Ok25 k7 (Okg hv (Okl ?_)))))))
        rw [hcl, show nI (aHc H) + (1 : Int32) = nI (aHc H + 1) from nI_1 _]
        by_cases s6 : st = 6
        · refine Okp (by rw [s6]; rfl) (Okg hv (Okl (Okl (Okv ?_))))
          exact ⟨rfl, Rel_i (addStepS H st n) (keepP pc H P) (min (pc + 1) 8) ((pn + 1) % 8) I L T ⟨E', addStep_R hF' (v := 0) hst (by rw [if_pos s6]; exact nI_0.symm), ⟨addStepS_V hV h6 hst hn, hg.2.1, hg.2.2⟩, rfl⟩ ⟨⟨by omega, Nat.mod_lt _ (by decide), rfl, rfl, rfl⟩, hK', hQ', keepP_G hg hPg⟩ hI ⟨hL, rfl, rfl, hT⟩ ⟨hTl, rfl, rfl, hO⟩ hR hG⟩
        · refine Okn (fun z => s6 ((nI_eq (b := 6) (by omega) (by omega)).mp z)) (Okg hv (Okl (Okl (Okv ?_))))
          exact ⟨rfl, Rel_i (addStepS H st n) (keepP pc H P) (min (pc + 1) 8) ((pn + 1) % 8) I L T ⟨E', addStep_R hF' (v := nI n) hst (by rw [if_neg s6]), ⟨addStepS_V hV h6 hst hn, hg.2.1, hg.2.2⟩, rfl⟩ ⟨⟨by omega, Nat.mod_lt _ (by decide), rfl, rfl, rfl⟩, hK', hQ', keepP_G hg hPg⟩ hI ⟨hL, rfl, rfl, hT⟩ ⟨hTl, rfl, rfl, hO⟩ hR hG⟩
      · refine Okn (nI_pos (by omega)) (Okp (nI_le (b := 6) (by omega) (by omega)) (Okp (nI_pos' (by omega)) (Okn (nI_nlt (a := 99) hn (by omega)) (Okn (nI_nlt (b := 6) (by omega) (by omega)) (Ok2 (c_refuse 6 (by omega) (by omega) _ (by decide)) (Okv ?_))))))
        refine Okt (in_ix 7 (by decide)) q (Ok1 (r_wr w1) (Okp rfl (Okp (by rw [show aHc H = 6 by omega]; rfl) (Okn (by decide) (Ok2 (r_refuse 6 (by omega) (by omega) _ (by decide)) (Okv ?_))))))
        exact ⟨rfl, Rel_i H P pc pn I L T ⟨hE, hF, hg, rfl⟩ ⟨⟨hpc, hpn, rfl, rfl, rfl⟩, hK, hQ, hPg⟩ hI ⟨hL, rfl, rfl, hT⟩ ⟨hTl, rfl, rfl, hO⟩ (pRef_u hR) hG⟩
  · rcases ix2 (by omega) q with w | ⟨w, w2⟩
    · refine Okp w (Ok2 (c_refuse 2 (by omega) (by omega) _ (by decide)) (Okv ?_))
      refine Okf (in_ix 7 (by decide)) q (Ok2 (r_refuse 2 (by omega) (by omega) _ (by decide)) (Okv ?_))
      exact ⟨rfl, Rel_i H P pc pn I L T ⟨hE, hF, hg, rfl⟩ ⟨⟨hpc, hpn, rfl, rfl, rfl⟩, hK, hQ, hPg⟩ hI ⟨hL, rfl, rfl, hT⟩ ⟨hTl, rfl, rfl, hO⟩ (pRef_u hR) hG⟩
    · refine Okn w (Okn (fun z => absurd (Int32.le_iff_toInt_le.mp (Int32.le_trans w2 z)) (by decide)) (Ok2 (c_refuse 2 (by omega) (by omega) _ (by decide)) (Okv ?_)))
      refine Okf (in_ix 7 (by decide)) q (Ok2 (r_refuse 2 (by omega) (by omega) _ (by decide)) (Okv ?_))
      exact ⟨rfl, Rel_i H P pc pn I L T ⟨hE, hF, hg, rfl⟩ ⟨⟨hpc, hpn, rfl, rfl, rfl⟩, hK, hQ, hPg⟩ hI ⟨hL, rfl, rfl, hT⟩ ⟨hTl, rfl, rfl, hO⟩ (pRef_u hR) hG⟩
