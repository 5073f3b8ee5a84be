/-! the calls: what is looked at -/
theorem in_ix {x : Int32} {b : Int64} (n : Nat) (hb : b.toInt = (n : Int) - 1) : f_X7_in x.toInt64 0 b = some (nB (ixB x n)) := by
  rw [r_in]
  congr 2
  unfold inB ixB
  rw [hb]
  congr 1
  show ((0 : Int) ≤ x.toInt ∧ x.toInt ≤ (n : Int) - 1) = _
  apply propext
  constructor <;> intro z <;> omega
theorem ixX {x : Int32} {n : Nat} {y : Int32} (q : ¬ ixB x n = true) (h : ixB y n = true) : ¬ x = y := fun e => q (e ▸ h)
theorem c_isCr {h : AH} {sb : Int64} {ai cb si ob tn tk hc : Int32} {wm : Nat → UInt32} {ki fi ac wy se sl hs hn : Nat → Int32} (V : aV h) (E : HC h sb ai cb si ob tn tk wm ki fi ac wy se sl hc hs hn) {a : Nat} (ha : a < aA h) : f_X2_isCrowned cb (nI a) = some (nB (aCr h a)) := c_isCrowned V E ha
theorem c_isO {h : AH} {sb : Int64} {ai cb si ob tn tk hc : Int32} {wm : Nat → UInt32} {ki fi ac wy se sl hs hn : Nat → Int32} (V : aV h) (E : HC h sb ai cb si ob tn tk wm ki fi ac wy se sl hc hs hn) {a : Nat} (ha : a < aS h) : f_X2_isOn ob (nI a) = some (nB (aOn h a)) := c_isOn V E ha
theorem c_isSh {h : AH} {sb : Int64} {ai cb si ob tn tk hc : Int32} {wm : Nat → UInt32} {ki fi ac wy se sl hs hn : Nat → Int32} (E : HC h sb ai cb si ob tn tk wm ki fi ac wy se sl hc hs hn) {c : Nat} (hc36 : c < 36) : f_X2_isShut sb (nI c) = some (nB (aSd h c)) := c_isShut E hc36
theorem c_isFr {h : AH} {sb : Int64} {ai cb si ob tn tk hc : Int32} {wm : Nat → UInt32} {ki fi ac wy se sl hs hn : Nat → Int32} (V : aV h) (E : HC h sb ai cb si ob tn tk wm ki fi ac wy se sl hc hs hn) {c : Nat} (hc36 : c < 36) : f_X2_isFree sb ai si ob ac se (nI c) = some (nB (freeS h c)) := c_isFree V E hc36
theorem c_isTk {h : AH} {sb : Int64} {ai cb si ob tn tk hc : Int32} {wm : Nat → UInt32} {ki fi ac wy se sl hs hn : Nat → Int32} (V : aV h) (E : HC h sb ai cb si ob tn tk wm ki fi ac wy se sl hc hs hn) {c : Nat} (hc36 : c < 36) : f_X2_isTaken ai si ob ac se (nI c) = some (nB (takenS h c)) := c_isTaken V E hc36
theorem nBb {b c : Bool} (h : b = c) : nB b = nB c := by rw [h]
theorem Okbb {α : Type} {b : Bool} {x y : Option α} {Q : α → Prop} (h1 : b = true → Ok y Q) (h0 : b = false → Ok x Q) : Ok (dq_if (nB b = 0) x y) Q := by
  cases b with
  | true => exact Okn (by decide) (h1 rfl)
  | false => exact Okp (by decide) (h0 rfl)
theorem Okbd {α : Type} {b : Bool} {x : Option Int32} {f g : Int32 → Option α} {Q : α → Prop} (h : x = some (nB b)) (h1 : b = true → Ok (g 1) Q) (h0 : b = false → Ok (f 0) Q) : Ok (dq_bd x (fun v => dq_if (v = 0) (f v) (g v))) Q := by
  cases b with
  | true => exact Okt h rfl (h1 rfl)
  | false => exact Okf h (by decide) (h0 rfl)
theorem num_in {x : Int32} {a b : Int32} (h1 : a ≤ x) (h2 : ¬ b < x) (ha : a.toInt = 0) : ∃ c, c < b.toInt.toNat + 1 ∧ x = nI c := by
  have q1 := Int32.le_iff_toInt_le.mp h1
  have q2 := mt Int32.lt_iff_toInt_lt.mpr h2
  have hl := x.toInt_lt
  refine ⟨x.toInt.toNat, by omega, ?_⟩
  apply Int32.toInt_inj.mp
  rw [nI_toInt (by omega)]
  omega
theorem wrB_0 {x : Int32} (h1 : 0 ≤ x) {b : Int32} (h2 : ¬ b < x) : wrB x 0 b = 0 := by
  unfold wrB
  rw [if_pos h1, if_pos (Int32.not_lt.mp h2)]
theorem wrB_6 {x : Int32} (h1 : 0 ≤ x) {b : Int32} (h2 : b < x) : wrB x 0 b = -6 := by
  unfold wrB
  rw [if_pos h1, if_neg (Int32.not_le.mpr h2)]
theorem wrB_4 {x : Int32} {a : Int32} (h1 : ¬ a ≤ x) {b : Int32} : wrB x a b = -4 := by
  unfold wrB
  rw [if_neg h1]
/-- a number's fault: below, above, or a number -/
theorem wr_3 (x : Int32) (a b : Nat) (hb : b < 2 ^ 20) (hab : a ≤ b) : (wrB x (nI a) (nI b) = -4 ∧ ¬ nI a ≤ x) ∨ (wrB x (nI a) (nI b) = -6 ∧ nI a ≤ x ∧ nI b < x) ∨ (∃ n, a ≤ n ∧ n ≤ b ∧ x = nI n ∧ wrB x (nI a) (nI b) = 0) := by
  unfold wrB
  by_cases h : nI a ≤ x
  · rw [if_pos h]
    by_cases q : x ≤ nI b
    · rw [if_pos q]
      refine Or.inr (Or.inr ⟨x.toInt.toNat, ?_⟩)
      have q1 := Int32.le_iff_toInt_le.mp h
      have q2 := Int32.le_iff_toInt_le.mp q
      rw [nI_toInt (by omega)] at q1 q2
      have hl := x.toInt_lt
      refine ⟨by omega, by omega, ?_, rfl⟩
      apply Int32.toInt_inj.mp
      rw [nI_toInt (by omega)]
      omega
    · rw [if_neg q]
      exact Or.inr (Or.inl ⟨rfl, h, Int32.not_le.mp q⟩)
  · rw [if_neg h]
    exact Or.inl ⟨rfl, h⟩
theorem s_air {s : S6} {t : S7} (a b : Nat → Nat) (R : Rel s t) (n0 : Int32) (n1 : Int32) : Sim (F6_air s n0 n1) (F7_air t n0 n1) := by
  refine Rel_o (C := fun s t => Sim (F6_air s n0 n1) (F7_air t n0 n1)) R ?_
  intro H P pc pn I L T g_hasImage g_n_warmth g_n_kind g_n_figure g_n_airCell g_n_way g_n_seat g_n_shawls g_n_steps g_n_numbers g_m_shutBits g_m_airs g_m_crownedBits g_m_sitters g_m_onBits g_m_turn g_m_taken g_m_warmth g_m_kind g_m_figure g_m_airCell g_m_way g_m_seat g_m_shawls g_m_count g_m_steps g_m_numbers g_i_shutBits g_i_airs g_i_crownedBits g_i_sitters g_i_onBits g_i_turn g_i_taken g_i_warmth g_i_kind g_i_figure g_i_airCell g_i_way g_i_seat g_i_shawls g_i_count g_i_steps g_i_numbers g_text_letters g_coats_sorts g_coats_sizes g_places g_coats_carried g_told g_refused g_oneHas g_otherHas g_k_shutBits g_k_airs g_k_crownedBits g_k_sitters g_k_onBits g_k_turn g_k_taken g_k_warmth g_k_kind g_k_figure g_k_airCell g_k_way g_k_seat g_k_shawls g_k_count g_k_steps g_k_numbers r_thrown r_at0 r_isBad r_statements r_stepsMany r_hasImage r_place0 r_isTaking r_keptIn r_seed r_warms r_shutAt r_kinds0 r_figures r_airAt r_ways r_crowned r_sitsAt r_shawls r_isOn r_stepOf r_stepBy r_refusals r_letters r_placeIn r_letterOf r_numbers r_stepsRead r_stepsBy r_kept r_keptWarms r_i_imaged r_imagedWarms r_turns0 r_turnWarms0 r_turnOf r_turnWarms r_row0 r_gains r_pegSort r_pegMany r_pegHolds r_coats r_coatsMoved hE hF hg hpc hpn hK hQ hPg hI hL hT hTl hO hR hG
  show Sim (F6_air _ n0 n1) (F7_air _ n0 n1)
  rw [F6_air_b, F7_air_b]
  refine sim_o ?_
  unfold f_X6_air f_X7_air f_X7_air_b25
  have hV := hg.1
  obtain ⟨hA5, hS6, hH6, hT20, hK9⟩ := hV.1
  by_cases q : ixB n0 (aA H) = true
  · obtain ⟨a1, ha, rfl⟩ := ixB_t q
    have hv : vp_in (nI a1) 5 := vp_in_nI (by omega) (by omega)
    have hcl : (nI a1).toNatClampNeg = a1 := nI_clamp (by omega)
    obtain ⟨v1, v2, v3, v4⟩ := hV.2.1 a1 ha
    obtain ⟨e1, e2, e3, e4⟩ := hE.2.2.1 a1 ha
    obtain ⟨f1, f2, f3, f4, f5⟩ := hF.2.1 a1 ha
    refine Okt (c_isAir _ (by omega)) q ?_
    by_cases q1 : ixB n1 6 = true
    · obtain ⟨j, hj, rfl⟩ := ixB_t q1
      rcases (show j = 0 ∨ j = 1 ∨ j = 2 ∨ j = 3 ∨ j = 4 ∨ j = 5 by omega) with rfl | rfl | rfl | rfl | rfl | rfl
      · refine Okp (by decide) (Okg hv (Okv ?_))
        refine Okt (r_isAir _ (by omega)) q (Okt (in_ix 6 (by decide)) q1 (Okp (by decide) (Okg hv (Okv ?_))))
        exact ⟨(by show g_n_kind _ = r_kinds0 _; rw [hcl, e1, f1]), Rel_i H P pc pn I L T ⟨hE, hF, hg, rfl⟩ ⟨⟨hpc, hpn, rfl, rfl, rfl⟩, hK, hQ, hPg⟩ hI ⟨hL, rfl, rfl, hT⟩ ⟨hTl, rfl, rfl, hO⟩ hR hG⟩
      · refine Okn (by decide) (Okp (by decide) (Okg hv (Okv ?_)))
        refine Okt (r_isAir _ (by omega)) q (Okt (in_ix 6 (by decide)) q1 (Okn (by decide) (Okp (by decide) (Okg hv (Okv ?_)))))
        exact ⟨(by show g_n_figure _ = r_figures _; rw [hcl, e2, f2]), Rel_i H P pc pn I L T ⟨hE, hF, hg, rfl⟩ ⟨⟨hpc, hpn, rfl, rfl, rfl⟩, hK, hQ, hPg⟩ hI ⟨hL, rfl, rfl, hT⟩ ⟨hTl, rfl, rfl, hO⟩ hR hG⟩
      · refine Okn (by decide) (Okn (by decide) (Okp (by decide) (Okg hv (Okv ?_))))
        refine Okt (r_isAir _ (by omega)) q (Okt (in_ix 6 (by decide)) q1 (Okn (by decide) (Okn (by decide) (Okp (by decide) (Okg hv (Okv ?_))))))
        exact ⟨(by show g_n_airCell _ = r_airAt _; rw [hcl, e3, f3]), Rel_i H P pc pn I L T ⟨hE, hF, hg, rfl⟩ ⟨⟨hpc, hpn, rfl, rfl, rfl⟩, hK, hQ, hPg⟩ hI ⟨hL, rfl, rfl, hT⟩ ⟨hTl, rfl, rfl, hO⟩ hR hG⟩
      · refine Okn (by decide) (Okn (by decide) (Okn (by decide) (Okp (by decide) (Okg hv (Okv ?_)))))
        refine Okt (r_isAir _ (by omega)) q (Okt (in_ix 6 (by decide)) q1 (Okn (by decide) (Okn (by decide) (Okn (by decide) (Okp (by decide) (Okg hv (Okv ?_)))))))
        exact ⟨(by show g_n_way _ = r_ways _; rw [hcl, e4, f4]), Rel_i H P pc pn I L T ⟨hE, hF, hg, rfl⟩ ⟨⟨hpc, hpn, rfl, rfl, rfl⟩, hK, hQ, hPg⟩ hI ⟨hL, rfl, rfl, hT⟩ ⟨hTl, rfl, rfl, hO⟩ hR hG⟩
      · refine Okn (by decide) (Okn (by decide) (Okn (by decide) (Okn (by decide) (Okp (by decide) (Ok1 (c_isCr hV hE ha) (Okq (p := some (nB (aCr H a1), g_refused)) (by cases aCr H a1 <;> simp only [dq_if_ite] <;> rfl) (Okv ?_)))))))
        refine Okt (r_isAir _ (by omega)) q (Okt (in_ix 6 (by decide)) q1 (Okn (by decide) (Okn (by decide) (Okn (by decide) (Okn (by decide) (Okp (by decide) (Okg hv (Okv ?_))))))))
        exact ⟨(by show nB (aCr H a1) = r_crowned _; rw [hcl, f5]), Rel_i H P pc pn I L T ⟨hE, hF, hg, rfl⟩ ⟨⟨hpc, hpn, rfl, rfl, rfl⟩, hK, hQ, hPg⟩ hI ⟨hL, rfl, rfl, hT⟩ ⟨hTl, rfl, rfl, hO⟩ hR hG⟩
      · refine Okn (by decide) (Okn (by decide) (Okn (by decide) (Okn (by decide) (Okn (by decide) (Okp (by decide) (Okg hv (Okg hv (Ok1 (y := nI (leapsS (aKd H a1) (aFg H a1))) (by rw [hcl, e1, e2]; exact leaps_ok v1 v2) (Okv ?_)))))))))
        refine Okt (r_isAir _ (by omega)) q (Okt (in_ix 6 (by decide)) q1 (Okn (by decide) (Okn (by decide) (Okn (by decide) (Okn (by decide) (Okn (by decide) (Ok1 (r_leapsOf (by omega) f1 f2 v1 v2) (Okv ?_))))))))
        exact ⟨rfl, Rel_i H P pc pn I L T ⟨hE, hF, hg, rfl⟩ ⟨⟨hpc, hpn, rfl, rfl, rfl⟩, hK, hQ, hPg⟩ hI ⟨hL, rfl, rfl, hT⟩ ⟨hTl, rfl, rfl, hO⟩ hR hG⟩
    · refine Okn (ixX q1 (by decide)) (Okn (ixX q1 (by decide)) (Okn (ixX q1 (by decide)) (Okn (ixX q1 (by decide)) (Okn (ixX q1 (by decide)) (Okn (ixX q1 (by decide)) ((Ok2 (c_refuse 2 (by omega) (by omega) _ (by decide)) (Okv ?_))))))))
      refine Okt (r_isAir _ (by omega)) q (Okf (in_ix 6 (by decide)) q1 (Okt (r_isAir _ (by omega)) q (Ok2 (r_refuse 2 (by omega) (by omega) _ (by decide)) (Okv ?_))))
      exact ⟨rfl, Rel_i H P pc pn I L T ⟨hE, hF, hg, rfl⟩ ⟨⟨hpc, hpn, rfl, rfl, rfl⟩, hK, hQ, hPg⟩ hI ⟨hL, rfl, rfl, hT⟩ ⟨hTl, rfl, rfl, hO⟩ (pRef_u hR) hG⟩
  · refine Okf (c_isAir _ (by omega)) q (Ok2 (c_refuse 1 (by omega) (by omega) _ (by decide)) (Okv ?_))
    refine Okf (r_isAir _ (by omega)) q (Okf (r_isAir _ (by omega)) q (Ok2 (r_refuse 1 (by omega) (by omega) _ (by decide)) (Okv ?_)))
    exact ⟨rfl, Rel_i H P pc pn I L T ⟨hE, hF, hg, rfl⟩ ⟨⟨hpc, hpn, rfl, rfl, rfl⟩, hK, hQ, hPg⟩ hI ⟨hL, rfl, rfl, hT⟩ ⟨hTl, rfl, rfl, hO⟩ (pRef_u hR) hG⟩
theorem s_sitter {s : S6} {t : S7} (a b : Nat → Nat) (R : Rel s t) (n0 : Int32) (n1 : Int32) : Sim (F6_sitter s n0 n1) (F7_sitter t n0 n1) := by
  refine Rel_o (C := fun s t => Sim (F6_sitter s n0 n1) (F7_sitter t n0 n1)) R ?_
  intro H P pc pn I L T g_hasImage g_n_warmth g_n_kind g_n_figure g_n_airCell g_n_way g_n_seat g_n_shawls g_n_steps g_n_numbers g_m_shutBits g_m_airs g_m_crownedBits g_m_sitters g_m_onBits g_m_turn g_m_taken g_m_warmth g_m_kind g_m_figure g_m_airCell g_m_way g_m_seat g_m_shawls g_m_count g_m_steps g_m_numbers g_i_shutBits g_i_airs g_i_crownedBits g_i_sitters g_i_onBits g_i_turn g_i_taken g_i_warmth g_i_kind g_i_figure g_i_airCell g_i_way g_i_seat g_i_shawls g_i_count g_i_steps g_i_numbers g_text_letters g_coats_sorts g_coats_sizes g_places g_coats_carried g_told g_refused g_oneHas g_otherHas g_k_shutBits g_k_airs g_k_crownedBits g_k_sitters g_k_onBits g_k_turn g_k_taken g_k_warmth g_k_kind g_k_figure g_k_airCell g_k_way g_k_seat g_k_shawls g_k_count g_k_steps g_k_numbers r_thrown r_at0 r_isBad r_statements r_stepsMany r_hasImage r_place0 r_isTaking r_keptIn r_seed r_warms r_shutAt r_kinds0 r_figures r_airAt r_ways r_crowned r_sitsAt r_shawls r_isOn r_stepOf r_stepBy r_refusals r_letters r_placeIn r_letterOf r_numbers r_stepsRead r_stepsBy r_kept r_keptWarms r_i_imaged r_imagedWarms r_turns0 r_turnWarms0 r_turnOf r_turnWarms r_row0 r_gains r_pegSort r_pegMany r_pegHolds r_coats r_coatsMoved hE hF hg hpc hpn hK hQ hPg hI hL hT hTl hO hR hG
  show Sim (F6_sitter _ n0 n1) (F7_sitter _ n0 n1)
  rw [F6_sitter_b, F7_sitter_b]
  refine sim_o ?_
  unfold f_X6_sitter f_X7_sitter f_X7_sitter_b25
  have hV := hg.1
  obtain ⟨hA5, hS6, hH6, hT20, hK9⟩ := hV.1
  by_cases q : ixB n0 (aS H) = true
  · obtain ⟨a1, ha, rfl⟩ := ixB_t q
    have hv : vp_in (nI a1) 6 := vp_in_nI (by omega) (by omega)
    have hcl : (nI a1).toNatClampNeg = a1 := nI_clamp (by omega)
    obtain ⟨v1, v2⟩ := hV.2.2.1 a1 ha
    obtain ⟨e1, e2⟩ := hE.2.2.2.1 a1 ha
    obtain ⟨f1, f2, f3⟩ := hF.2.2.1 a1 ha
    refine Okt (c_isSitter _ (by omega)) q ?_
    by_cases q1 : ixB n1 3 = true
    · obtain ⟨j, hj, rfl⟩ := ixB_t q1
      rcases (show j = 0 ∨ j = 1 ∨ j = 2 by omega) with rfl | rfl | rfl
      · refine Okp (by decide) (Okg hv (Okv ?_))
        refine Okt (r_isSitter _ (by omega)) q (Okt (in_ix 3 (by decide)) q1 (Okp (by decide) (Okg hv (Okv ?_))))
        exact ⟨(by show g_n_seat _ = r_sitsAt _; rw [hcl, e1, f1]), Rel_i H P pc pn I L T ⟨hE, hF, hg, rfl⟩ ⟨⟨hpc, hpn, rfl, rfl, rfl⟩, hK, hQ, hPg⟩ hI ⟨hL, rfl, rfl, hT⟩ ⟨hTl, rfl, rfl, hO⟩ hR hG⟩
      · refine Okn (by decide) (Okp (by decide) (Okg hv (Okv ?_)))
        refine Okt (r_isSitter _ (by omega)) q (Okt (in_ix 3 (by decide)) q1 (Okn (by decide) (Okp (by decide) (Okg hv (Okv ?_)))))
        exact ⟨(by show g_n_shawls _ = r_shawls _; rw [hcl, e2, f2]), Rel_i H P pc pn I L T ⟨hE, hF, hg, rfl⟩ ⟨⟨hpc, hpn, rfl, rfl, rfl⟩, hK, hQ, hPg⟩ hI ⟨hL, rfl, rfl, hT⟩ ⟨hTl, rfl, rfl, hO⟩ hR hG⟩
      · refine Okn (by decide) (Okn (by decide) (Okp (by decide) (Ok1 (c_isO hV hE ha) (Okq (p := some (nB (aOn H a1), g_refused)) (by cases aOn H a1 <;> simp only [dq_if_ite] <;> rfl) (Okv ?_)))))
        refine Okt (r_isSitter _ (by omega)) q (Okt (in_ix 3 (by decide)) q1 (Okn (by decide) (Okn (by decide) (Okg hv (Okv ?_)))))
        exact ⟨(by show nB (aOn H a1) = r_isOn _; rw [hcl, f3]), Rel_i H P pc pn I L T ⟨hE, hF, hg, rfl⟩ ⟨⟨hpc, hpn, rfl, rfl, rfl⟩, hK, hQ, hPg⟩ hI ⟨hL, rfl, rfl, hT⟩ ⟨hTl, rfl, rfl, hO⟩ hR hG⟩
    · refine Okn (ixX q1 (by decide)) (Okn (ixX q1 (by decide)) (Okn (ixX q1 (by decide)) ((Ok2 (c_refuse 2 (by omega) (by omega) _ (by decide)) (Okv ?_)))))
      refine Okt (r_isSitter _ (by omega)) q (Okf (in_ix 3 (by decide)) q1 (Okt (r_isSitter _ (by omega)) q (Ok2 (r_refuse 2 (by omega) (by omega) _ (by decide)) (Okv ?_))))
      exact ⟨rfl, Rel_i H P pc pn I L T ⟨hE, hF, hg, rfl⟩ ⟨⟨hpc, hpn, rfl, rfl, rfl⟩, hK, hQ, hPg⟩ hI ⟨hL, rfl, rfl, hT⟩ ⟨hTl, rfl, rfl, hO⟩ (pRef_u hR) hG⟩
  · refine Okf (c_isSitter _ (by omega)) q (Ok2 (c_refuse 1 (by omega) (by omega) _ (by decide)) (Okv ?_))
    refine Okf (r_isSitter _ (by omega)) q (Okf (r_isSitter _ (by omega)) q (Ok2 (r_refuse 1 (by omega) (by omega) _ (by decide)) (Okv ?_)))
    exact ⟨rfl, Rel_i H P pc pn I L T ⟨hE, hF, hg, rfl⟩ ⟨⟨hpc, hpn, rfl, rfl, rfl⟩, hK, hQ, hPg⟩ hI ⟨hL, rfl, rfl, hT⟩ ⟨hTl, rfl, rfl, hO⟩ (pRef_u hR) hG⟩
theorem s_cell {s : S6} {t : S7} (a b : Nat → Nat) (R : Rel s t) (n0 : Int32) (n1 : Int32) : Sim (F6_cell s n0 n1) (F7_cell t n0 n1) := by
  refine Rel_o (C := fun s t => Sim (F6_cell s n0 n1) (F7_cell t n0 n1)) R ?_
  intro H P pc pn I L T g_hasImage g_n_warmth g_n_kind g_n_figure g_n_airCell g_n_way g_n_seat g_n_shawls g_n_steps g_n_numbers g_m_shutBits g_m_airs g_m_crownedBits g_m_sitters g_m_onBits g_m_turn g_m_taken g_m_warmth g_m_kind g_m_figure g_m_airCell g_m_way g_m_seat g_m_shawls g_m_count g_m_steps g_m_numbers g_i_shutBits g_i_airs g_i_crownedBits g_i_sitters g_i_onBits g_i_turn g_i_taken g_i_warmth g_i_kind g_i_figure g_i_airCell g_i_way g_i_seat g_i_shawls g_i_count g_i_steps g_i_numbers g_text_letters g_coats_sorts g_coats_sizes g_places g_coats_carried g_told g_refused g_oneHas g_otherHas g_k_shutBits g_k_airs g_k_crownedBits g_k_sitters g_k_onBits g_k_turn g_k_taken g_k_warmth g_k_kind g_k_figure g_k_airCell g_k_way g_k_seat g_k_shawls g_k_count g_k_steps g_k_numbers r_thrown r_at0 r_isBad r_statements r_stepsMany r_hasImage r_place0 r_isTaking r_keptIn r_seed r_warms r_shutAt r_kinds0 r_figures r_airAt r_ways r_crowned r_sitsAt r_shawls r_isOn r_stepOf r_stepBy r_refusals r_letters r_placeIn r_letterOf r_numbers r_stepsRead r_stepsBy r_kept r_keptWarms r_i_imaged r_imagedWarms r_turns0 r_turnWarms0 r_turnOf r_turnWarms r_row0 r_gains r_pegSort r_pegMany r_pegHolds r_coats r_coatsMoved hE hF hg hpc hpn hK hQ hPg hI hL hT hTl hO hR hG
  show Sim (F6_cell _ n0 n1) (F7_cell _ n0 n1)
  rw [F6_cell_b, F7_cell_b]
  refine sim_o ?_
  unfold f_X6_cell f_X7_cell f_X7_cell_b24
  have hV := hg.1
  obtain ⟨hA5, hS6, hH6, hT20, hK9⟩ := hV.1
  by_cases q : ixB n0 36 = true
  · obtain ⟨a1, ha, rfl⟩ := ixB_t q
    have hv : vp_in (nI a1) 36 := vp_in_nI (by omega) (by omega)
    have hcl : (nI a1).toNatClampNeg = a1 := nI_clamp (by omega)
    have e1 := hE.2.2.2.2.2 a1 ha
    have f1 := hF.2.2.2.2.2 a1 ha
    have f2 := hF.2.2.2.2.1 a1 ha
    refine Okt (c_isCell _) q ?_
    by_cases q1 : ixB n1 5 = true
    · obtain ⟨j, hj, rfl⟩ := ixB_t q1
      rcases (show j = 0 ∨ j = 1 ∨ j = 2 ∨ j = 3 ∨ j = 4 by omega) with rfl | rfl | rfl | rfl | rfl
      · refine Okp (by decide) (Ok1 (c_isSh hE ha) (Okq (p := some (nB (aSd H a1), g_refused)) (by cases aSd H a1 <;> simp only [dq_if_ite] <;> rfl) (Okv ?_)))
        refine Okt (r_isCell _) q (Okt (in_ix 5 (by decide)) q1 (Okp (by decide) (Okg hv (Okv ?_))))
        exact ⟨(by show nB (aSd H a1) = r_shutAt _; rw [hcl, f2]), Rel_i H P pc pn I L T ⟨hE, hF, hg, rfl⟩ ⟨⟨hpc, hpn, rfl, rfl, rfl⟩, hK, hQ, hPg⟩ hI ⟨hL, rfl, rfl, hT⟩ ⟨hTl, rfl, rfl, hO⟩ hR hG⟩
      · refine Okn (by decide) (Okp (by decide) (Ok1 (c_isFr hV hE ha) (Okq (p := some (nB (freeS H a1), g_refused)) (by cases freeS H a1 <;> simp only [dq_if_ite] <;> rfl) (Okv ?_))))
        refine Okt (r_isCell _) q (Okt (in_ix 5 (by decide)) q1 (Okn (by decide) (Okp (by decide) (Ok1 (r_isFree hV hF ha) (Okq (p := some (nB (freeS H a1), 0, r_refusals)) (by cases freeS H a1 <;> simp only [dq_if_ite] <;> rfl) (Okv ?_))))))
        exact ⟨rfl, Rel_i H P pc pn I L T ⟨hE, hF, hg, rfl⟩ ⟨⟨hpc, hpn, rfl, rfl, rfl⟩, hK, hQ, hPg⟩ hI ⟨hL, rfl, rfl, hT⟩ ⟨hTl, rfl, rfl, hO⟩ hR hG⟩
      · refine Okn (by decide) (Okn (by decide) (Okp (by decide) (Ok1 (c_airOn hV hE ha) (Okv ?_))))
        refine Okt (r_isCell _) q (Okt (in_ix 5 (by decide)) q1 (Okn (by decide) (Okn (by decide) (Okp (by decide) (Ok1 (r_airOn hV hF ha) (Okv ?_))))))
        exact ⟨rfl, Rel_i H P pc pn I L T ⟨hE, hF, hg, rfl⟩ ⟨⟨hpc, hpn, rfl, rfl, rfl⟩, hK, hQ, hPg⟩ hI ⟨hL, rfl, rfl, hT⟩ ⟨hTl, rfl, rfl, hO⟩ hR hG⟩
      · refine Okn (by decide) (Okn (by decide) (Okn (by decide) (Okp (by decide) (Ok1 (c_sitterOn hV hE ha) (Okv ?_)))))
        refine Okt (r_isCell _) q (Okt (in_ix 5 (by decide)) q1 (Okn (by decide) (Okn (by decide) (Okn (by decide) (Okp (by decide) (Ok1 (r_sitterOn hV hF ha) (Okv ?_)))))))
        exact ⟨rfl, Rel_i H P pc pn I L T ⟨hE, hF, hg, rfl⟩ ⟨⟨hpc, hpn, rfl, rfl, rfl⟩, hK, hQ, hPg⟩ hI ⟨hL, rfl, rfl, hT⟩ ⟨hTl, rfl, rfl, hO⟩ hR hG⟩
      · refine Okn (by decide) (Okn (by decide) (Okn (by decide) (Okn (by decide) (Okp (by decide) (Okg hv (Okv ?_))))))
        refine Okt (r_isCell _) q (Okt (in_ix 5 (by decide)) q1 (Okn (by decide) (Okn (by decide) (Okn (by decide) (Okn (by decide) (Okg hv (Okv ?_)))))))
        exact ⟨(by show FP.f2i (g_n_warmth _) = FP.f2i (r_warms _); rw [hcl, e1, f1]), Rel_i H P pc pn I L T ⟨hE, hF, hg, rfl⟩ ⟨⟨hpc, hpn, rfl, rfl, rfl⟩, hK, hQ, hPg⟩ hI ⟨hL, rfl, rfl, hT⟩ ⟨hTl, rfl, rfl, hO⟩ hR hG⟩
    · refine Okn (ixX q1 (by decide)) (Okn (ixX q1 (by decide)) (Okn (ixX q1 (by decide)) (Okn (ixX q1 (by decide)) (Okn (ixX q1 (by decide)) ((Ok2 (c_refuse 2 (by omega) (by omega) _ (by decide)) (Okv ?_)))))))
      refine Okt (r_isCell _) q (Okf (in_ix 5 (by decide)) q1 (Okt (r_isCell _) q (Ok2 (r_refuse 2 (by omega) (by omega) _ (by decide)) (Okv ?_))))
      exact ⟨rfl, Rel_i H P pc pn I L T ⟨hE, hF, hg, rfl⟩ ⟨⟨hpc, hpn, rfl, rfl, rfl⟩, hK, hQ, hPg⟩ hI ⟨hL, rfl, rfl, hT⟩ ⟨hTl, rfl, rfl, hO⟩ (pRef_u hR) hG⟩
  · refine Okf (c_isCell _) q (Ok2 (c_refuse 1 (by omega) (by omega) _ (by decide)) (Okv ?_))
    refine Okf (r_isCell _) q (Okf (r_isCell _) q (Ok2 (r_refuse 1 (by omega) (by omega) _ (by decide)) (Okv ?_)))
    exact ⟨rfl, Rel_i H P pc pn I L T ⟨hE, hF, hg, rfl⟩ ⟨⟨hpc, hpn, rfl, rfl, rfl⟩, hK, hQ, hPg⟩ hI ⟨hL, rfl, rfl, hT⟩ ⟨hTl, rfl, rfl, hO⟩ (pRef_u hR) hG⟩
