/-! the calls: moves, sums, the coldest -/
theorem lsum (x y : Int32) : (x.toInt64 + y.toInt64).toInt = x.toInt + y.toInt := by
  have h1 := x.toInt_lt
  have h2 := x.le_toInt
  have h3 := y.toInt_lt
  have h4 := y.le_toInt
  rw [Int64.toInt_add, Int32.toInt_toInt64, Int32.toInt_toInt64, Int.bmod_def]
  split <;> omega
theorem lgc_le {x y : Int64} : lg_cmp x y ≤ 0 ↔ x.toInt ≤ y.toInt := by
  rcases lgc_3 x y with ⟨h1, h2⟩ | ⟨h1, h2⟩ | ⟨h1, h2⟩
  · rw [h1]
    exact ⟨fun z => absurd z (by decide), fun z => absurd z (by omega)⟩
  · rw [h1]
    exact ⟨fun _ => by omega, fun _ => by decide⟩
  · rw [h1]
    exact ⟨fun _ => by omega, fun _ => by decide⟩
theorem nat_of {x : Int32} (h : 0 ≤ x.toInt) : x = nI x.toInt.toNat := by
  have hl := x.toInt_lt
  apply Int32.toInt_inj.mp
  rw [nI_toInt (by omega)]
  omega
theorem cmp_gt {a b : UInt32} (ha : FP.Core.val32 a ≠ .nan) (hb : FP.Core.val32 b ≠ .nan) (op : CmpOp) : 0 < Op.cmpValue (FP.fcmp a b) op ↔ FP.Core.fkey b < FP.Core.fkey a := by
  rw [← Int32.not_le, cmp_le ha hb]
  omega
theorem l_cold1 {h : AH} {wm wr : Nat → UInt32} {n0 : Int32} {rr : Nat → Int32} (V : aV h) (e1 : ∀ c, c < 36 → wm c = aWm h c) (e2 : ∀ c, c < 36 → wr c = aWm h c) (hn : n0 < 0) : ∀ (d k m m' j : Nat) (y : Int32), k + d = 36 → d < m → d < m' → j < 36 → ∃ v, f_X6_coldestCell_b4 wm m (nI j) (nI k) = some v ∧ f_X7_coldest_b32 n0 wr rr m' (nI j) y (nI k) = some (v, 0, rr)
  | d, k, 0, _, _, _, _, q, _, _ => absurd q (by omega)
  | d, k, m + 1, 0, _, _, _, _, q, _ => absurd q (by omega)
  | 0, k, m + 1, m' + 1, j, y, hk, _, _, hj => by
    refine ⟨nI j, ?_, ?_⟩
    · rw [f_X6_coldestCell_b4, show (36 : Int32) = nI 36 from rfl, dq_if_pos (nI_le (by omega) (by omega))]
    · rw [f_X7_coldest_b32, show (36 : Int32) = nI 36 from rfl, dq_if_pos (nI_le (by omega) (by omega)), dq_if_neg (Int32.not_le.mpr hn)]
  | d + 1, k, m + 1, m' + 1, j, y, hk, h1, h2, hj => by
    have hkl : k < 36 := by omega
    have vk : vp_in (nI k) 36 := vp_in_nI (by omega) (by omega)
    have vj : vp_in (nI j) 36 := vp_in_nI (by omega) (by omega)
    have ck : (nI k).toNatClampNeg = k := nI_clamp (by omega)
    have cj : (nI j).toNatClampNeg = j := nI_clamp (by omega)
    rw [f_X6_coldestCell_b4, f_X7_coldest_b32, show (36 : Int32) = nI 36 from rfl, dq_if_neg (nI_ge hkl (by omega)), dq_if_neg (nI_ge hkl (by omega)), dq_gd_pos vk, dq_gd_pos vj, dq_gd_pos vk, dq_gd_pos vj, ck, cj, e1 k hkl, e1 j hj, e2 k hkl, e2 j hj]
    unfold f_X7_coldest_b62
    rw [dq_if_pos hn, dq_if_pos hn]
    simp only [dq_let]
    rw [show nI k + (1 : Int32) = nI (k + 1) from nI_1 k]
    by_cases z : 0 ≤ Op.cmpValue (FP.fcmp (aWm h k) (aWm h j)) .g
    · rw [dq_if_pos z, dq_if_pos z]
      exact l_cold1 V e1 e2 hn d (k + 1) m m' j _ (by omega) (by omega) (by omega) hj
    · rw [dq_if_neg z, dq_if_neg z]
      exact l_cold1 V e1 e2 hn d (k + 1) m m' k _ (by omega) (by omega) (by omega) hkl
theorem l_cold2 {h : AH} {wm wr : Nat → UInt32} {n0 : Int32} {c : Nat} {gr rr : Nat → Int32} (V : aV h) (e1 : ∀ c, c < 36 → wm c = aWm h c) (e2 : ∀ c, c < 36 → wr c = aWm h c) (hn : n0 = nI c) (hc : c < 36) : ∀ (d k m m' j : Nat) (x : Int32), k + d = 36 → d < m → d < m' → j < 36 → ∃ v, f_X6_coldest_b27 n0 wm gr m x (nI k) = some (v, gr) ∧ f_X7_coldest_b32 n0 wr rr m' (nI j) x (nI k) = some (v, 0, rr)
  | d, k, 0, _, _, _, _, q, _, _ => absurd q (by omega)
  | d, k, m + 1, 0, _, _, _, _, q, _ => absurd q (by omega)
  | 0, k, m + 1, m' + 1, j, x, hk, _, _, hj => by
    refine ⟨x, ?_, ?_⟩
    · rw [f_X6_coldest_b27, show (36 : Int32) = nI 36 from rfl, dq_if_pos (nI_le (by omega) (by omega))]
    · rw [f_X7_coldest_b32, show (36 : Int32) = nI 36 from rfl, dq_if_pos (nI_le (by omega) (by omega)), dq_if_pos (by rw [hn]; exact nI_pos' (by omega))]
  | d + 1, k, m + 1, m' + 1, j, x, hk, h1, h2, hj => by
    have hkl : k < 36 := by omega
    have vk : vp_in (nI k) 36 := vp_in_nI (by omega) (by omega)
    have vj : vp_in (nI j) 36 := vp_in_nI (by omega) (by omega)
    have vc : vp_in (nI c) 36 := vp_in_nI (by omega) (by omega)
    have ck : (nI k).toNatClampNeg = k := nI_clamp (by omega)
    have cj : (nI j).toNatClampNeg = j := nI_clamp (by omega)
    have cc : (nI c).toNatClampNeg = c := nI_clamp (by omega)
    have nk := (V.2.2.2.2 k hkl).b.nan (by omega)
    have nc := (V.2.2.2.2 c hc).b.nan (by omega)
    have b88 : ∀ (x11 : Int32), f_X7_coldest_b62 n0 wr x (nI k) (f_X7_coldest_b32 n0 wr rr m') x11 = f_X7_coldest_b32 n0 wr rr m' x11 (if FP.Core.fkey (aWm h c) < FP.Core.fkey (aWm h k) then x else x + 1) (nI (k + 1)) := by
      intro x11
      unfold f_X7_coldest_b62 f_X7_coldest_b88
      rw [hn, dq_if_neg (nI_pos (by omega)), dq_gd_pos vk, dq_if_pos (nI_pos' (by omega)), dq_gd_pos vc, ck, cc, e2 k hkl, e2 c hc]
      simp only [dq_let]
      rw [show nI k + (1 : Int32) = nI (k + 1) from nI_1 k, show x + (0 : Int32) = x from Int32.add_zero x]
      by_cases z : FP.Core.fkey (aWm h c) < FP.Core.fkey (aWm h k)
      · rw [dq_if_pos ((cmp_gt nk nc _).mpr z), if_pos z]
      · rw [dq_if_neg (mt (cmp_gt nk nc _).mp z), if_neg z]
    rw [f_X6_coldest_b27, f_X7_coldest_b32, show (36 : Int32) = nI 36 from rfl, dq_if_neg (nI_ge hkl (by omega)), dq_if_neg (nI_ge hkl (by omega)), dq_gd_pos vk, dq_gd_pos (show vp_in n0 36 by rw [hn]; exact vc), dq_gd_pos vk, dq_gd_pos vj, ck, cj, show n0.toNatClampNeg = c by rw [hn]; exact cc, e1 k hkl, e1 c hc, e2 k hkl, e2 j hj, b88, b88]
    simp only [dq_let]
    rw [show nI k + (1 : Int32) = nI (k + 1) from nI_1 k]
    have best : ∀ x' : Int32, ∃ j', j' < 36 ∧ dq_if (0 ≤ Op.cmpValue (FP.fcmp (aWm h k) (aWm h j)) .g) (f_X7_coldest_b32 n0 wr rr m' (nI j) x' (nI (k + 1))) (f_X7_coldest_b32 n0 wr rr m' (nI k) x' (nI (k + 1))) = f_X7_coldest_b32 n0 wr rr m' (nI j') x' (nI (k + 1)) := by
      intro x'
      by_cases z : 0 ≤ Op.cmpValue (FP.fcmp (aWm h k) (aWm h j)) .g
      · exact ⟨j, hj, dq_if_pos z⟩
      · exact ⟨k, hkl, dq_if_neg z⟩
    by_cases z : FP.Core.fkey (aWm h c) < FP.Core.fkey (aWm h k)
    · rw [dq_if_pos ((cmp_gt nk nc _).mpr z), if_pos z]
      obtain ⟨j', hj', e⟩ := best x
      rw [e]
      exact l_cold2 V e1 e2 hn hc d (k + 1) m m' j' _ (by omega) (by omega) (by omega) hj'
    · rw [dq_if_neg (mt (cmp_gt nk nc _).mp z), if_neg z]
      obtain ⟨j', hj', e⟩ := best (x + 1)
      rw [e]
      exact l_cold2 V e1 e2 hn hc d (k + 1) m m' j' _ (by omega) (by omega) (by omega) hj'
theorem fB.bt {K : Nat} {w : UInt32} (h : fB K w) (hK : K ≤ 255) : w.toNat % 2 ^ 31 < 255 * 2 ^ 23 := Nat.lt_of_lt_of_le h (Nat.mul_le_mul_right _ hK)
theorem lk_sum {h : AH} {wm wr : Nat → UInt32} {n0 : Int32} {gr rr : Nat → Int32} (V : aV h) (e1 : ∀ c, c < 36 → wm c = aWm h c) (e2 : ∀ c, c < 36 → wr c = aWm h c) : ∀ (d k m m' : Nat) (x : UInt32), k + d = 36 → d < m → d < m' → fB (134 + 2 * k) x → ∃ v, f_X6_sum_b20 n0 wm gr m x (nI k) = some (v, gr) ∧ f_X7_sum_b26 n0 wr rr m' x (nI k) = some (v, 0, rr)
  | d, k, 0, _, _, _, q, _, _ => absurd q (by omega)
  | d, k, m + 1, 0, _, _, _, q, _ => absurd q (by omega)
  | 0, k, m + 1, m' + 1, x, hk, _, _, hx => by
    have : k = 36 := by omega
    subst this
    have c36 : fB 203 (FP.fdiv x 1108344832) := fB_div (L := 132) hx (by decide) (by unfold fB; decide) (by omega) (by omega) (by omega)
    have c100 : fB 134 (1120403456 : UInt32) := by unfold fB; decide
    have cm : fB 212 (FP.fmul (FP.fdiv x 1108344832) 1120403456) := fB_mul c36 c100 (by omega) (by omega) (by omega)
    rw [f_X6_sum_b20, f_X7_sum_b26, show (36 : Int32) = nI 36 from rfl, dq_if_pos (nI_le (by omega) (by omega)), dq_if_pos (nI_le (by omega) (by omega)), dq_gd_pos (c36.n (by omega)), dq_gd_pos (c36.n (by omega))]
    simp only [dq_let]
    by_cases z : n0 = 0
    · rw [dq_if_pos z, dq_if_pos z, dq_bd_s (bits_ok (hx.bt (by omega))), dq_bd_s (r_bits (hx.nan (by omega)))]
      exact ⟨_, rfl, rfl⟩
    · rw [dq_if_neg z, dq_if_neg z, dq_gd_pos (cm.n (by omega)), dq_gd_pos (cm.n (by omega))]
      exact ⟨_, rfl, rfl⟩
  | d + 1, k, m + 1, m' + 1, x, hk, h1, h2, hx => by
    have hkl : k < 36 := by omega
    have vk : vp_in (nI k) 36 := vp_in_nI (by omega) (by omega)
    have ck : (nI k).toNatClampNeg = k := nI_clamp (by omega)
    have ha : fB (134 + 2 * (k + 1)) (FP.fadd x (aWm h k)) := fB_add hx ((V.2.2.2.2 k hkl).b.mono (by omega)) (by omega) (by omega)
    rw [f_X6_sum_b20, f_X7_sum_b26, show (36 : Int32) = nI 36 from rfl, dq_if_neg (nI_ge hkl (by omega)), dq_if_neg (nI_ge hkl (by omega)), dq_gd_pos vk, dq_gd_pos vk, ck, e1 k hkl, e2 k hkl, dq_gd_pos (ha.n (by omega)), dq_gd_pos (ha.n (by omega))]
    simp only [dq_let]
    rw [show nI k + (1 : Int32) = nI (k + 1) from nI_1 k]
    exact lk_sum V e1 e2 d (k + 1) m m' _ (by omega) (by omega) (by omega) ha
theorem s_moves {s : S6} {t : S7} (a b : Nat → Nat) (R : Rel s t) (n0 : Int32) (n1 : Int32) (n2 : Int32) (n3 : Int32) (n4 : Int32) : Sim (F6_moves s n0 n1 n2 n3 n4) (F7_moves t n0 n1 n2 n3 n4) := by
  refine Rel_o (C := fun s t => Sim (F6_moves s n0 n1 n2 n3 n4) (F7_moves t n0 n1 n2 n3 n4)) R ?_
  intro H P pc pn I L T g_hasImage g_n_warmth g_n_kind g_n_figure g_n_airCell g_n_way g_n_seat g_n_shawls g_n_steps g_n_numbers g_m_shutBits g_m_airs g_m_crownedBits g_m_sitters g_m_onBits g_m_turn g_m_taken g_m_warmth g_m_kind g_m_figure g_m_airCell g_m_way g_m_seat g_m_shawls g_m_count g_m_steps g_m_numbers g_i_shutBits g_i_airs g_i_crownedBits g_i_sitters g_i_onBits g_i_turn g_i_taken g_i_warmth g_i_kind g_i_figure g_i_airCell g_i_way g_i_seat g_i_shawls g_i_count g_i_steps g_i_numbers g_text_letters g_coats_sorts g_coats_sizes g_places g_coats_carried g_told g_refused g_oneHas g_otherHas g_k_shutBits g_k_airs g_k_crownedBits g_k_sitters g_k_onBits g_k_turn g_k_taken g_k_warmth g_k_kind g_k_figure g_k_airCell g_k_way g_k_seat g_k_shawls g_k_count g_k_steps g_k_numbers r_thrown r_at0 r_isBad r_statements r_stepsMany r_hasImage r_place0 r_isTaking r_keptIn r_seed r_warms r_shutAt r_kinds0 r_figures r_airAt r_ways r_crowned r_sitsAt r_shawls r_isOn r_stepOf r_stepBy r_refusals r_letters r_placeIn r_letterOf r_numbers r_stepsRead r_stepsBy r_kept r_keptWarms r_i_imaged r_imagedWarms r_turns0 r_turnWarms0 r_turnOf r_turnWarms r_row0 r_gains r_pegSort r_pegMany r_pegHolds r_coats r_coatsMoved hE hF hg hpc hpn hK hQ hPg hI hL hT hTl hO hR hG
  show Sim (F6_moves _ n0 n1 n2 n3 n4) (F7_moves _ n0 n1 n2 n3 n4)
  rw [F6_moves_b, F7_moves_b]
  refine sim_o ?_
  unfold f_X6_moves f_X7_moves
  have hV := hg.1
  obtain ⟨hA5, hS6, hH6, hT20, hK9⟩ := hV.1
  by_cases q : ixB n0 3 = true
  · obtain ⟨p, hp, rfl⟩ := ixB_t q
    have hvp : vp_in (nI p) 3 := vp_in_nI (by omega) (by omega)
    have hcp : (nI p).toNatClampNeg = p := nI_clamp (by omega)
    by_cases q2 : ixB n2 3 = true
    · obtain ⟨o, ho, rfl⟩ := ixB_t q2
      have hvo : vp_in (nI o) 3 := vp_in_nI (by omega) (by omega)
      have hco : (nI o).toNatClampNeg = o := nI_clamp (by omega)
      rw [hcp, hco]
      rcases hG p hp with ⟨z1, z2⟩ | ⟨N, so, z1, z2, z3, z4, z5, z6, z7, z8⟩
      · refine Okt (c_isPeg _) q (Okt (c_isPeg _) q2 (Ok1 (holds_0 hp z1) (Okp rfl (Okv ?_))))
        refine Okt (r_isPeg _) q (Okt (r_isPeg _) q2 (Okg hvp (Okp z2 (Okv ?_))))
        exact ⟨rfl, Rel_i H P pc pn I L T ⟨hE, hF, hg, rfl⟩ ⟨⟨hpc, hpn, rfl, rfl, rfl⟩, hK, hQ, hPg⟩ hI ⟨hL, rfl, rfl, hT⟩ ⟨hTl, rfl, rfl, hO⟩ hR hG⟩
      rcases hG o ho with ⟨y1, y2⟩ | ⟨N2, so2, y1, y2, y3, y4, y5, y6, y7, y8⟩
      · refine Okt (c_isPeg _) q (Okt (c_isPeg _) q2 (Ok1 (holds_1 hp z1 z3) (Okn (by decide) (Ok1 (holds_0 ho y1) (Okp rfl (Okv ?_))))))
        refine Okt (r_isPeg _) q (Okt (r_isPeg _) q2 (Okg hvp (Okn (by rw [z5]; decide) (Okg hvo (Okp y2 (Okv ?_))))))
        exact ⟨rfl, Rel_i H P pc pn I L T ⟨hE, hF, hg, rfl⟩ ⟨⟨hpc, hpn, rfl, rfl, rfl⟩, hK, hQ, hPg⟩ hI ⟨hL, rfl, rfl, hT⟩ ⟨hTl, rfl, rfl, hO⟩ hR hG⟩
      have L1 := lsum n1 n4
      have L2 := lsum n3 n4
      have t1 : ((nI N).toInt64).toInt = (N : Int) := by rw [Int32.toInt_toInt64, nI_toInt (by omega)]
      have t2 : ((nI N2).toInt64).toInt = (N2 : Int) := by rw [Int32.toInt_toInt64, nI_toInt (by omega)]
      rw [z4, y4]
      by_cases u : 0 ≤ n1.toInt ∧ 0 ≤ n4.toInt ∧ n1.toInt + n4.toInt ≤ (N : Int)
      · by_cases v : 0 ≤ n3.toInt ∧ 0 ≤ n4.toInt ∧ n3.toInt + n4.toInt ≤ (N2 : Int)
        · obtain ⟨n, hn⟩ : ∃ n, n4 = nI n := ⟨_, nat_of u.2.1⟩
          obtain ⟨i, hi⟩ : ∃ i, n1 = nI i := ⟨_, nat_of u.1⟩
          obtain ⟨j, hj⟩ : ∃ j, n3 = nI j := ⟨_, nat_of v.1⟩
          have en : n4 = nI n4.toInt.toNat := nat_of u.2.1
          have ei : n1 = nI n1.toInt.toNat := nat_of u.1
          have ej : n3 = nI n3.toInt.toNat := nat_of v.1
          obtain ⟨cc', cm', f1, f2, f3⟩ := mv_1 (p := p) (o := o) (i := n1.toInt.toNat) (j := n3.toInt.toNat) (n := n4.toInt.toNat) (N := N) hp (by omega) z1 (so := g_coats_sorts) (rr := r_refusals) (ps := r_pegSort) z8 n4.toInt.toNat 0 4096 4096 g_coats_carried r_coatsMoved (by omega) (by omega) (by omega) (fun b hb => absurd hb (by omega))
          obtain ⟨r, pl', co', m1, m2, m3⟩ := mv_2 (o := o) (j := n3.toInt.toNat) (n := n4.toInt.toNat) (N := N2) (so := g_coats_sorts) (sz := g_coats_sizes) (rr := r_refusals) (ps := r_pegSort) (ma := r_pegMany) (ho := r_pegHolds) ho (by omega) y1 y3 f3 n4.toInt.toNat 0 4096 4096 g_places r_coats (by omega) (by omega) (by omega) hG
          rw [← en, ← ei, ← ej] at f1 f2
          rw [← en, ← ej] at m1 m2
          have car : f_X4_carry g_coats_sorts g_places g_coats_carried (nI p) n1 (nI o) n3 n4 = some (nB r, pl', cc') := f1.trans m1
          have a1 : ¬ n4 < 0 := mt lt_1.mp (by omega)
          have a2 : ¬ n1 < 0 := mt lt_1.mp (by omega)
          have a3 : ¬ n3 < 0 := mt lt_1.mp (by omega)
          have a4 : ¬ 0 < lg_cmp (n1.toInt64 + n4.toInt64) ((nI N).toInt64) := mt lgc_gt.mp (by rw [L1, t1]; omega)
          have a5 : lg_cmp (n3.toInt64 + n4.toInt64) ((nI N2).toInt64) ≤ 0 := lgc_le.mpr (by rw [L2, t2]; omega)
          cases r with
          | true =>
            refine Okt (c_isPeg _) q (Okt (c_isPeg _) q2 (Ok1 (holds_1 hp z1 z3) (Okn (by decide) (Ok1 (holds_1 ho y1 y3) (Okn (by decide) (Okt (hasP hp z1 z3 n1 n4) (decide_eq_true u) (Okt (hasP ho y1 y3 n3 n4) (decide_eq_true v) (Ok3 car (Okn (by decide) (Okv ?_))))))))))
            refine Okt (r_isPeg _) q (Okt (r_isPeg _) q2 (Okg hvp (Okn (by rw [z5]; decide) (Okg hvo (Okn (by rw [y5]; decide) (Okn a1 (Okn a2 (Okn a3 (Okg hvp (Okn a4 (Okg hvo (Okp a5 (Oke (f2.trans m2) ?_)))))))))))))
            exact ⟨rfl, Rel_i H P pc pn I L T ⟨hE, hF, hg, rfl⟩ ⟨⟨hpc, hpn, rfl, rfl, rfl⟩, hK, hQ, hPg⟩ hI ⟨hL, rfl, rfl, hT⟩ ⟨hTl, rfl, rfl, hO⟩ hR m3⟩
          | false =>
            refine Okt (c_isPeg _) q (Okt (c_isPeg _) q2 (Ok1 (holds_1 hp z1 z3) (Okn (by decide) (Ok1 (holds_1 ho y1 y3) (Okn (by decide) (Okt (hasP hp z1 z3 n1 n4) (decide_eq_true u) (Okt (hasP ho y1 y3 n3 n4) (decide_eq_true v) (Ok3 car (Okp rfl (Okv ?_))))))))))
            refine Okt (r_isPeg _) q (Okt (r_isPeg _) q2 (Okg hvp (Okn (by rw [z5]; decide) (Okg hvo (Okn (by rw [y5]; decide) (Okn a1 (Okn a2 (Okn a3 (Okg hvp (Okn a4 (Okg hvo (Okp a5 (Oke (f2.trans m2) ?_)))))))))))))
            exact ⟨rfl, Rel_i H P pc pn I L T ⟨hE, hF, hg, rfl⟩ ⟨⟨hpc, hpn, rfl, rfl, rfl⟩, hK, hQ, hPg⟩ hI ⟨hL, rfl, rfl, hT⟩ ⟨hTl, rfl, rfl, hO⟩ hR m3⟩
        · refine Okt (c_isPeg _) q (Okt (c_isPeg _) q2 (Ok1 (holds_1 hp z1 z3) (Okn (by decide) (Ok1 (holds_1 ho y1 y3) (Okn (by decide) (Okt (hasP hp z1 z3 n1 n4) (decide_eq_true u) (Okf (hasP ho y1 y3 n3 n4) (fun w => v (of_decide_eq_true w)) (Okv ?_))))))))
          have a1 : ¬ n4 < 0 := mt lt_1.mp (by omega)
          have a2 : ¬ n1 < 0 := mt lt_1.mp (by omega)
          have a4 : ¬ 0 < lg_cmp (n1.toInt64 + n4.toInt64) ((nI N).toInt64) := mt lgc_gt.mp (by rw [L1, t1]; omega)
          by_cases a3 : n3 < 0
          · refine Okt (r_isPeg _) q (Okt (r_isPeg _) q2 (Okg hvp (Okn (by rw [z5]; decide) (Okg hvo (Okn (by rw [y5]; decide) (Okn a1 (Okn a2 (Okp a3 (Okv ?_)))))))))
            exact ⟨rfl, Rel_i H P pc pn I L T ⟨hE, hF, hg, rfl⟩ ⟨⟨hpc, hpn, rfl, rfl, rfl⟩, hK, hQ, hPg⟩ hI ⟨hL, rfl, rfl, hT⟩ ⟨hTl, rfl, rfl, hO⟩ hR hG⟩
          · have a5 : ¬ lg_cmp (n3.toInt64 + n4.toInt64) ((nI N2).toInt64) ≤ 0 := mt lgc_le.mp (by rw [L2, t2]; have := mt lt_1.mpr a3; omega)
            refine Okt (r_isPeg _) q (Okt (r_isPeg _) q2 (Okg hvp (Okn (by rw [z5]; decide) (Okg hvo (Okn (by rw [y5]; decide) (Okn a1 (Okn a2 (Okn a3 (Okg hvp (Okn a4 (Okg hvo (Okn a5 (Okv ?_)))))))))))))
            exact ⟨rfl, Rel_i H P pc pn I L T ⟨hE, hF, hg, rfl⟩ ⟨⟨hpc, hpn, rfl, rfl, rfl⟩, hK, hQ, hPg⟩ hI ⟨hL, rfl, rfl, hT⟩ ⟨hTl, rfl, rfl, hO⟩ hR hG⟩
      · refine Okt (c_isPeg _) q (Okt (c_isPeg _) q2 (Ok1 (holds_1 hp z1 z3) (Okn (by decide) (Ok1 (holds_1 ho y1 y3) (Okn (by decide) (Okf (hasP hp z1 z3 n1 n4) (fun w => u (of_decide_eq_true w)) (Okv ?_)))))))
        by_cases a1 : n4 < 0
        · refine Okt (r_isPeg _) q (Okt (r_isPeg _) q2 (Okg hvp (Okn (by rw [z5]; decide) (Okg hvo (Okn (by rw [y5]; decide) (Okp a1 (Okv ?_)))))))
          exact ⟨rfl, Rel_i H P pc pn I L T ⟨hE, hF, hg, rfl⟩ ⟨⟨hpc, hpn, rfl, rfl, rfl⟩, hK, hQ, hPg⟩ hI ⟨hL, rfl, rfl, hT⟩ ⟨hTl, rfl, rfl, hO⟩ hR hG⟩
        by_cases a2 : n1 < 0
        · refine Okt (r_isPeg _) q (Okt (r_isPeg _) q2 (Okg hvp (Okn (by rw [z5]; decide) (Okg hvo (Okn (by rw [y5]; decide) (Okn a1 (Okp a2 (Okv ?_))))))))
          exact ⟨rfl, Rel_i H P pc pn I L T ⟨hE, hF, hg, rfl⟩ ⟨⟨hpc, hpn, rfl, rfl, rfl⟩, hK, hQ, hPg⟩ hI ⟨hL, rfl, rfl, hT⟩ ⟨hTl, rfl, rfl, hO⟩ hR hG⟩
        by_cases a3 : n3 < 0
        · refine Okt (r_isPeg _) q (Okt (r_isPeg _) q2 (Okg hvp (Okn (by rw [z5]; decide) (Okg hvo (Okn (by rw [y5]; decide) (Okn a1 (Okn a2 (Okp a3 (Okv ?_)))))))))
          exact ⟨rfl, Rel_i H P pc pn I L T ⟨hE, hF, hg, rfl⟩ ⟨⟨hpc, hpn, rfl, rfl, rfl⟩, hK, hQ, hPg⟩ hI ⟨hL, rfl, rfl, hT⟩ ⟨hTl, rfl, rfl, hO⟩ hR hG⟩
        have a4 : 0 < lg_cmp (n1.toInt64 + n4.toInt64) ((nI N).toInt64) := lgc_gt.mpr (by rw [L1, t1]; have := mt lt_1.mpr a1; have := mt lt_1.mpr a2; omega)
        refine Okt (r_isPeg _) q (Okt (r_isPeg _) q2 (Okg hvp (Okn (by rw [z5]; decide) (Okg hvo (Okn (by rw [y5]; decide) (Okn a1 (Okn a2 (Okn a3 (Okg hvp (Okp a4 (Okv ?_)))))))))))
        exact ⟨rfl, Rel_i H P pc pn I L T ⟨hE, hF, hg, rfl⟩ ⟨⟨hpc, hpn, rfl, rfl, rfl⟩, hK, hQ, hPg⟩ hI ⟨hL, rfl, rfl, hT⟩ ⟨hTl, rfl, rfl, hO⟩ hR hG⟩
    · refine Okt (c_isPeg _) q (Okf (c_isPeg _) q2 (Ok2 (c_refuse 1 (by omega) (by omega) _ (by decide)) (Okv ?_)))
      refine Okt (r_isPeg _) q (Okf (r_isPeg _) q2 (Ok2 (r_refuse 1 (by omega) (by omega) _ (by decide)) (Okv ?_)))
      exact ⟨rfl, Rel_i H P pc pn I L T ⟨hE, hF, hg, rfl⟩ ⟨⟨hpc, hpn, rfl, rfl, rfl⟩, hK, hQ, hPg⟩ hI ⟨hL, rfl, rfl, hT⟩ ⟨hTl, rfl, rfl, hO⟩ (pRef_u hR) hG⟩
  · refine Okf (c_isPeg _) q (Ok2 (c_refuse 1 (by omega) (by omega) _ (by decide)) (Okv ?_))
    refine Okf (r_isPeg _) q (Ok2 (r_refuse 1 (by omega) (by omega) _ (by decide)) (Okv ?_))
    exact ⟨rfl, Rel_i H P pc pn I L T ⟨hE, hF, hg, rfl⟩ ⟨⟨hpc, hpn, rfl, rfl, rfl⟩, hK, hQ, hPg⟩ hI ⟨hL, rfl, rfl, hT⟩ ⟨hTl, rfl, rfl, hO⟩ (pRef_u hR) hG⟩
theorem s_warm {s : S6} {t : S7} (a b : Nat → Nat) (R : Rel s t) (n0 : Int32) : Sim (F6_warm s n0) (F7_warm t n0) := by
  refine Rel_o (C := fun s t => Sim (F6_warm s n0) (F7_warm t n0)) R ?_
  intro H P pc pn I L T g_hasImage g_n_warmth g_n_kind g_n_figure g_n_airCell g_n_way g_n_seat g_n_shawls g_n_steps g_n_numbers g_m_shutBits g_m_airs g_m_crownedBits g_m_sitters g_m_onBits g_m_turn g_m_taken g_m_warmth g_m_kind g_m_figure g_m_airCell g_m_way g_m_seat g_m_shawls g_m_count g_m_steps g_m_numbers g_i_shutBits g_i_airs g_i_crownedBits g_i_sitters g_i_onBits g_i_turn g_i_taken g_i_warmth g_i_kind g_i_figure g_i_airCell g_i_way g_i_seat g_i_shawls g_i_count g_i_steps g_i_numbers g_text_letters g_coats_sorts g_coats_sizes g_places g_coats_carried g_told g_refused g_oneHas g_otherHas g_k_shutBits g_k_airs g_k_crownedBits g_k_sitters g_k_onBits g_k_turn g_k_taken g_k_warmth g_k_kind g_k_figure g_k_airCell g_k_way g_k_seat g_k_shawls g_k_count g_k_steps g_k_numbers r_thrown r_at0 r_isBad r_statements r_stepsMany r_hasImage r_place0 r_isTaking r_keptIn r_seed r_warms r_shutAt r_kinds0 r_figures r_airAt r_ways r_crowned r_sitsAt r_shawls r_isOn r_stepOf r_stepBy r_refusals r_letters r_placeIn r_letterOf r_numbers r_stepsRead r_stepsBy r_kept r_keptWarms r_i_imaged r_imagedWarms r_turns0 r_turnWarms0 r_turnOf r_turnWarms r_row0 r_gains r_pegSort r_pegMany r_pegHolds r_coats r_coatsMoved hE hF hg hpc hpn hK hQ hPg hI hL hT hTl hO hR hG
  show Sim (F6_warm _ n0) (F7_warm _ n0)
  rw [F6_warm_b, F7_warm_b]
  refine sim_o ?_
  unfold f_X6_warm f_X7_warm
  have hV := hg.1
  obtain ⟨hA5, hS6, hH6, hT20, hK9⟩ := hV.1
  by_cases q : ixB n0 36 = true
  · obtain ⟨c, hc, rfl⟩ := ixB_t q
    have hv : vp_in (nI c) 36 := vp_in_nI (by omega) (by omega)
    have hcl : (nI c).toNatClampNeg = c := nI_clamp (by omega)
    have f := hV.2.2.2.2 c hc
    rw [hcl]
    refine Okt (c_isCell _) q (Okg hv (Ok1 (by rw [hE.2.2.2.2.2 c hc]; exact bits_ok (f.b.bt (by omega))) (Okv ?_)))
    refine Okt (r_isCell _) q (Okg hv (Ok1 (by rw [hF.2.2.2.2.2 c hc]; exact r_bits (f.b.nan (by omega))) (Okv ?_)))
    exact ⟨rfl, Rel_i H P pc pn I L T ⟨hE, hF, hg, rfl⟩ ⟨⟨hpc, hpn, rfl, rfl, rfl⟩, hK, hQ, hPg⟩ hI ⟨hL, rfl, rfl, hT⟩ ⟨hTl, rfl, rfl, hO⟩ hR hG⟩
  · refine Okf (c_isCell _) q (Okv ?_)
    refine Okf (r_isCell _) q (Okv ?_)
    exact ⟨rfl, Rel_i H P pc pn I L T ⟨hE, hF, hg, rfl⟩ ⟨⟨hpc, hpn, rfl, rfl, rfl⟩, hK, hQ, hPg⟩ hI ⟨hL, rfl, rfl, hT⟩ ⟨hTl, rfl, rfl, hO⟩ hR hG⟩
theorem s_coldest {s : S6} {t : S7} (a b : Nat → Nat) (R : Rel s t) (n0 : Int32) : Sim (F6_coldest s n0) (F7_coldest t n0) := by
  refine Rel_o (C := fun s t => Sim (F6_coldest s n0) (F7_coldest t n0)) R ?_
  intro H P pc pn I L T g_hasImage g_n_warmth g_n_kind g_n_figure g_n_airCell g_n_way g_n_seat g_n_shawls g_n_steps g_n_numbers g_m_shutBits g_m_airs g_m_crownedBits g_m_sitters g_m_onBits g_m_turn g_m_taken g_m_warmth g_m_kind g_m_figure g_m_airCell g_m_way g_m_seat g_m_shawls g_m_count g_m_steps g_m_numbers g_i_shutBits g_i_airs g_i_crownedBits g_i_sitters g_i_onBits g_i_turn g_i_taken g_i_warmth g_i_kind g_i_figure g_i_airCell g_i_way g_i_seat g_i_shawls g_i_count g_i_steps g_i_numbers g_text_letters g_coats_sorts g_coats_sizes g_places g_coats_carried g_told g_refused g_oneHas g_otherHas g_k_shutBits g_k_airs g_k_crownedBits g_k_sitters g_k_onBits g_k_turn g_k_taken g_k_warmth g_k_kind g_k_figure g_k_airCell g_k_way g_k_seat g_k_shawls g_k_count g_k_steps g_k_numbers r_thrown r_at0 r_isBad r_statements r_stepsMany r_hasImage r_place0 r_isTaking r_keptIn r_seed r_warms r_shutAt r_kinds0 r_figures r_airAt r_ways r_crowned r_sitsAt r_shawls r_isOn r_stepOf r_stepBy r_refusals r_letters r_placeIn r_letterOf r_numbers r_stepsRead r_stepsBy r_kept r_keptWarms r_i_imaged r_imagedWarms r_turns0 r_turnWarms0 r_turnOf r_turnWarms r_row0 r_gains r_pegSort r_pegMany r_pegHolds r_coats r_coatsMoved hE hF hg hpc hpn hK hQ hPg hI hL hT hTl hO hR hG
  show Sim (F6_coldest _ n0) (F7_coldest _ n0)
  rw [F6_coldest_b, F7_coldest_b]
  refine sim_o ?_
  unfold f_X6_coldest f_X7_coldest
  have hV := hg.1
  obtain ⟨hA5, hS6, hH6, hT20, hK9⟩ := hV.1
  by_cases y : n0 = -1
  · obtain ⟨v, l6, l7⟩ := l_cold1 (rr := r_refusals) hV hE.2.2.2.2.2 hF.2.2.2.2.2 (n0 := n0) (by rw [y]; decide) 35 1 4096 4095 0 (0 + 0) (by omega) (by omega) (by omega) (by omega)
    have l7' : f_X7_coldest_b32 n0 r_warms r_refusals 4096 0 0 0 = some (v, 0, r_refusals) := by
      have v0 : vp_in (0 : Int32) 36 := vp_in_nI (n := 0) (by omega) (by omega)
      have c0 : (0 : Int32).toNatClampNeg = 0 := rfl
      rw [f_X7_coldest_b32, dq_if_neg (by decide), dq_gd_pos v0, dq_gd_pos v0, c0]
      unfold f_X7_coldest_b62
      have hn : n0 < 0 := by rw [y]; decide
      rw [dq_if_pos hn]
      simp only [dq_let]
      rw [show dq_if (0 ≤ Op.cmpValue (FP.fcmp (r_warms 0) (r_warms 0)) .g) (f_X7_coldest_b32 n0 r_warms r_refusals 4095 0 (0 + 0) (0 + 1)) (f_X7_coldest_b32 n0 r_warms r_refusals 4095 0 (0 + 0) (0 + 1)) = f_X7_coldest_b32 n0 r_warms r_refusals 4095 0 (0 + 0) (0 + 1) from by
        by_cases z : 0 ≤ Op.cmpValue (FP.fcmp (r_warms 0) (r_warms 0)) .g
        · rw [dq_if_pos z]
        · rw [dq_if_neg z]]
      exact l7
    have hin : inB n0 (-1 : Int64).toInt (35 : Int64).toInt = true := by rw [y]; decide
    refine Okp y (Ok1 (y := v) l6 (Okv ?_))
    refine Okt (r_in _ _ _) hin (Oke l7' ?_)
    exact ⟨rfl, Rel_i H P pc pn I L T ⟨hE, hF, hg, rfl⟩ ⟨⟨hpc, hpn, rfl, rfl, rfl⟩, hK, hQ, hPg⟩ hI ⟨hL, rfl, rfl, hT⟩ ⟨hTl, rfl, rfl, hO⟩ hR hG⟩
  · by_cases q : ixB n0 36 = true
    · obtain ⟨c, hc, hn⟩ := ixB_t q
      have hin : inB n0 (-1 : Int64).toInt (35 : Int64).toInt = true := by
        rw [hn]
        refine decide_eq_true ?_
        rw [nI_toInt (by omega), show (-1 : Int64).toInt = -1 by decide, show (35 : Int64).toInt = 35 by decide]
        omega
      obtain ⟨v, l6, l7⟩ := l_cold2 (gr := g_refused) (rr := r_refusals) hV hE.2.2.2.2.2 hF.2.2.2.2.2 hn hc 36 0 4096 4096 0 0 (by omega) (by omega) (by omega) (by omega)
      refine Okn y (Okt (c_isCell _) q (Oke l6 ?_))
      refine Okt (r_in _ _ _) hin (Oke l7 ?_)
      exact ⟨rfl, Rel_i H P pc pn I L T ⟨hE, hF, hg, rfl⟩ ⟨⟨hpc, hpn, rfl, rfl, rfl⟩, hK, hQ, hPg⟩ hI ⟨hL, rfl, rfl, hT⟩ ⟨hTl, rfl, rfl, hO⟩ hR hG⟩
    · have hin : ¬ inB n0 (-1 : Int64).toInt (35 : Int64).toInt = true := by
        intro z
        have z := of_decide_eq_true z
        rw [show (-1 : Int64).toInt = -1 by decide, show (35 : Int64).toInt = 35 by decide] at z
        have z2 : n0.toInt ≠ -1 := fun w => y (Int32.toInt_inj.mp (by rw [w]; decide))
        exact q (decide_eq_true (by omega))
      refine Okn y (Okf (c_isCell _) q (Ok2 (c_refuse 1 (by omega) (by omega) _ (by decide)) (Okv ?_)))
      refine Okf (r_in _ _ _) hin (Ok2 (r_refuse 1 (by omega) (by omega) _ (by decide)) (Okv ?_))
      exact ⟨rfl, Rel_i H P pc pn I L T ⟨hE, hF, hg, rfl⟩ ⟨⟨hpc, hpn, rfl, rfl, rfl⟩, hK, hQ, hPg⟩ hI ⟨hL, rfl, rfl, hT⟩ ⟨hTl, rfl, rfl, hO⟩ (pRef_u hR) hG⟩
theorem s_sum {s : S6} {t : S7} (a b : Nat → Nat) (R : Rel s t) (n0 : Int32) : Sim (F6_sum s n0) (F7_sum t n0) := by
  refine Rel_o (C := fun s t => Sim (F6_sum s n0) (F7_sum t n0)) R ?_
  intro H P pc pn I L T g_hasImage g_n_warmth g_n_kind g_n_figure g_n_airCell g_n_way g_n_seat g_n_shawls g_n_steps g_n_numbers g_m_shutBits g_m_airs g_m_crownedBits g_m_sitters g_m_onBits g_m_turn g_m_taken g_m_warmth g_m_kind g_m_figure g_m_airCell g_m_way g_m_seat g_m_shawls g_m_count g_m_steps g_m_numbers g_i_shutBits g_i_airs g_i_crownedBits g_i_sitters g_i_onBits g_i_turn g_i_taken g_i_warmth g_i_kind g_i_figure g_i_airCell g_i_way g_i_seat g_i_shawls g_i_count g_i_steps g_i_numbers g_text_letters g_coats_sorts g_coats_sizes g_places g_coats_carried g_told g_refused g_oneHas g_otherHas g_k_shutBits g_k_airs g_k_crownedBits g_k_sitters g_k_onBits g_k_turn g_k_taken g_k_warmth g_k_kind g_k_figure g_k_airCell g_k_way g_k_seat g_k_shawls g_k_count g_k_steps g_k_numbers r_thrown r_at0 r_isBad r_statements r_stepsMany r_hasImage r_place0 r_isTaking r_keptIn r_seed r_warms r_shutAt r_kinds0 r_figures r_airAt r_ways r_crowned r_sitsAt r_shawls r_isOn r_stepOf r_stepBy r_refusals r_letters r_placeIn r_letterOf r_numbers r_stepsRead r_stepsBy r_kept r_keptWarms r_i_imaged r_imagedWarms r_turns0 r_turnWarms0 r_turnOf r_turnWarms r_row0 r_gains r_pegSort r_pegMany r_pegHolds r_coats r_coatsMoved hE hF hg hpc hpn hK hQ hPg hI hL hT hTl hO hR hG
  show Sim (F6_sum _ n0) (F7_sum _ n0)
  rw [F6_sum_b, F7_sum_b]
  refine sim_o ?_
  unfold f_X6_sum f_X7_sum
  have hV := hg.1
  obtain ⟨hA5, hS6, hH6, hT20, hK9⟩ := hV.1
  by_cases q1 : ixB n0 2 = true
  · obtain ⟨j, hj, hn⟩ := ixB_t q1
    have b0 : ¬ n0 < 0 := by rw [hn]; exact nI_pos (by omega)
    have b1 : n0 ≤ 1 := by rw [hn]; exact nI_le (b := 1) (by omega) (by omega)
    obtain ⟨v, l6, l7⟩ := lk_sum (n0 := n0) (gr := g_refused) (rr := r_refusals) hV hE.2.2.2.2.2 hF.2.2.2.2.2 36 0 4096 4096 FP.fconst0 (by omega) (by omega) (by omega) (by unfold fB; decide)
    refine Okn b0 (Okp b1 (Oke l6 ?_))
    refine Okt (in_ix 2 (by decide)) q1 (Oke l7 ?_)
    exact ⟨rfl, Rel_i H P pc pn I L T ⟨hE, hF, hg, rfl⟩ ⟨⟨hpc, hpn, rfl, rfl, rfl⟩, hK, hQ, hPg⟩ hI ⟨hL, rfl, rfl, hT⟩ ⟨hTl, rfl, rfl, hO⟩ hR hG⟩
  · rcases ix2 (by omega) q1 with w | ⟨w, w2⟩
    · refine Okp w (Ok2 (c_refuse 2 (by omega) (by omega) _ (by decide)) (Okv ?_))
      refine Okf (in_ix 2 (by decide)) q1 (Ok2 (r_refuse 2 (by omega) (by omega) _ (by decide)) (Okv ?_))
      exact ⟨rfl, Rel_i H P pc pn I L T ⟨hE, hF, hg, rfl⟩ ⟨⟨hpc, hpn, rfl, rfl, rfl⟩, hK, hQ, hPg⟩ hI ⟨hL, rfl, rfl, hT⟩ ⟨hTl, rfl, rfl, hO⟩ (pRef_u hR) hG⟩
    · refine Okn w (Okn (fun z => absurd (Int32.le_iff_toInt_le.mp (Int32.le_trans w2 z)) (by decide)) (Ok2 (c_refuse 2 (by omega) (by omega) _ (by decide)) (Okv ?_)))
      refine Okf (in_ix 2 (by decide)) q1 (Ok2 (r_refuse 2 (by omega) (by omega) _ (by decide)) (Okv ?_))
      exact ⟨rfl, Rel_i H P pc pn I L T ⟨hE, hF, hg, rfl⟩ ⟨⟨hpc, hpn, rfl, rfl, rfl⟩, hK, hQ, hPg⟩ hI ⟨hL, rfl, rfl, hT⟩ ⟨hTl, rfl, rfl, hO⟩ (pRef_u hR) hG⟩
