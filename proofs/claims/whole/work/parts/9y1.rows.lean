/-! the calls: pegs -/
/-- a coat in class and reference -/
def coatR (x y : Int32) : Prop := (x = 0 ∧ y = -1) ∨ ∃ c, 10 ≤ c ∧ c < 30 ∧ x = nI c ∧ y = nI c
theorem lt_1 {x : Int32} : x < 0 ↔ x.toInt < 0 := by
  rw [Int32.lt_iff_toInt_lt, i0]
theorem hasP {sz : Nat → Int32} {p N : Nat} (hp : p < 3) (hN : N ≤ 12) (h : sz p = nI N) (x y : Int32) : f_X4_hasPlaces sz (nI p) x y = some (nB (decide (0 ≤ x.toInt ∧ 0 ≤ y.toInt ∧ x.toInt + y.toInt ≤ N))) := by
  have hv : vp_in (nI p) 3 := vp_in_nI hp (by omega)
  unfold f_X4_hasPlaces
  by_cases a : x < 0
  · have a1 := lt_1.mp a
    rw [dq_if_pos a, decide_eq_false (by omega)]
    rfl
  · have a1 := mt lt_1.mpr a
    rw [dq_if_neg a]
    by_cases b : y < 0
    · have b1 := lt_1.mp b
      rw [dq_if_pos b, decide_eq_false (by omega)]
      rfl
    · have b1 := mt lt_1.mpr b
      rw [dq_if_neg b, dq_gd_pos hv, nI_clamp (by omega), h]
      have hl := y.toInt_lt
      by_cases c : nI N < y
      · have c1 := Int32.lt_iff_toInt_lt.mp c
        rw [nI_toInt (by omega)] at c1
        rw [dq_if_pos c, decide_eq_false (by omega)]
        rfl
      · have c1 := mt Int32.lt_iff_toInt_lt.mpr c
        rw [nI_toInt (by omega)] at c1
        have ey : y = nI y.toInt.toNat := by
          apply Int32.toInt_inj.mp
          rw [nI_toInt (by omega)]
          omega
        rw [dq_if_neg c, dq_gd_pos hv]
        by_cases d : nI N - y < x
        · have d1 := Int32.lt_iff_toInt_lt.mp d
          rw [ey, pk_sub_toInt (by omega) (by omega)] at d1
          rw [dq_if_pos d, decide_eq_false (by omega)]
          rfl
        · have d1 := mt Int32.lt_iff_toInt_lt.mpr d
          rw [ey, pk_sub_toInt (by omega) (by omega)] at d1
          rw [dq_if_neg d, decide_eq_true (by omega)]
          rfl
theorem hasP1 {N : Nat} {x : Int32} : (decide (0 ≤ x.toInt ∧ 0 ≤ (1 : Int32).toInt ∧ x.toInt + (1 : Int32).toInt ≤ N)) = ixB x N := by
  unfold ixB
  congr 1
  rw [show (1 : Int32).toInt = 1 from rfl]
  apply propext
  constructor <;> intro z <;> omega
theorem place_0 {sz ma ho : Nat → Int32} {p : Nat} (hp : p < 3) (h1 : sz p = -1) (h2 : ho p = 0) (x : Int32) : f_X4_placeFault sz (nI p) x = some (-11) ∧ f_X7_wrongPlace ma ho (nI p) x = some (-11) := by
  have hv : vp_in (nI p) 3 := vp_in_nI hp (by omega)
  constructor
  · unfold f_X4_placeFault f_X4_holdsRow
    rw [dq_gd_pos hv, nI_clamp (by omega), h1, dq_bd_s (dq_if_pos (by decide)), dq_if_pos rfl]
  · unfold f_X7_wrongPlace
    rw [dq_gd_pos hv, nI_clamp (by omega), h2, dq_if_pos rfl]
theorem holds_1 {sz : Nat → Int32} {p N : Nat} (hp : p < 3) (hN : N ≤ 12) (h1 : sz p = nI N) : f_X4_holdsRow sz (nI p) = some 1 := by
  unfold f_X4_holdsRow
  rw [dq_gd_pos (vp_in_nI hp (by omega)), nI_clamp (by omega), h1, dq_if_neg (nI_pos (by omega))]
theorem holds_0 {sz : Nat → Int32} {p : Nat} (hp : p < 3) (h1 : sz p = -1) : f_X4_holdsRow sz (nI p) = some 0 := by
  unfold f_X4_holdsRow
  rw [dq_gd_pos (vp_in_nI hp (by omega)), nI_clamp (by omega), h1, dq_if_pos (by decide)]
theorem place_1 {sz ma ho : Nat → Int32} {p N : Nat} (hp : p < 3) (hN : N ≤ 12) (h1 : sz p = nI N) (h2 : ho p = 1) (h3 : ma p = nI N) (x : Int32) : f_X4_placeFault sz (nI p) x = some (if ixB x N = true then 0 else -13) ∧ f_X7_wrongPlace ma ho (nI p) x = some (if ixB x N = true then 0 else -13) := by
  have hv : vp_in (nI p) 3 := vp_in_nI hp (by omega)
  constructor
  · unfold f_X4_placeFault
    rw [dq_bd_s (holds_1 hp hN h1), dq_if_neg (by decide), dq_bd_s (hasP hp hN h1 x 1), hasP1]
    by_cases q : ixB x N = true
    · rw [dq_if_neg (fun z => nB_0.mp z q), if_pos q]
    · rw [dq_if_pos (nB_0.mpr q), if_neg q]
  · unfold f_X7_wrongPlace
    rw [dq_gd_pos hv, nI_clamp (by omega), h2, dq_if_neg (by decide), dq_gd_pos hv, h3]
    have e : inB x (0 : Int64).toInt ((nI N - (1 : Int32)).toInt64).toInt = ixB x N := by
      rw [Int32.toInt_toInt64, show (1 : Int32) = nI 1 from rfl, pk_sub_toInt (by omega) (by omega)]
      unfold inB ixB
      congr 1
      show ((0 : Int) ≤ x.toInt ∧ x.toInt ≤ (N : Int) - ((1 : Nat) : Int)) = _
      apply propext
      constructor <;> intro z <;> omega
    rw [dq_bd_s (r_in x _ _), e]
    by_cases q : ixB x N = true
    · rw [dq_if_neg (fun z => nB_0.mp z q), if_pos q]
    · rw [dq_if_pos (nB_0.mpr q), if_neg q]
theorem pk_12 (p i : Nat) : (12 : Int32) * nI p + nI i = nI (12 * p + i) := by rw [show (12 : Int32) = nI 12 from rfl, pk_mul, nI_add]
theorem pegs_put {so sz : Nat → Int32} {pl : Nat → Nat → Int32} {ps ma ho co : Nat → Int32} (G : pPegs so sz pl ps ma ho co) {p i : Nat} (hi : i < 12) {x y : Int32} (h : coatR x y) : pPegs so sz (va_up pl p (upd (pl p) i x)) ps ma ho (upd co (12 * p + i) y) := by
  intro q hq
  rcases G q hq with g | ⟨n, s, g1, g2, g3, g4, g5, g6, g7, g8⟩
  · exact Or.inl g
  · refine Or.inr ⟨n, s, g1, g2, g3, g4, g5, g6, g7, fun j hj => ?_⟩
    by_cases z : q = p
    · subst z
      rw [vaup_s]
      by_cases w : j = i
      · subst w
        rw [pk_us, pk_us]
        exact h
      · rw [pk_un w, pk_un (by omega)]
        exact g8 j hj
    · rw [vaup_n z, pk_un (by omega)]
      exact g8 j hj
/-- a coat comes to a place, or is of another sort: both sides -/
theorem put_ok {so sz : Nat → Int32} {pl : Nat → Nat → Int32} {ps ma ho co : Nat → Int32} (G : pPegs so sz pl ps ma ho co) {p i N : Nat} (hp : p < 3) (hN : N ≤ 12) (hh : sz p = nI N) (hi : i < 12) {x y : Int32} (h : coatR x y) : (f_X4_put so pl (nI p) (nI i) x = some (1, va_up pl p (upd (pl p) i x)) ∧ f_X7_takes ps (nI p) y = some 1) ∨ (f_X4_put so pl (nI p) (nI i) x = some (0, pl) ∧ f_X7_takes ps (nI p) y = some 0) := by
  have hv : vp_in (nI p) 3 := vp_in_nI hp (by omega)
  have hv2 : vp_in (nI i) 12 := vp_in_nI hi (by omega)
  have c1 : (nI p).toNatClampNeg = p := nI_clamp (by omega)
  have c2 : (nI i).toNatClampNeg = i := nI_clamp (by omega)
  have pb : f_X4_put_b28 (nI p) (nI i) x pl = some (1, va_up pl p (upd (pl p) i x)) := by
    unfold f_X4_put_b28
    rw [dq_gd_pos hv, dq_gd_pos hv2, c1, c2]
    rfl
  rcases G p hp with ⟨g1, -⟩ | ⟨n, s, g1, g2, g3, g4, g5, g6, g7, g8⟩
  · rw [g1] at hh
    have := nI_toInt (n := N) (by omega)
    rw [← hh] at this
    exact absurd this (by rw [show ((-1 : Int32)).toInt = -1 from rfl]; omega)
  · unfold f_X4_put f_X7_takes
    rw [pb, dq_gd_pos hv, dq_gd_pos hv, dq_gd_pos hv, dq_gd_pos hv, c1, g6, g7]
    rcases h with ⟨rfl, rfl⟩ | ⟨c, h1, h2, rfl, rfl⟩
    · exact Or.inl ⟨dq_if_pos rfl, dq_if_pos (by decide)⟩
    · rw [dq_if_neg (nI_ne0 (by omega) (by omega)), dq_if_neg (nI_pos (by omega)), show nI c / (10 : Int32) = nI (c / 10) from pk_div (d := 10) (by omega) (by omega) (by omega)]
      by_cases z : s = 0
      · subst z
        exact Or.inl ⟨dq_if_pos nI_0, dq_if_pos nI_0⟩
      · have z1 : ¬ nI s = 0 := nI_ne0 (by omega) (by omega)
        rw [dq_if_neg z1, dq_if_neg z1]
        by_cases w : s = c / 10
        · rw [w]
          exact Or.inl ⟨dq_if_pos rfl, dq_if_pos rfl⟩
        · exact Or.inr ⟨dq_if_neg (fun y => w ((nI_eq (by omega) (by omega)).mp y)), dq_if_neg (fun y => w ((nI_eq (by omega) (by omega)).mp y).symm)⟩
theorem hold_loop {p : Nat} (hp : p < 3) {so sz : Nat → Int32} : ∀ (d k m : Nat) (pl : Nat → Nat → Int32), k + d = 12 → d < m → ∃ pl', f_X4_holdRow_b17 (nI p) so sz m (nI k) pl = some (so, sz, pl') ∧ (∀ q, q ≠ p → pl' q = pl q) ∧ ∀ i, i < 12 → (k ≤ i → pl' p i = 0) ∧ (i < k → pl' p i = pl p i)
  | d, k, 0, _, _, q => absurd q (by omega)
  | 0, k, m + 1, pl, hk, _ => by
    refine ⟨pl, ?_, fun _ _ => rfl, fun i hi => ⟨fun z => absurd z (by omega), fun _ => rfl⟩⟩
    rw [f_X4_holdRow_b17, show (12 : Int32) = nI 12 from rfl, dq_if_pos (nI_le (by omega) (by omega))]
  | d + 1, k, m + 1, pl, hk, hm => by
    obtain ⟨pl', f, g1, g2⟩ := hold_loop hp (so := so) (sz := sz) d (k + 1) m (va_up pl p (upd (pl p) k 0)) (by omega) (by omega)
    refine ⟨pl', ?_, fun q hq => (g1 q hq).trans (vaup_n hq), fun i hi => ⟨fun z => ?_, fun z => ?_⟩⟩
    · rw [f_X4_holdRow_b17, show (12 : Int32) = nI 12 from rfl, dq_if_neg (nI_ge (by omega) (by omega)), dq_gd_pos (vp_in_nI hp (by omega)), dq_gd_pos (vp_in_nI (by omega) (by omega)), nI_clamp (by omega), nI_clamp (by omega)]
      simp only [dq_let]
      rw [show nI k + (1 : Int32) = nI (k + 1) from nI_1 k]
      exact f
    · by_cases w : i = k
      · subst w
        rw [(g2 i hi).2 (by omega), vaup_s, pk_us]
      · exact (g2 i hi).1 (by omega)
    · rw [(g2 i hi).2 (by omega), vaup_s, pk_un (by omega)]
theorem pegs_loop {p : Nat} (hp : p < 3) {rr ho ps ma : Nat → Int32} : ∀ (d k m : Nat) (co : Nat → Int32), k + d = 12 → d < m → ∃ co', f_X7_pegs_b81 (nI p) rr ho ps ma m (nI k) co = some (1, 0, rr, ps, ma, ho, co') ∧ ∀ j, co' j = if 12 * p + k ≤ j ∧ j < 12 * p + 12 then -1 else co j
  | d, k, 0, _, _, q => absurd q (by omega)
  | 0, k, m + 1, co, hk, _ => by
    refine ⟨co, ?_, fun j => by rw [if_neg (by omega)]⟩
    rw [f_X7_pegs_b81, show (12 : Int32) = nI 12 from rfl, dq_if_pos (nI_le (by omega) (by omega))]
  | d + 1, k, m + 1, co, hk, hm => by
    obtain ⟨co', f, g⟩ := pegs_loop hp (rr := rr) (ho := ho) (ps := ps) (ma := ma) d (k + 1) m (upd co (12 * p + k) (-1)) (by omega) (by omega)
    refine ⟨co', ?_, fun j => ?_⟩
    · rw [f_X7_pegs_b81, pk_12, show (12 : Int32) = nI 12 from rfl, dq_if_neg (nI_ge (by omega) (by omega)), dq_gd_pos (vp_in_nI (by omega) (by omega)), nI_clamp (by omega)]
      simp only [dq_let]
      rw [show nI k + (1 : Int32) = nI (k + 1) from nI_1 k]
      exact f
    · rw [g j]
      by_cases z : j = 12 * p + k
      · subst z
        rw [if_neg (by omega), pk_us, if_pos (by omega)]
      · rw [pk_un z]
        by_cases w : 12 * p + (k + 1) ≤ j ∧ j < 12 * p + 12
        · rw [if_pos w, if_pos (by omega)]
        · rw [if_neg w, if_neg (by omega)]
theorem mv_1 {p i o j n N : Nat} (hp : p < 3) (hin : i + n ≤ N) (hN : N ≤ 12) {so rr ps co : Nat → Int32} {pl : Nat → Nat → Int32} (hc : ∀ b, b < 12 → coatR (pl p b) (co (12 * p + b))) : ∀ (d k m m' : Nat) (cc cm : Nat → Int32), k + d = n → d < m → d < m' → (∀ b, b < k → coatR (cc b) (cm b)) → ∃ cc' cm', f_X4_carry_b3 (nI p) (nI i) (nI o) (nI j) (nI n) so pl m (nI k) cc = f_X4_carry_b37 (nI o) (nI j) (nI n) so cc' 4096 0 pl ∧ f_X7_moves_b101 (nI p) (nI i) (nI o) (nI j) (nI n) rr ps co m' (nI k) cm = f_X7_moves_b138 (nI o) (nI j) (nI n) rr ps cm' 4096 0 co ∧ ∀ b, b < n → coatR (cc' b) (cm' b)
  | d, k, 0, _, _, _, _, q, _, _ => absurd q (by omega)
  | d, k, m + 1, 0, _, _, _, _, q, _ => absurd q (by omega)
  | 0, k, m + 1, m' + 1, cc, cm, hk, _, _, hb => by
    refine ⟨cc, cm, ?_, ?_, fun b hb2 => hb b (by omega)⟩
    · rw [f_X4_carry_b3, dq_if_pos (nI_le (by omega) (by omega))]
    · rw [f_X7_moves_b101, dq_if_pos (nI_le (by omega) (by omega))]
  | d + 1, k, m + 1, m' + 1, cc, cm, hk, h1, h2, hb => by
    obtain ⟨cc', cm', f1, f2, f3⟩ := mv_1 (o := o) (j := j) hp hin hN (so := so) (rr := rr) (ps := ps) hc d (k + 1) m m' (upd cc k (pl p (i + k))) (upd cm k (co (12 * p + i + k))) (by omega) (by omega) (by omega) (fun b hb2 => by
      by_cases z : b = k
      · subst z
        rw [pk_us, pk_us, Nat.add_assoc]
        exact hc (i + b) (by omega)
      · rw [pk_un z, pk_un z]
        exact hb b (by omega))
    refine ⟨cc', cm', ?_, ?_, f3⟩
    · rw [f_X4_carry_b3, dq_if_neg (nI_ge (by omega) (by omega)), dq_gd_pos (vp_in_nI hp (by omega)), nI_add, dq_gd_pos (vp_in_nI (by omega) (by omega)), dq_gd_pos (vp_in_nI (by omega) (by omega)), nI_clamp (by omega), nI_clamp (by omega), nI_clamp (by omega)]
      simp only [dq_let]
      rw [show nI k + (1 : Int32) = nI (k + 1) from nI_1 k]
      exact f1
    · rw [f_X7_moves_b101, pk_12, nI_add, dq_if_neg (nI_ge (by omega) (by omega)), dq_gd_pos (vp_in_nI (by omega) (by omega)), dq_gd_pos (vp_in_nI (by omega) (by omega)), nI_clamp (by omega), nI_clamp (by omega)]
      simp only [dq_let]
      rw [show nI k + (1 : Int32) = nI (k + 1) from nI_1 k]
      exact f2
theorem mv_2 {o j n N : Nat} (ho3 : o < 3) (hin : j + n ≤ N) (hN : N ≤ 12) {so sz rr ps ma ho cc cm : Nat → Int32} (hz : sz o = nI N) (hc : ∀ b, b < n → coatR (cc b) (cm b)) : ∀ (d k m m' : Nat) (pl : Nat → Nat → Int32) (co : Nat → Int32), k + d = n → d < m → d < m' → pPegs so sz pl ps ma ho co → ∃ (r : Bool) (pl' : Nat → Nat → Int32) (co' : Nat → Int32), f_X4_carry_b37 (nI o) (nI j) (nI n) so cc m (nI k) pl = some (nB r, pl', cc) ∧ f_X7_moves_b138 (nI o) (nI j) (nI n) rr ps cm m' (nI k) co = some (if r = true then nI n else -12, 0, rr, co', cm) ∧ pPegs so sz pl' ps ma ho co'
  | d, k, 0, _, _, _, _, q, _, _ => absurd q (by omega)
  | d, k, m + 1, 0, _, _, _, _, q, _ => absurd q (by omega)
  | 0, k, m + 1, m' + 1, pl, co, hk, _, _, G => by
    refine ⟨true, pl, co, ?_, ?_, G⟩
    · rw [f_X4_carry_b37, dq_if_pos (nI_le (by omega) (by omega))]
      rfl
    · rw [f_X7_moves_b138, dq_if_pos (nI_le (by omega) (by omega))]
      rfl
  | d + 1, k, m + 1, m' + 1, pl, co, hk, h1, h2, G => by
    have hkn : k < n := by omega
    have v12 : vp_in (nI k) 12 := vp_in_nI (by omega) (by omega)
    have ck : (nI k).toNatClampNeg = k := nI_clamp (by omega)
    rw [f_X4_carry_b37, f_X7_moves_b138, dq_if_neg (nI_ge hkn (by omega)), dq_if_neg (nI_ge hkn (by omega)), dq_gd_pos v12, dq_gd_pos v12, dq_gd_pos v12, ck, nI_add, pk_12, nI_add]
    rcases put_ok G (p := o) (i := j + k) ho3 hN hz (by omega) (hc k hkn) with ⟨f1, f2⟩ | ⟨f1, f2⟩
    · obtain ⟨r, pl', co', g1, g2, g3⟩ := mv_2 ho3 hin hN hz hc (rr := rr) d (k + 1) m m' (va_up pl o (upd (pl o) (j + k) (cc k))) (upd co (12 * o + (j + k)) (cm k)) (by omega) (by omega) (by omega) (pegs_put G (by omega) (hc k hkn))
      refine ⟨r, pl', co', ?_, ?_, g3⟩
      · rw [dq_bd2_s f1, dq_if_neg (by decide)]
        simp only [dq_let]
        rw [show nI k + (1 : Int32) = nI (k + 1) from nI_1 k]
        exact g1
      · rw [dq_bd_s f2, dq_if_neg (by decide), dq_gd_pos (vp_in_nI (by omega) (by omega)), nI_clamp (by omega)]
        simp only [dq_let]
        rw [show nI k + (1 : Int32) = nI (k + 1) from nI_1 k, Nat.add_assoc]
        exact g2
    · refine ⟨false, pl, co, ?_, ?_, G⟩
      · rw [dq_bd2_s f1, dq_if_pos rfl]
        rfl
      · rw [dq_bd_s f2, dq_if_pos rfl]
        rfl
theorem s_pegs {s : S6} {t : S7} (a b : Nat → Nat) (R : Rel s t) (n0 : Int32) (n1 : Int32) (n2 : Int32) : Sim (F6_pegs s n0 n1 n2) (F7_pegs t n0 n1 n2) := by
  refine Rel_o (C := fun s t => Sim (F6_pegs s n0 n1 n2) (F7_pegs t n0 n1 n2)) R ?_
  intro H P pc pn I L T g_hasImage g_n_warmth g_n_kind g_n_figure g_n_airCell g_n_way g_n_seat g_n_shawls g_n_steps g_n_numbers g_m_shutBits g_m_airs g_m_crownedBits g_m_sitters g_m_onBits g_m_turn g_m_taken g_m_warmth g_m_kind g_m_figure g_m_airCell g_m_way g_m_seat g_m_shawls g_m_count g_m_steps g_m_numbers g_i_shutBits g_i_airs g_i_crownedBits g_i_sitters g_i_onBits g_i_turn g_i_taken g_i_warmth g_i_kind g_i_figure g_i_airCell g_i_way g_i_seat g_i_shawls g_i_count g_i_steps g_i_numbers g_text_letters g_coats_sorts g_coats_sizes g_places g_coats_carried g_told g_refused g_oneHas g_otherHas g_k_shutBits g_k_airs g_k_crownedBits g_k_sitters g_k_onBits g_k_turn g_k_taken g_k_warmth g_k_kind g_k_figure g_k_airCell g_k_way g_k_seat g_k_shawls g_k_count g_k_steps g_k_numbers r_thrown r_at0 r_isBad r_statements r_stepsMany r_hasImage r_place0 r_isTaking r_keptIn r_seed r_warms r_shutAt r_kinds0 r_figures r_airAt r_ways r_crowned r_sitsAt r_shawls r_isOn r_stepOf r_stepBy r_refusals r_letters r_placeIn r_letterOf r_numbers r_stepsRead r_stepsBy r_kept r_keptWarms r_i_imaged r_imagedWarms r_turns0 r_turnWarms0 r_turnOf r_turnWarms r_row0 r_gains r_pegSort r_pegMany r_pegHolds r_coats r_coatsMoved hE hF hg hpc hpn hK hQ hPg hI hL hT hTl hO hR hG
  show Sim (F6_pegs _ n0 n1 n2) (F7_pegs _ n0 n1 n2)
  rw [F6_pegs_b, F7_pegs_b]
  refine sim_o ?_
  unfold f_X6_pegs f_X7_pegs
  have hV := hg.1
  obtain ⟨hA5, hS6, hH6, hT20, hK9⟩ := hV.1
  by_cases q : ixB n0 3 = true
  · obtain ⟨p, hp, rfl⟩ := ixB_t q
    have hv : vp_in (nI p) 3 := vp_in_nI (by omega) (by omega)
    have hcl : (nI p).toNatClampNeg = p := nI_clamp (by omega)
    by_cases q1 : ixB n1 3 = true
    · obtain ⟨so, hs, rfl⟩ := ixB_t q1
      have b0 : ¬ nI so < 0 := nI_pos (by omega)
      have b1 : nI so ≤ (2 : Int32) := nI_le (b := 2) (by omega) (by omega)
      by_cases t : n2 ≤ (12 : Int32)
      · by_cases u : (0 : Int32) ≤ n2
        · obtain ⟨N, hN, rfl⟩ := num_in u (Int32.not_lt.mpr t) rfl
          have hN : N < 12 + 1 := hN
          obtain ⟨pl', l6, m1, m2⟩ := hold_loop hp (so := upd g_coats_sorts p (nI so)) (sz := upd g_coats_sizes p (nI N)) 12 0 4096 g_places (by omega) (by omega)
          obtain ⟨co', l7, m3⟩ := pegs_loop hp (rr := r_refusals) (ho := upd r_pegHolds p 1) (ps := upd r_pegSort p (nI so)) (ma := upd r_pegMany p (nI N)) 12 0 4096 r_coats (by omega) (by omega)
          have h6 : f_X4_holdRow g_coats_sorts g_coats_sizes g_places (nI p) (nI so) (nI N) = some (upd g_coats_sorts p (nI so), upd g_coats_sizes p (nI N), pl') := by
            unfold f_X4_holdRow
            rw [dq_gd_pos hv, hcl]
            simp only [dq_let]
            rw [dq_gd_pos hv]
            exact l6
          refine Okt (c_isPeg _) q (Okn b0 (Okp b1 (Okp t (Okp u (Ok3 h6 (Okv ?_))))))
          rw [hcl]
          refine Okt (r_isPeg _) q (Okt (in_ix 3 (by decide)) q1 (Okp t (Okp u (Okg hv (Okl (Okg hv (Okl (Okg hv (Okl (Oke l7 ?_))))))))))
          refine ⟨rfl, Rel_i H P pc pn I L T ⟨hE, hF, hg, rfl⟩ ⟨⟨hpc, hpn, rfl, rfl, rfl⟩, hK, hQ, hPg⟩ hI ⟨hL, rfl, rfl, hT⟩ ⟨hTl, rfl, rfl, hO⟩ hR ?_⟩
          intro r hr
          by_cases z : r = p
          · subst z
            refine Or.inr ⟨N, so, by omega, hs, ?_, ?_, ?_, ?_, ?_, fun i hi => Or.inl ⟨(m2 i hi).1 (by omega), ?_⟩⟩
            · exact pk_us
            · exact pk_us
            · exact pk_us
            · exact pk_us
            · exact pk_us
            · show co' (12 * r + i) = -1
              rw [m3, if_pos (by omega)]
          · show (upd g_coats_sizes p (nI N) r = -1 ∧ upd r_pegHolds p 1 r = 0) ∨ (∃ n s, n ≤ 12 ∧ s < 3 ∧ upd g_coats_sizes p (nI N) r = nI n ∧ upd r_pegMany p (nI N) r = nI n ∧ upd r_pegHolds p 1 r = 1 ∧ upd g_coats_sorts p (nI so) r = nI s ∧ upd r_pegSort p (nI so) r = nI s ∧ ∀ i, i < 12 → (pl' r i = 0 ∧ co' (12 * r + i) = -1) ∨ ∃ c, 10 ≤ c ∧ c < 30 ∧ pl' r i = nI c ∧ co' (12 * r + i) = nI c)
            rw [pk_un z, pk_un z, pk_un z, pk_un z, pk_un z, m1 r z]
            rcases hG r hr with g | ⟨n, s, g1, g2, g3, g4, g5, g6, g7, g8⟩
            · exact Or.inl g
            · refine Or.inr ⟨n, s, g1, g2, g3, g4, g5, g6, g7, fun i hi => ?_⟩
              rw [m3, if_neg (by omega)]
              exact g8 i hi
        · refine Okt (c_isPeg _) q (Okn b0 (Okp b1 (Okp t (Okn u (Okv ?_)))))
          refine Okt (r_isPeg _) q (Okt (in_ix 3 (by decide)) q1 (Okp t (Okn u (Okv ?_))))
          exact ⟨rfl, Rel_i H P pc pn I L T ⟨hE, hF, hg, rfl⟩ ⟨⟨hpc, hpn, rfl, rfl, rfl⟩, hK, hQ, hPg⟩ hI ⟨hL, rfl, rfl, hT⟩ ⟨hTl, rfl, rfl, hO⟩ hR hG⟩
      · refine Okt (c_isPeg _) q (Okn b0 (Okp b1 (Okn t (Ok2 (c_refuse 6 (by omega) (by omega) _ (by decide)) (Okv ?_)))))
        refine Okt (r_isPeg _) q (Okt (in_ix 3 (by decide)) q1 (Okn t (Ok2 (r_refuse 6 (by omega) (by omega) _ (by decide)) (Okv ?_))))
        exact ⟨rfl, Rel_i H P pc pn I L T ⟨hE, hF, hg, rfl⟩ ⟨⟨hpc, hpn, rfl, rfl, rfl⟩, hK, hQ, hPg⟩ hI ⟨hL, rfl, rfl, hT⟩ ⟨hTl, rfl, rfl, hO⟩ (pRef_u hR) hG⟩
    · rcases ix2 (by omega) q1 with w | ⟨w, w2⟩
      · refine Okt (c_isPeg _) q (Okp w (Ok2 (c_refuse 2 (by omega) (by omega) _ (by decide)) (Okv ?_)))
        refine Okt (r_isPeg _) q (Okf (in_ix 3 (by decide)) q1 (Ok2 (r_refuse 2 (by omega) (by omega) _ (by decide)) (Okv ?_)))
        exact ⟨rfl, Rel_i H P pc pn I L T ⟨hE, hF, hg, rfl⟩ ⟨⟨hpc, hpn, rfl, rfl, rfl⟩, hK, hQ, hPg⟩ hI ⟨hL, rfl, rfl, hT⟩ ⟨hTl, rfl, rfl, hO⟩ (pRef_u hR) hG⟩
      · refine Okt (c_isPeg _) q (Okn w (Okn (fun z => absurd (Int32.le_iff_toInt_le.mp (Int32.le_trans w2 z)) (by decide)) (Ok2 (c_refuse 2 (by omega) (by omega) _ (by decide)) (Okv ?_))))
        refine Okt (r_isPeg _) q (Okf (in_ix 3 (by decide)) q1 (Ok2 (r_refuse 2 (by omega) (by omega) _ (by decide)) (Okv ?_)))
        exact ⟨rfl, Rel_i H P pc pn I L T ⟨hE, hF, hg, rfl⟩ ⟨⟨hpc, hpn, rfl, rfl, rfl⟩, hK, hQ, hPg⟩ hI ⟨hL, rfl, rfl, hT⟩ ⟨hTl, rfl, rfl, hO⟩ (pRef_u hR) hG⟩
  · refine Okf (c_isPeg _) q (Ok2 (c_refuse 1 (by omega) (by omega) _ (by decide)) (Okv ?_))
    refine Okf (r_isPeg _) q (Ok2 (r_refuse 1 (by omega) (by omega) _ (by decide)) (Okv ?_))
    exact ⟨rfl, Rel_i H P pc pn I L T ⟨hE, hF, hg, rfl⟩ ⟨⟨hpc, hpn, rfl, rfl, rfl⟩, hK, hQ, hPg⟩ hI ⟨hL, rfl, rfl, hT⟩ ⟨hTl, rfl, rfl, hO⟩ (pRef_u hR) hG⟩
theorem s_hangs {s : S6} {t : S7} (a b : Nat → Nat) (R : Rel s t) (n0 : Int32) (n1 : Int32) (n2 : Int32) (n3 : Int32) : Sim (F6_hangs s n0 n1 n2 n3) (F7_hangs t n0 n1 n2 n3) := by
  refine Rel_o (C := fun s t => Sim (F6_hangs s n0 n1 n2 n3) (F7_hangs t n0 n1 n2 n3)) R ?_
  intro H P pc pn I L T g_hasImage g_n_warmth g_n_kind g_n_figure g_n_airCell g_n_way g_n_seat g_n_shawls g_n_steps g_n_numbers g_m_shutBits g_m_airs g_m_crownedBits g_m_sitters g_m_onBits g_m_turn g_m_taken g_m_warmth g_m_kind g_m_figure g_m_airCell g_m_way g_m_seat g_m_shawls g_m_count g_m_steps g_m_numbers g_i_shutBits g_i_airs g_i_crownedBits g_i_sitters g_i_onBits g_i_turn g_i_taken g_i_warmth g_i_kind g_i_figure g_i_airCell g_i_way g_i_seat g_i_shawls g_i_count g_i_steps g_i_numbers g_text_letters g_coats_sorts g_coats_sizes g_places g_coats_carried g_told g_refused g_oneHas g_otherHas g_k_shutBits g_k_airs g_k_crownedBits g_k_sitters g_k_onBits g_k_turn g_k_taken g_k_warmth g_k_kind g_k_figure g_k_airCell g_k_way g_k_seat g_k_shawls g_k_count g_k_steps g_k_numbers r_thrown r_at0 r_isBad r_statements r_stepsMany r_hasImage r_place0 r_isTaking r_keptIn r_seed r_warms r_shutAt r_kinds0 r_figures r_airAt r_ways r_crowned r_sitsAt r_shawls r_isOn r_stepOf r_stepBy r_refusals r_letters r_placeIn r_letterOf r_numbers r_stepsRead r_stepsBy r_kept r_keptWarms r_i_imaged r_imagedWarms r_turns0 r_turnWarms0 r_turnOf r_turnWarms r_row0 r_gains r_pegSort r_pegMany r_pegHolds r_coats r_coatsMoved hE hF hg hpc hpn hK hQ hPg hI hL hT hTl hO hR hG
  show Sim (F6_hangs _ n0 n1 n2 n3) (F7_hangs _ n0 n1 n2 n3)
  rw [F6_hangs_b, F7_hangs_b]
  refine sim_o ?_
  unfold f_X6_hangs f_X7_hangs f_X6_hangs_b30 f_X7_hangs_b43
  have hV := hg.1
  obtain ⟨hA5, hS6, hH6, hT20, hK9⟩ := hV.1
  by_cases q : ixB n0 3 = true
  · obtain ⟨p, hp, rfl⟩ := ixB_t q
    by_cases y1 : n2 = 1
    · subst y1
      rcases wr_3 n3 0 9 (by omega) (by omega) with ⟨w1, w2⟩ | ⟨w1, w2, w3⟩ | ⟨t, -, ht, rfl, w1⟩
      · refine Okt (c_isPeg _) q (Okp rfl (Okn w2 (Ok2 (c_refuse 4 (by omega) (by omega) _ (by decide)) (Okv ?_))))
        refine Okt (r_isPeg _) q (Okt (r_in _ _ _) (by decide) (Ok1 (r_wr w1) (Okn (by decide) (Ok2 (r_refuse 4 (by omega) (by omega) _ (by decide)) (Okv ?_)))))
        exact ⟨rfl, Rel_i H P pc pn I L T ⟨hE, hF, hg, rfl⟩ ⟨⟨hpc, hpn, rfl, rfl, rfl⟩, hK, hQ, hPg⟩ hI ⟨hL, rfl, rfl, hT⟩ ⟨hTl, rfl, rfl, hO⟩ (pRef_u hR) hG⟩
      · refine Okt (c_isPeg _) q (Okp rfl (Okp w2 (Okn (Int32.not_le.mpr w3) (Ok2 (c_refuse 6 (by omega) (by omega) _ (by decide)) (Okv ?_)))))
        refine Okt (r_isPeg _) q (Okt (r_in _ _ _) (by decide) (Ok1 (r_wr w1) (Okn (by decide) (Ok2 (r_refuse 6 (by omega) (by omega) _ (by decide)) (Okv ?_)))))
        exact ⟨rfl, Rel_i H P pc pn I L T ⟨hE, hF, hg, rfl⟩ ⟨⟨hpc, hpn, rfl, rfl, rfl⟩, hK, hQ, hPg⟩ hI ⟨hL, rfl, rfl, hT⟩ ⟨hTl, rfl, rfl, hO⟩ (pRef_u hR) hG⟩
      · have b1 : (0 : Int32) ≤ nI t := nI_pos' (by omega)
        have b2 : nI t ≤ (9 : Int32) := nI_le (b := 9) ht (by omega)
        have ec : (10 : Int32) * 1 + nI t = nI (10 + t) := nI_add 10 t
        rw [ec]
        rcases hG p hp with ⟨z1, z2⟩ | ⟨N, so, z1, z2, z3, z4, z5, z6, z7, z8⟩
        · obtain ⟨f6, f7⟩ := place_0 (ma := r_pegMany) hp z1 z2 n1
          refine Okt (c_isPeg _) q (Okp rfl (Okp b1 (Okp b2 (Ok1 f6 (Okn (by decide) (Okv ?_))))))
          refine Okt (r_isPeg _) q (Okt (r_in _ _ _) (by decide) (Ok1 (r_wr w1) (Okp (by decide) (Ok1 f7 (Okn (by decide) (Ok1 f7 (Okv ?_)))))))
          exact ⟨rfl, Rel_i H P pc pn I L T ⟨hE, hF, hg, rfl⟩ ⟨⟨hpc, hpn, rfl, rfl, rfl⟩, hK, hQ, hPg⟩ hI ⟨hL, rfl, rfl, hT⟩ ⟨hTl, rfl, rfl, hO⟩ hR hG⟩
        · obtain ⟨f6, f7⟩ := place_1 (ma := r_pegMany) (ho := r_pegHolds) hp z1 z3 z5 z4 n1
          by_cases u : ixB n1 N = true
          · rw [if_pos u] at f6 f7
            obtain ⟨i, hi, rfl⟩ := ixB_t u
            have hv : vp_in (nI (12 * p + i)) 36 := vp_in_nI (by omega) (by omega)
            rw [pk_12, nI_clamp (n := 12 * p + i) (by omega)]
            have cr : coatR (nI (10 + t)) (nI (10 + t)) := Or.inr ⟨_, by omega, by omega, rfl, rfl⟩
            have cr2 : coatR (nI (10 + t)) ((10 : Int32) * 1) ∨ True := Or.inr trivial
            have tk : f_X7_takes r_pegSort (nI p) ((10 : Int32) * 1) = f_X7_takes r_pegSort (nI p) (nI (10 + t)) := by
              unfold f_X7_takes
              rw [show nI (10 + t) / (10 : Int32) = nI ((10 + t) / 10) from pk_div (d := 10) (by omega) (by omega) (by omega), show (10 + t) / 10 = 1 by omega, dq_if_neg (show ¬ (10 : Int32) * 1 < 0 by decide), dq_if_neg (nI_pos (n := 10 + t) (by omega))]
              rfl
            rcases put_ok hG (i := i) hp z1 z3 (by omega) cr with ⟨g6, g7⟩ | ⟨g6, g7⟩
            · refine Okt (c_isPeg _) q (Okp rfl (Okp b1 (Okp b2 (Ok1 f6 (Okp rfl (Ok2 g6 (Okn (by decide) (Okv ?_))))))))
              refine Okt (r_isPeg _) q (Okt (r_in _ _ _) (by decide) (Ok1 (r_wr w1) (Okp (by decide) (Ok1 f7 (Okp (by decide) (Ok1 (tk.trans g7) (Okn (by decide) (Okg hv (Okl (Okv ?_))))))))))
              exact ⟨rfl, Rel_i H P pc pn I L T ⟨hE, hF, hg, rfl⟩ ⟨⟨hpc, hpn, rfl, rfl, rfl⟩, hK, hQ, hPg⟩ hI ⟨hL, rfl, rfl, hT⟩ ⟨hTl, rfl, rfl, hO⟩ hR (pegs_put hG (by omega) cr)⟩
            · refine Okt (c_isPeg _) q (Okp rfl (Okp b1 (Okp b2 (Ok1 f6 (Okp rfl (Ok2 g6 (Okp rfl (Okv ?_))))))))
              refine Okt (r_isPeg _) q (Okt (r_in _ _ _) (by decide) (Ok1 (r_wr w1) (Okp (by decide) (Ok1 f7 (Okp (by decide) (Ok1 (tk.trans g7) (Okp rfl (Okv ?_))))))))
              exact ⟨rfl, Rel_i H P pc pn I L T ⟨hE, hF, hg, rfl⟩ ⟨⟨hpc, hpn, rfl, rfl, rfl⟩, hK, hQ, hPg⟩ hI ⟨hL, rfl, rfl, hT⟩ ⟨hTl, rfl, rfl, hO⟩ hR hG⟩
          · rw [if_neg u] at f6 f7
            refine Okt (c_isPeg _) q (Okp rfl (Okp b1 (Okp b2 (Ok1 f6 (Okn (by decide) (Okv ?_))))))
            refine Okt (r_isPeg _) q (Okt (r_in _ _ _) (by decide) (Ok1 (r_wr w1) (Okp (by decide) (Ok1 f7 (Okn (by decide) (Ok1 f7 (Okv ?_)))))))
            exact ⟨rfl, Rel_i H P pc pn I L T ⟨hE, hF, hg, rfl⟩ ⟨⟨hpc, hpn, rfl, rfl, rfl⟩, hK, hQ, hPg⟩ hI ⟨hL, rfl, rfl, hT⟩ ⟨hTl, rfl, rfl, hO⟩ hR hG⟩
    by_cases y2 : n2 = 2
    · subst y2
      rcases wr_3 n3 0 9 (by omega) (by omega) with ⟨w1, w2⟩ | ⟨w1, w2, w3⟩ | ⟨t, -, ht, rfl, w1⟩
      · refine Okt (c_isPeg _) q (Okn (by decide) (Okp rfl (Okn w2 (Ok2 (c_refuse 4 (by omega) (by omega) _ (by decide)) (Okv ?_)))))
        refine Okt (r_isPeg _) q (Okt (r_in _ _ _) (by decide) (Ok1 (r_wr w1) (Okn (by decide) (Ok2 (r_refuse 4 (by omega) (by omega) _ (by decide)) (Okv ?_)))))
        exact ⟨rfl, Rel_i H P pc pn I L T ⟨hE, hF, hg, rfl⟩ ⟨⟨hpc, hpn, rfl, rfl, rfl⟩, hK, hQ, hPg⟩ hI ⟨hL, rfl, rfl, hT⟩ ⟨hTl, rfl, rfl, hO⟩ (pRef_u hR) hG⟩
      · refine Okt (c_isPeg _) q (Okn (by decide) (Okp rfl (Okp w2 (Okn (Int32.not_le.mpr w3) (Ok2 (c_refuse 6 (by omega) (by omega) _ (by decide)) (Okv ?_))))))
        refine Okt (r_isPeg _) q (Okt (r_in _ _ _) (by decide) (Ok1 (r_wr w1) (Okn (by decide) (Ok2 (r_refuse 6 (by omega) (by omega) _ (by decide)) (Okv ?_)))))
        exact ⟨rfl, Rel_i H P pc pn I L T ⟨hE, hF, hg, rfl⟩ ⟨⟨hpc, hpn, rfl, rfl, rfl⟩, hK, hQ, hPg⟩ hI ⟨hL, rfl, rfl, hT⟩ ⟨hTl, rfl, rfl, hO⟩ (pRef_u hR) hG⟩
      · have b1 : (0 : Int32) ≤ nI t := nI_pos' (by omega)
        have b2 : nI t ≤ (9 : Int32) := nI_le (b := 9) ht (by omega)
        have ec : (10 : Int32) * 2 + nI t = nI (20 + t) := nI_add 20 t
        rw [ec]
        rcases hG p hp with ⟨z1, z2⟩ | ⟨N, so, z1, z2, z3, z4, z5, z6, z7, z8⟩
        · obtain ⟨f6, f7⟩ := place_0 (ma := r_pegMany) hp z1 z2 n1
          refine Okt (c_isPeg _) q (Okn (by decide) (Okp rfl (Okp b1 (Okp b2 (Ok1 f6 (Okn (by decide) (Okv ?_)))))))
          refine Okt (r_isPeg _) q (Okt (r_in _ _ _) (by decide) (Ok1 (r_wr w1) (Okp (by decide) (Ok1 f7 (Okn (by decide) (Ok1 f7 (Okv ?_)))))))
          exact ⟨rfl, Rel_i H P pc pn I L T ⟨hE, hF, hg, rfl⟩ ⟨⟨hpc, hpn, rfl, rfl, rfl⟩, hK, hQ, hPg⟩ hI ⟨hL, rfl, rfl, hT⟩ ⟨hTl, rfl, rfl, hO⟩ hR hG⟩
        · obtain ⟨f6, f7⟩ := place_1 (ma := r_pegMany) (ho := r_pegHolds) hp z1 z3 z5 z4 n1
          by_cases u : ixB n1 N = true
          · rw [if_pos u] at f6 f7
            obtain ⟨i, hi, rfl⟩ := ixB_t u
            have hv : vp_in (nI (12 * p + i)) 36 := vp_in_nI (by omega) (by omega)
            rw [pk_12, nI_clamp (n := 12 * p + i) (by omega)]
            have cr : coatR (nI (20 + t)) (nI (20 + t)) := Or.inr ⟨_, by omega, by omega, rfl, rfl⟩
            have cr2 : coatR (nI (20 + t)) ((10 : Int32) * 2) ∨ True := Or.inr trivial
            have tk : f_X7_takes r_pegSort (nI p) ((10 : Int32) * 2) = f_X7_takes r_pegSort (nI p) (nI (20 + t)) := by
              unfold f_X7_takes
              rw [show nI (20 + t) / (10 : Int32) = nI ((20 + t) / 10) from pk_div (d := 10) (by omega) (by omega) (by omega), show (20 + t) / 10 = 2 by omega, dq_if_neg (show ¬ (10 : Int32) * 2 < 0 by decide), dq_if_neg (nI_pos (n := 20 + t) (by omega))]
              rfl
            rcases put_ok hG (i := i) hp z1 z3 (by omega) cr with ⟨g6, g7⟩ | ⟨g6, g7⟩
            · refine Okt (c_isPeg _) q (Okn (by decide) (Okp rfl (Okp b1 (Okp b2 (Ok1 f6 (Okp rfl (Ok2 g6 (Okn (by decide) (Okv ?_)))))))))
              refine Okt (r_isPeg _) q (Okt (r_in _ _ _) (by decide) (Ok1 (r_wr w1) (Okp (by decide) (Ok1 f7 (Okp (by decide) (Ok1 (tk.trans g7) (Okn (by decide) (Okg hv (Okl (Okv ?_))))))))))
              exact ⟨rfl, Rel_i H P pc pn I L T ⟨hE, hF, hg, rfl⟩ ⟨⟨hpc, hpn, rfl, rfl, rfl⟩, hK, hQ, hPg⟩ hI ⟨hL, rfl, rfl, hT⟩ ⟨hTl, rfl, rfl, hO⟩ hR (pegs_put hG (by omega) cr)⟩
            · refine Okt (c_isPeg _) q (Okn (by decide) (Okp rfl (Okp b1 (Okp b2 (Ok1 f6 (Okp rfl (Ok2 g6 (Okp rfl (Okv ?_)))))))))
              refine Okt (r_isPeg _) q (Okt (r_in _ _ _) (by decide) (Ok1 (r_wr w1) (Okp (by decide) (Ok1 f7 (Okp (by decide) (Ok1 (tk.trans g7) (Okp rfl (Okv ?_))))))))
              exact ⟨rfl, Rel_i H P pc pn I L T ⟨hE, hF, hg, rfl⟩ ⟨⟨hpc, hpn, rfl, rfl, rfl⟩, hK, hQ, hPg⟩ hI ⟨hL, rfl, rfl, hT⟩ ⟨hTl, rfl, rfl, hO⟩ hR hG⟩
          · rw [if_neg u] at f6 f7
            refine Okt (c_isPeg _) q (Okn (by decide) (Okp rfl (Okp b1 (Okp b2 (Ok1 f6 (Okn (by decide) (Okv ?_)))))))
            refine Okt (r_isPeg _) q (Okt (r_in _ _ _) (by decide) (Ok1 (r_wr w1) (Okp (by decide) (Ok1 f7 (Okn (by decide) (Ok1 f7 (Okv ?_)))))))
            exact ⟨rfl, Rel_i H P pc pn I L T ⟨hE, hF, hg, rfl⟩ ⟨⟨hpc, hpn, rfl, rfl, rfl⟩, hK, hQ, hPg⟩ hI ⟨hL, rfl, rfl, hT⟩ ⟨hTl, rfl, rfl, hO⟩ hR hG⟩
    have hno : ¬ inB n2 (1 : Int64).toInt (2 : Int64).toInt = true := by
      intro z
      have z : (1 : Int) ≤ n2.toInt ∧ n2.toInt ≤ 2 := of_decide_eq_true z
      have a1 : n2.toInt ≠ 1 := fun y => y1 (Int32.toInt_inj.mp y)
      have a2 : n2.toInt ≠ 2 := fun y => y2 (Int32.toInt_inj.mp y)
      omega
    refine Okt (c_isPeg _) q (Okn y1 (Okn y2 (Ok2 (c_refuse 2 (by omega) (by omega) _ (by decide)) (Okv ?_))))
    refine Okt (r_isPeg _) q (Okf (r_in _ _ _) hno (Okn (by decide) (Ok2 (r_refuse 2 (by omega) (by omega) _ (by decide)) (Okv ?_))))
    exact ⟨rfl, Rel_i H P pc pn I L T ⟨hE, hF, hg, rfl⟩ ⟨⟨hpc, hpn, rfl, rfl, rfl⟩, hK, hQ, hPg⟩ hI ⟨hL, rfl, rfl, hT⟩ ⟨hTl, rfl, rfl, hO⟩ (pRef_u hR) hG⟩
  · refine Okf (c_isPeg _) q (Ok2 (c_refuse 1 (by omega) (by omega) _ (by decide)) (Okv ?_))
    refine Okf (r_isPeg _) q (Ok2 (r_refuse 1 (by omega) (by omega) _ (by decide)) (Okv ?_))
    exact ⟨rfl, Rel_i H P pc pn I L T ⟨hE, hF, hg, rfl⟩ ⟨⟨hpc, hpn, rfl, rfl, rfl⟩, hK, hQ, hPg⟩ hI ⟨hL, rfl, rfl, hT⟩ ⟨hTl, rfl, rfl, hO⟩ (pRef_u hR) hG⟩
theorem s_coat {s : S6} {t : S7} (a b : Nat → Nat) (R : Rel s t) (n0 : Int32) (n1 : Int32) : Sim (F6_coat s n0 n1) (F7_coat t n0 n1) := by
  refine Rel_o (C := fun s t => Sim (F6_coat s n0 n1) (F7_coat t n0 n1)) R ?_
  intro H P pc pn I L T g_hasImage g_n_warmth g_n_kind g_n_figure g_n_airCell g_n_way g_n_seat g_n_shawls g_n_steps g_n_numbers g_m_shutBits g_m_airs g_m_crownedBits g_m_sitters g_m_onBits g_m_turn g_m_taken g_m_warmth g_m_kind g_m_figure g_m_airCell g_m_way g_m_seat g_m_shawls g_m_count g_m_steps g_m_numbers g_i_shutBits g_i_airs g_i_crownedBits g_i_sitters g_i_onBits g_i_turn g_i_taken g_i_warmth g_i_kind g_i_figure g_i_airCell g_i_way g_i_seat g_i_shawls g_i_count g_i_steps g_i_numbers g_text_letters g_coats_sorts g_coats_sizes g_places g_coats_carried g_told g_refused g_oneHas g_otherHas g_k_shutBits g_k_airs g_k_crownedBits g_k_sitters g_k_onBits g_k_turn g_k_taken g_k_warmth g_k_kind g_k_figure g_k_airCell g_k_way g_k_seat g_k_shawls g_k_count g_k_steps g_k_numbers r_thrown r_at0 r_isBad r_statements r_stepsMany r_hasImage r_place0 r_isTaking r_keptIn r_seed r_warms r_shutAt r_kinds0 r_figures r_airAt r_ways r_crowned r_sitsAt r_shawls r_isOn r_stepOf r_stepBy r_refusals r_letters r_placeIn r_letterOf r_numbers r_stepsRead r_stepsBy r_kept r_keptWarms r_i_imaged r_imagedWarms r_turns0 r_turnWarms0 r_turnOf r_turnWarms r_row0 r_gains r_pegSort r_pegMany r_pegHolds r_coats r_coatsMoved hE hF hg hpc hpn hK hQ hPg hI hL hT hTl hO hR hG
  show Sim (F6_coat _ n0 n1) (F7_coat _ n0 n1)
  rw [F6_coat_b, F7_coat_b]
  refine sim_o ?_
  unfold f_X6_coat f_X7_coat
  have hV := hg.1
  obtain ⟨hA5, hS6, hH6, hT20, hK9⟩ := hV.1
  by_cases q : ixB n0 3 = true
  · obtain ⟨p, hp, rfl⟩ := ixB_t q
    rcases hG p hp with ⟨z1, z2⟩ | ⟨N, so, z1, z2, z3, z4, z5, z6, z7, z8⟩
    · obtain ⟨f6, f7⟩ := place_0 (ma := r_pegMany) hp z1 z2 n1
      have cf : f_X4_coatFault g_coats_sizes g_places (nI p) n1 = some (-11) := by
        unfold f_X4_coatFault
        rw [dq_bd_s f6, dq_if_neg (by decide)]
      refine Okt (c_isPeg _) q (Ok1 cf (Okn (by decide) (Okv ?_)))
      refine Okt (r_isPeg _) q (Ok1 f7 (Okn (by decide) (Ok1 f7 (Okv ?_))))
      exact ⟨rfl, Rel_i H P pc pn I L T ⟨hE, hF, hg, rfl⟩ ⟨⟨hpc, hpn, rfl, rfl, rfl⟩, hK, hQ, hPg⟩ hI ⟨hL, rfl, rfl, hT⟩ ⟨hTl, rfl, rfl, hO⟩ hR hG⟩
    · obtain ⟨f6, f7⟩ := place_1 (ma := r_pegMany) (ho := r_pegHolds) hp z1 z3 z5 z4 n1
      by_cases u : ixB n1 N = true
      · rw [if_pos u] at f6 f7
        obtain ⟨i, hi, rfl⟩ := ixB_t u
        have hv : vp_in (nI (12 * p + i)) 36 := vp_in_nI (by omega) (by omega)
        have hv3 : vp_in (nI p) 3 := vp_in_nI (by omega) (by omega)
        have hv12 : vp_in (nI i) 12 := vp_in_nI (by omega) (by omega)
        have hcp : (nI p).toNatClampNeg = p := nI_clamp (by omega)
        have hci : (nI i).toNatClampNeg = i := nI_clamp (by omega)
        rw [pk_12, nI_clamp (n := 12 * p + i) (by omega), hcp, hci]
        have cf0 : f_X4_coatFault g_coats_sizes g_places (nI p) (nI i) = dq_if (g_places p i = 0) (some (-15 : Int32)) (some 0) := by
          unfold f_X4_coatFault
          rw [dq_bd_s f6, dq_if_pos rfl, dq_gd_pos hv3, dq_gd_pos hv12, hcp, hci]
        rcases z8 i (by omega) with ⟨y1, y2⟩ | ⟨c, y0, y3, y1, y2⟩
        · have cf : f_X4_coatFault g_coats_sizes g_places (nI p) (nI i) = some (-15) := by rw [cf0, dq_if_pos y1]
          refine Okt (c_isPeg _) q (Ok1 cf (Okn (by decide) (Okv ?_)))
          rw [y2]
          refine Okt (r_isPeg _) q (Ok1 f7 (Okp (by decide) (Okg hv (Okn (by decide) (Okv ?_)))))
          exact ⟨rfl, Rel_i H P pc pn I L T ⟨hE, hF, hg, rfl⟩ ⟨⟨hpc, hpn, rfl, rfl, rfl⟩, hK, hQ, hPg⟩ hI ⟨hL, rfl, rfl, hT⟩ ⟨hTl, rfl, rfl, hO⟩ hR hG⟩
        · have cf : f_X4_coatFault g_coats_sizes g_places (nI p) (nI i) = some 0 := by rw [cf0, dq_if_neg (by rw [y1]; exact nI_ne0 (by omega) (by omega))]
          refine Okt (c_isPeg _) q (Ok1 cf (Okp rfl (Okg hv3 (Okg hv12 (Okv ?_)))))
          rw [y2]
          refine Okt (r_isPeg _) q (Ok1 f7 (Okp (by decide) (Okg hv (Okp (nI_pos' (by omega)) (Okg hv (Okv ?_))))))
          exact ⟨(by show g_places p i = nI c; exact y1), Rel_i H P pc pn I L T ⟨hE, hF, hg, rfl⟩ ⟨⟨hpc, hpn, rfl, rfl, rfl⟩, hK, hQ, hPg⟩ hI ⟨hL, rfl, rfl, hT⟩ ⟨hTl, rfl, rfl, hO⟩ hR hG⟩
      · rw [if_neg u] at f6 f7
        have cf : f_X4_coatFault g_coats_sizes g_places (nI p) n1 = some (-13) := by
          unfold f_X4_coatFault
          rw [dq_bd_s f6, dq_if_neg (by decide)]
        refine Okt (c_isPeg _) q (Ok1 cf (Okn (by decide) (Okv ?_)))
        refine Okt (r_isPeg _) q (Ok1 f7 (Okn (by decide) (Ok1 f7 (Okv ?_))))
        exact ⟨rfl, Rel_i H P pc pn I L T ⟨hE, hF, hg, rfl⟩ ⟨⟨hpc, hpn, rfl, rfl, rfl⟩, hK, hQ, hPg⟩ hI ⟨hL, rfl, rfl, hT⟩ ⟨hTl, rfl, rfl, hO⟩ hR hG⟩
  · refine Okf (c_isPeg _) q (Ok2 (c_refuse 1 (by omega) (by omega) _ (by decide)) (Okv ?_))
    refine Okf (r_isPeg _) q (Ok2 (r_refuse 1 (by omega) (by omega) _ (by decide)) (Okv ?_))
    exact ⟨rfl, Rel_i H P pc pn I L T ⟨hE, hF, hg, rfl⟩ ⟨⟨hpc, hpn, rfl, rfl, rfl⟩, hK, hQ, hPg⟩ hI ⟨hL, rfl, rfl, hT⟩ ⟨hTl, rfl, rfl, hO⟩ (pRef_u hR) hG⟩
theorem s_wears {s : S6} {t : S7} (a b : Nat → Nat) (R : Rel s t) (n0 : Int32) (n1 : Int32) (n2 : Int32) : Sim (F6_wears s n0 n1 n2) (F7_wears t b n0 n1 n2) := by
  refine Rel_o (C := fun s t => Sim (F6_wears s n0 n1 n2) (F7_wears t b n0 n1 n2)) R ?_
  intro H P pc pn I L T g_hasImage g_n_warmth g_n_kind g_n_figure g_n_airCell g_n_way g_n_seat g_n_shawls g_n_steps g_n_numbers g_m_shutBits g_m_airs g_m_crownedBits g_m_sitters g_m_onBits g_m_turn g_m_taken g_m_warmth g_m_kind g_m_figure g_m_airCell g_m_way g_m_seat g_m_shawls g_m_count g_m_steps g_m_numbers g_i_shutBits g_i_airs g_i_crownedBits g_i_sitters g_i_onBits g_i_turn g_i_taken g_i_warmth g_i_kind g_i_figure g_i_airCell g_i_way g_i_seat g_i_shawls g_i_count g_i_steps g_i_numbers g_text_letters g_coats_sorts g_coats_sizes g_places g_coats_carried g_told g_refused g_oneHas g_otherHas g_k_shutBits g_k_airs g_k_crownedBits g_k_sitters g_k_onBits g_k_turn g_k_taken g_k_warmth g_k_kind g_k_figure g_k_airCell g_k_way g_k_seat g_k_shawls g_k_count g_k_steps g_k_numbers r_thrown r_at0 r_isBad r_statements r_stepsMany r_hasImage r_place0 r_isTaking r_keptIn r_seed r_warms r_shutAt r_kinds0 r_figures r_airAt r_ways r_crowned r_sitsAt r_shawls r_isOn r_stepOf r_stepBy r_refusals r_letters r_placeIn r_letterOf r_numbers r_stepsRead r_stepsBy r_kept r_keptWarms r_i_imaged r_imagedWarms r_turns0 r_turnWarms0 r_turnOf r_turnWarms r_row0 r_gains r_pegSort r_pegMany r_pegHolds r_coats r_coatsMoved hE hF hg hpc hpn hK hQ hPg hI hL hT hTl hO hR hG
  show Sim (F6_wears _ n0 n1 n2) (F7_wears _ b n0 n1 n2)
  rw [F6_wears_b, F7_wears_b]
  refine sim_o ?_
  unfold f_X6_wears f_X7_wears
  have hV := hg.1
  obtain ⟨hA5, hS6, hH6, hT20, hK9⟩ := hV.1
  by_cases q0 : ixB n0 (aS H) = true
  · obtain ⟨a1, ha, rfl⟩ := ixB_t q0
    have hv6 : vp_in (nI a1) 6 := vp_in_nI (by omega) (by omega)
    have hca : (nI a1).toNatClampNeg = a1 := nI_clamp (by omega)
    rw [hca]
    have s2 := (hE.2.2.2.1 a1 ha).2
    have s9 := (hV.2.2.1 a1 ha).2
    by_cases q : ixB n1 3 = true
    · obtain ⟨p, hp, rfl⟩ := ixB_t q
      rcases hG p hp with ⟨z1, z2⟩ | ⟨N, so, z1, z2, z3, z4, z5, z6, z7, z8⟩
      · obtain ⟨f6, f7⟩ := place_0 (ma := r_pegMany) hp z1 z2 n2
        have cf : f_X4_coatFault g_coats_sizes g_places (nI p) n2 = some (-11) := by
          unfold f_X4_coatFault
          rw [dq_bd_s f6, dq_if_neg (by decide)]
        refine Okt (c_isSitter _ (by omega)) q0 (Okt (c_isPeg _) q (Ok1 cf (Okn (by decide) (Okv ?_))))
        refine Okt (r_isSitter _ (by omega)) q0 (Okt (r_isPeg _) q (Ok1 f7 (Okn (by decide) (Ok1 f7 (Okv ?_)))))
        exact ⟨rfl, Rel_i H P pc pn I L T ⟨hE, hF, hg, rfl⟩ ⟨⟨hpc, hpn, rfl, rfl, rfl⟩, hK, hQ, hPg⟩ hI ⟨hL, rfl, rfl, hT⟩ ⟨hTl, rfl, rfl, hO⟩ hR hG⟩
      · obtain ⟨f6, f7⟩ := place_1 (ma := r_pegMany) (ho := r_pegHolds) hp z1 z3 z5 z4 n2
        by_cases u : ixB n2 N = true
        · rw [if_pos u] at f6 f7
          obtain ⟨i, hi, rfl⟩ := ixB_t u
          have hv : vp_in (nI (12 * p + i)) 36 := vp_in_nI (by omega) (by omega)
          have hv3 : vp_in (nI p) 3 := vp_in_nI (by omega) (by omega)
          have hv12 : vp_in (nI i) 12 := vp_in_nI (by omega) (by omega)
          have hcp : (nI p).toNatClampNeg = p := nI_clamp (by omega)
          have hci : (nI i).toNatClampNeg = i := nI_clamp (by omega)
          rw [pk_12, nI_clamp (n := 12 * p + i) (by omega), hcp, hci]
          have cf0 : f_X4_coatFault g_coats_sizes g_places (nI p) (nI i) = dq_if (g_places p i = 0) (some (-15 : Int32)) (some 0) := by
            unfold f_X4_coatFault
            rw [dq_bd_s f6, dq_if_pos rfl, dq_gd_pos hv3, dq_gd_pos hv12, hcp, hci]
          rcases z8 i (by omega) with ⟨y1, y2⟩ | ⟨c, y0, y3, y1, y2⟩
          · have cf : f_X4_coatFault g_coats_sizes g_places (nI p) (nI i) = some (-15) := by rw [cf0, dq_if_pos y1]
            refine Okt (c_isSitter _ (by omega)) q0 (Okt (c_isPeg _) q (Ok1 cf (Okn (by decide) (Okv ?_))))
            rw [y2]
            refine Okt (r_isSitter _ (by omega)) q0 (Okt (r_isPeg _) q (Ok1 f7 (Okp (by decide) (Okg hv (Okl (Okn (by decide) (Okv ?_)))))))
            exact ⟨rfl, Rel_i H P pc pn I L T ⟨hE, hF, hg, rfl⟩ ⟨⟨hpc, hpn, rfl, rfl, rfl⟩, hK, hQ, hPg⟩ hI ⟨hL, rfl, rfl, hT⟩ ⟨hTl, rfl, rfl, hO⟩ hR hG⟩
          · have cf : f_X4_coatFault g_coats_sizes g_places (nI p) (nI i) = some 0 := by rw [cf0, dq_if_neg (by rw [y1]; exact nI_ne0 (by omega) (by omega))]
            have cd : nI c / (10 : Int32) = nI (c / 10) := pk_div (d := 10) (by omega) (by omega) (by omega)
            have cm : nI c - nI c / (10 : Int32) * (10 : Int32) = nI (c % 10) := pk_rem (d := 10) (by omega) (by omega) (by omega)
            rw [cd] at cm
            have he : ∀ m : Nat, m ≤ 18 → (if (9 : Int32) < nI (aSh H a1) + nI m then (9 : Int32) else nI (aSh H a1) + nI m) = nI (min (aSh H a1 + m) 9) := by
              intro m hm
              rw [nI_add, show (9 : Int32) = nI 9 from rfl]
              by_cases z : 9 < aSh H a1 + m
              · rw [if_pos (nI_lt (a := 9) z (by omega)), Nat.min_eq_right (by omega)]
              · rw [if_neg (nI_nlt (a := 9) (by omega) (by omega)), Nat.min_eq_left (by omega)]
            obtain ⟨_, _, _, _, _, _, _, _, _, _, _, _, _, _, _, _, _, k6, hK'⟩ := c_keep hV hE hpc hpn hK
            obtain ⟨_, _, _, _, _, _, _, _, _, _, _, _, _, _, _, _, k7, hF', hQ'⟩ := r_keepTurn (a := b) (tO := r_turnOf) (tW := r_turnWarms) hV hF (fun i hi => (hPg i hi).1) hpc hQ
            have g2 := (hF'.2.2.1 a1 ha).2.1
            have hd : f_X7_held (nI (aSh H a1 + c % 10 * (c / 10))) 9 = some (nI (min (aSh H a1 + c % 10 * (c / 10)) 9)) := r_heldN (hi := 9) (by have : c % 10 * (c / 10) ≤ 9 * 2 := Nat.mul_le_mul (by omega) (by omega); omega) (by omega)
            by_cases f2 : c / 10 = 2
            · have e3 := he (c % 10 * (c / 10)) (by rw [f2]; omega)
              have e2 : (2 : Int32) * nI (c % 10) = nI (c % 10 * (c / 10)) := by
                rw [f2, Nat.mul_comm]
                exact pk_mul 2 (c % 10)
              refine Okt (c_isSitter _ (by omega)) q0 (Okt (c_isPeg _) q (Ok1 cf (Okp rfl (Ok19 k6 (Okg hv3 (Okg hv12 (Okl ?_)))))))
              rw [y1, cd, cm, e2]
              refine Okg hv3 (Okg hv12 (Okl (Okp (by rw [f2]; rfl) (Okl (Okg hv6 (Okl (Okg hv6 (Okl (Okg hv6 (Okv ?_))))))))))
              refine Okt (r_isSitter _ (by omega)) q0 (Okt (r_isPeg _) q (Ok1 f7 (Okp (by decide) (Okg hv (Okl ?_)))))
              rw [y2, cd, cm, pk_mul, s2, e3]
              refine Okp (nI_pos' (by omega)) (Ok25 k7 (Okg hv6 (Ok1 (y := nI (min (aSh H a1 + c % 10 * (c / 10)) 9)) (by rw [g2, nI_add]; exact hd) (Okg hv6 (Okl (Okg hv (Okl (Okg hv6 (Okv ?_)))))))))
              exact ⟨(by show upd _ a1 _ a1 = upd _ a1 _ a1; rw [pk_us, pk_us]), Rel_i (wrapS H a1 (min (aSh H a1 + c % 10 * (c / 10)) 9)) (keepP pc H P) (min (pc + 1) 8) ((pn + 1) % 8) I L T ⟨wrapS_C hE, wrapS_R hF', ⟨wrapS_V hV (by omega), hg.2.1, hg.2.2⟩, rfl⟩ ⟨⟨by omega, Nat.mod_lt _ (by decide), rfl, rfl, rfl⟩, hK', hQ', keepP_G hg hPg⟩ hI ⟨hL, rfl, rfl, hT⟩ ⟨hTl, rfl, rfl, hO⟩ hR (pegs_put hG (by omega) (Or.inl ⟨rfl, rfl⟩))⟩
            · have e3 := he (c % 10 * (c / 10)) (by rw [show c / 10 = 1 by omega]; omega)
              have e2 : nI (c % 10) = nI (c % 10 * (c / 10)) := by rw [show c / 10 = 1 by omega, Nat.mul_one]
              refine Okt (c_isSitter _ (by omega)) q0 (Okt (c_isPeg _) q (Ok1 cf (Okp rfl (Ok19 k6 (Okg hv3 (Okg hv12 (Okl ?_)))))))
              rw [y1, cd, cm, e2]
              refine Okg hv3 (Okg hv12 (Okl (Okn (fun z => f2 ((nI_eq (b := 2) (by omega) (by omega)).mp z)) (Okl (Okg hv6 (Okl (Okg hv6 (Okl (Okg hv6 (Okv ?_))))))))))
              refine Okt (r_isSitter _ (by omega)) q0 (Okt (r_isPeg _) q (Ok1 f7 (Okp (by decide) (Okg hv (Okl ?_)))))
              rw [y2, cd, cm, pk_mul, s2, e3]
              refine Okp (nI_pos' (by omega)) (Ok25 k7 (Okg hv6 (Ok1 (y := nI (min (aSh H a1 + c % 10 * (c / 10)) 9)) (by rw [g2, nI_add]; exact hd) (Okg hv6 (Okl (Okg hv (Okl (Okg hv6 (Okv ?_)))))))))
              exact ⟨(by show upd _ a1 _ a1 = upd _ a1 _ a1; rw [pk_us, pk_us]), Rel_i (wrapS H a1 (min (aSh H a1 + c % 10 * (c / 10)) 9)) (keepP pc H P) (min (pc + 1) 8) ((pn + 1) % 8) I L T ⟨wrapS_C hE, wrapS_R hF', ⟨wrapS_V hV (by omega), hg.2.1, hg.2.2⟩, rfl⟩ ⟨⟨by omega, Nat.mod_lt _ (by decide), rfl, rfl, rfl⟩, hK', hQ', keepP_G hg hPg⟩ hI ⟨hL, rfl, rfl, hT⟩ ⟨hTl, rfl, rfl, hO⟩ hR (pegs_put hG (by omega) (Or.inl ⟨rfl, rfl⟩))⟩
        · rw [if_neg u] at f6 f7
          have cf : f_X4_coatFault g_coats_sizes g_places (nI p) n2 = some (-13) := by
            unfold f_X4_coatFault
            rw [dq_bd_s f6, dq_if_neg (by decide)]
          refine Okt (c_isSitter _ (by omega)) q0 (Okt (c_isPeg _) q (Ok1 cf (Okn (by decide) (Okv ?_))))
          refine Okt (r_isSitter _ (by omega)) q0 (Okt (r_isPeg _) q (Ok1 f7 (Okn (by decide) (Ok1 f7 (Okv ?_)))))
          exact ⟨rfl, Rel_i H P pc pn I L T ⟨hE, hF, hg, rfl⟩ ⟨⟨hpc, hpn, rfl, rfl, rfl⟩, hK, hQ, hPg⟩ hI ⟨hL, rfl, rfl, hT⟩ ⟨hTl, rfl, rfl, hO⟩ hR hG⟩
    · refine Okt (c_isSitter _ (by omega)) q0 (Okf (c_isPeg _) q (Ok2 (c_refuse 1 (by omega) (by omega) _ (by decide)) (Okv ?_)))
      refine Okt (r_isSitter _ (by omega)) q0 (Okf (r_isPeg _) q (Ok2 (r_refuse 1 (by omega) (by omega) _ (by decide)) (Okv ?_)))
      exact ⟨rfl, Rel_i H P pc pn I L T ⟨hE, hF, hg, rfl⟩ ⟨⟨hpc, hpn, rfl, rfl, rfl⟩, hK, hQ, hPg⟩ hI ⟨hL, rfl, rfl, hT⟩ ⟨hTl, rfl, rfl, hO⟩ (pRef_u hR) hG⟩
  · refine Okf (c_isSitter _ (by omega)) q0 (Ok2 (c_refuse 1 (by omega) (by omega) _ (by decide)) (Okv ?_))
    refine Okf (r_isSitter _ (by omega)) q0 (Ok2 (r_refuse 1 (by omega) (by omega) _ (by decide)) (Okv ?_))
    exact ⟨rfl, Rel_i H P pc pn I L T ⟨hE, hF, hg, rfl⟩ ⟨⟨hpc, hpn, rfl, rfl, rfl⟩, hK, hQ, hPg⟩ hI ⟨hL, rfl, rfl, hT⟩ ⟨hTl, rfl, rfl, hO⟩ (pRef_u hR) hG⟩
