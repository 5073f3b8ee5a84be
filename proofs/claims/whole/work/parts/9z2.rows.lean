/-! still turns by odds -/
theorem Okb18 {A0 A1 A2 A3 A4 A5 A6 A7 A8 A9 A10 A11 A12 A13 A14 A15 A16 A17 α : Type} {x : Option (A0 × A1 × A2 × A3 × A4 × A5 × A6 × A7 × A8 × A9 × A10 × A11 × A12 × A13 × A14 × A15 × A16 × A17)} {f : A0 → A1 → A2 → A3 → A4 → A5 → A6 → A7 → A8 → A9 → A10 → A11 → A12 → A13 → A14 → A15 → A16 → A17 → Option α} {Q : α → Prop} {R : (A0 × A1 × A2 × A3 × A4 × A5 × A6 × A7 × A8 × A9 × A10 × A11 × A12 × A13 × A14 × A15 × A16 × A17) → Prop} (h : Ok x R) (k : ∀ x0 x1 x2 x3 x4 x5 x6 x7 x8 x9 x10 x11 x12 x13 x14 x15 x16 x17, R (x0, x1, x2, x3, x4, x5, x6, x7, x8, x9, x10, x11, x12, x13, x14, x15, x16, x17) → Ok (f x0 x1 x2 x3 x4 x5 x6 x7 x8 x9 x10 x11 x12 x13 x14 x15 x16 x17) Q) : Ok (dq_bd18 x f) Q := by
  obtain ⟨⟨x0, x1, x2, x3, x4, x5, x6, x7, x8, x9, x10, x11, x12, x13, x14, x15, x16, x17⟩, e, r⟩ := h
  exact Ok18 e (k x0 x1 x2 x3 x4 x5 x6 x7 x8 x9 x10 x11 x12 x13 x14 x15 x16 x17 r)
theorem z_nB (b : Bool) : dq_z (nB b) := by
  unfold dq_z
  cases b <;> decide
def stpS (b : Bool) (h : AH) : AH := if b = true then stillS h else turnS h
theorem stpS_V {h : AH} (V : aV h) (ht : aTn h + 1 < 2 ^ 20) (b : Bool) : aV (stpS b h) ∧ aS (stpS b h) = aS h ∧ aTn (stpS b h) = aTn h + 1 := by
  cases b with
  | true => exact ⟨freezeS_V (beginS_V V ht), rfl, rfl⟩
  | false =>
    obtain ⟨g1, g2, g3, g4⟩ := turnS_V V ht
    exact ⟨g1, g3, g4⟩
theorem stpS_off {h : AH} {b : Bool} {s : Nat} (o : aOn h s = false) : aOn (stpS b h) s = false := by
  cases z : aOn (stpS b h) s with
  | false => rfl
  | true =>
    have : aOn h s = true := by
      cases b with
      | true => exact on_still z
      | false => exact on_turn z
    rw [o] at this
    cases this
def hB (k x : Nat) : Bool := k / 2 ^ x % 2 == 1
def calmP (k : Nat) : Nat → Nat → AH → AH
  | 0, _, h => h
  | d + 1, x, h => calmP k d (x + 1) (stpS (hB k x) h)
theorem calmP_off {k s : Nat} : ∀ (d x : Nat) (h : AH), aOn h s = false → aOn (calmP k d x h) s = false
  | 0, _, _, o => o
  | d + 1, x, h, o => calmP_off d (x + 1) (stpS (hB k x) h) (stpS_off o)
def zS (k : Nat) : Nat → Nat
  | 0 => 0
  | x + 1 => zS k x + (if hB k x = true then 0 else 1)
theorem zS_le (k : Nat) : ∀ n, zS k n ≤ n
  | 0 => Nat.le_refl 0
  | n + 1 => by
    have := zS_le k n
    show zS k n + (if hB k n = true then 0 else 1) ≤ n + 1
    split <;> omega
theorem hB_dec : ∀ (x : Fin 8) (k : Fin 128), ((nI k.val >>> (nI x.val &&& 31)) &&& (1 : Int32)) = nB (hB k.val x.val) := by decide +kernel
theorem hB_ok {k x : Nat} (hk : k < 128) (hx : x < 8) : ((nI k >>> (nI x &&& 31)) &&& (1 : Int32)) = nB (hB k x) := hB_dec ⟨x, hx⟩ ⟨k, hk⟩
theorem r_hasBit {k x : Nat} (hk : k < 128) (hx : x < 8) : f_X7_hasBit (nI k) (nI x) = some (nB (hB k x)) := by
  unfold f_X7_hasBit
  rw [hB_ok hk hx]
  by_cases z : hB k x = true
  · rw [dq_if_pos (nB_1.mpr z), nB_1.mpr z]
  · rw [dq_if_neg (fun y => z (nB_1.mp y)), nB_0.mpr z]
theorem pop128 : ∀ k : Fin 128, f_J6_bitCount_0f7a4 (nI k.val) = some (nI (7 - zS k.val 7)) := by
  unfold f_J6_bitCount_0f7a4
  simp only [dq_let]
  decide +kernel
theorem zS_dec : ∀ (n : Fin 8) (k : Fin 128), k.val < 2 ^ n.val → 7 - zS k.val 7 = n.val - zS k.val n.val := by decide +kernel
theorem sh_dec : ∀ n : Fin 8, ((1 : Int32) <<< (nI n.val &&& 31)) = nI (2 ^ n.val) := by decide +kernel
theorem pow_le {t z : Nat} (ht : t ≤ 20) (hz : z ≤ 7) : t ^ z ≤ 1280000000 := Nat.le_trans (Nat.pow_le_pow_left ht z) (Nat.le_trans (Nat.pow_le_pow_right (by omega) hz) (by decide))
theorem p128 {n : Nat} (h : n ≤ 7) : 2 ^ n ≤ 128 := Nat.le_trans (Nat.pow_le_pow_right (by omega) h) (by decide)
theorem pow_loop {t n : Nat} (ht : t < 2 ^ 31) (hn : n < 2 ^ 20) : ∀ (d x m : Nat), x + d = n → d < m → f_X6_power_b5 (nI t) (nI n) m (lN (t ^ x)) (nI x) = some (lN (t ^ n))
  | d, x, 0, _, q => absurd q (by omega)
  | 0, x, m + 1, hx, _ => by
    rw [f_X6_power_b5, dq_if_pos (nI_le (by omega) (by omega)), show x = n by omega]
  | d + 1, x, m + 1, hx, hm => by
    rw [f_X6_power_b5, dq_if_neg (nI_ge (by omega) (by omega))]
    simp only [dq_let]
    rw [nI_l ht, lN_mul, nI_1 x, ← Nat.pow_succ]
    exact pow_loop ht hn d (x + 1) m (by omega) (by omega)
theorem c_power {t n : Nat} (ht : t < 2 ^ 31) (hn : n < 4096) : f_X6_power (nI t) (nI n) = some (lN (t ^ n)) := by
  unfold f_X6_power
  have := pow_loop ht (n := n) (by omega) n 0 4096 (by omega) (by omega)
  rw [nI_0] at this
  exact this
theorem gcd_s {x y : Nat} : Nat.gcd y (x % y) = Nat.gcd x y := by
  rw [Nat.gcd_comm y (x % y), ← Nat.gcd_rec y x, Nat.gcd_comm]
theorem eu_half {y r : Nat} (h : 0 < r) (h2 : r < y) : 2 * (y % r) < y := by
  have h3 := Nat.div_add_mod y r
  have h4 := Nat.mod_lt y h
  have h5 : 1 ≤ y / r := Nat.div_pos (by omega) h
  have h6 : r * 1 ≤ r * (y / r) := Nat.mul_le_mul_left r h5
  omega
theorem lgz {x : Nat} (hx : x < 2 ^ 62) : lg_cmp (lN x) 0 = 0 ↔ x = 0 := by
  rw [lg_eq, show (0 : Int64) = lN 0 from rfl, pk_lEQ (by omega) (by omega)]
theorem lnz {x : Nat} (hx : x < 2 ^ 62) (h0 : 0 < x) : ¬ lN x = 0 := by
  rw [show (0 : Int64) = lN 0 from rfl, pk_lEQ (by omega) (by omega)]
  omega
theorem gc_0 {x c m : Nat} (hc : c < 100) : f_X6_commonDivisor_b9 (m + 1) (lN x) (lN 0) (nI c) = some (lN x) := by
  rw [f_X6_commonDivisor_b9, dq_if_neg (show ¬ (100 : Int32) ≤ nI c from nI_ge (b := 100) hc (by omega)), dq_if_pos ((lgz (by omega)).mpr rfl)]
theorem gc_1 {x y c m : Nat} (hc : c < 100) (hx : x < 2 ^ 62) (h0 : 0 < y) (hy : y < 2 ^ 62) : f_X6_commonDivisor_b9 (m + 1) (lN x) (lN y) (nI c) = f_X6_commonDivisor_b9 m (lN y) (lN (x % y)) (nI (c + 1)) := by
  rw [f_X6_commonDivisor_b9, dq_if_neg (show ¬ (100 : Int32) ≤ nI c from nI_ge (b := 100) hc (by omega)), dq_if_neg (fun z => absurd ((lgz hy).mp z) (by omega)), dq_gd_pos (lnz hy h0)]
  simp only [dq_let]
  rw [pk_lRem (by omega) h0 (by omega), nI_1 c]
theorem ge_0 {x m : Nat} : f_X7_divisor_b6 (m + 1) (lN x) (lN 0) = some (lN x) := by
  rw [f_X7_divisor_b6, dq_if_pos ((lgz (by omega)).mpr rfl)]
theorem ge_1 {x y m : Nat} (hx : x < 2 ^ 62) (h0 : 0 < y) (hy : y < 2 ^ 62) : f_X7_divisor_b6 (m + 1) (lN x) (lN y) = f_X7_divisor_b6 m (lN y) (lN (x % y)) := by
  rw [f_X7_divisor_b6, dq_if_neg (fun z => absurd ((lgz hy).mp z) (by omega)), dq_gd_pos (lnz hy h0)]
  simp only [dq_let]
  rw [pk_lRem (by omega) h0 (by omega)]
theorem gc_l : ∀ (j x y c m : Nat), y < 2 ^ j → y < 2 ^ 62 → x < 2 ^ 62 → c + 2 * j < 100 → 2 * j < m → f_X6_commonDivisor_b9 m (lN x) (lN y) (nI c) = some (lN (Nat.gcd x y)) ∧ f_X7_divisor_b6 m (lN x) (lN y) = some (lN (Nat.gcd x y))
  | j, x, y, c, 0, _, _, _, _, q => absurd q (by omega)
  | 0, x, y, c, m + 1, h, _, hx, hc, _ => by
    have : y = 0 := by omega
    subst this
    rw [gc_0 (by omega), ge_0, Nat.gcd_zero_right]
    exact ⟨rfl, rfl⟩
  | j + 1, x, y, c, 1, _, _, _, _, q => absurd q (by omega)
  | j + 1, x, y, c, m + 2, h, hy, hx, hc, hm => by
    by_cases z : y = 0
    · subst z
      rw [gc_0 (by omega), ge_0, Nat.gcd_zero_right]
      exact ⟨rfl, rfl⟩
    · have h0 : 0 < y := by omega
      have l1 := Nat.mod_lt x h0
      rw [gc_1 (by omega) hx h0 hy, ge_1 hx h0 hy, ← gcd_s (x := x)]
      by_cases w : x % y = 0
      · rw [w, gc_0 (by omega), ge_0, Nat.gcd_zero_right]
        exact ⟨rfl, rfl⟩
      · have h1 : 0 < x % y := by omega
        have l2 := eu_half h1 l1
        have e : 2 ^ (j + 1) = 2 * 2 ^ j := by rw [Nat.pow_succ, Nat.mul_comm]
        rw [gc_1 (by omega) hy h1 (by omega), ge_1 hy h1 (by omega), ← gcd_s (x := y)]
        exact gc_l j _ _ (c + 1 + 1) m (by omega) (by omega) (by omega) (by omega) (by omega)
theorem gcd_ok {A D : Nat} (hA : A < 2 ^ 62) (hD : D < 2 ^ 31) : f_X6_commonDivisor (lN A) (lN D) = some (lN (Nat.gcd A D)) ∧ f_X7_divisor (lN A) (lN D) = some (lN (Nat.gcd A D)) := by
  unfold f_X6_commonDivisor f_X7_divisor
  have := gc_l 31 A D 0 4096 hD (by omega) hA (by omega) (by omega)
  rw [nI_0] at this
  exact this
def stV (A D j : Nat) : Int64 := if j = 0 then lN (A / Nat.gcd A D) else lN (D / Nat.gcd A D)
theorem gcd_b {A D : Nat} (hD : D < 2 ^ 31) (h0 : 0 < D) : 0 < Nat.gcd A D ∧ Nat.gcd A D < 2 ^ 31 := ⟨Nat.gcd_pos_of_pos_right A h0, Nat.lt_of_le_of_lt (Nat.gcd_le_right A h0) hD⟩
theorem r_partOf {A D j : Nat} (hA : A < 2 ^ 62) (hD : D < 2 ^ 31) (h0 : 0 < D) (hj : j = 0 ∨ j = 1) : f_X7_partOf (lN A) (lN D) (nI j) = some (stV A D j) := by
  obtain ⟨g1, g2⟩ := gcd_b (A := A) hD h0
  unfold f_X7_partOf stV
  by_cases z : A = 0
  · subst z
    rw [dq_if_pos ((lgz (by omega)).mpr rfl), Nat.gcd_zero_left, Nat.zero_div, Nat.div_self h0]
    rcases hj with rfl | rfl <;> rfl
  · rw [dq_if_neg (fun y => z ((lgz hA).mp y)), dq_bd_s (gcd_ok hA hD).2]
    rcases hj with rfl | rfl
    · rw [dq_if_pos nI_0, dq_gd_pos (lnz (by omega) g1), pk_lDiv (by omega) g1 (by omega), if_pos rfl]
    · rw [dq_if_neg (by decide), dq_gd_pos (lnz (by omega) g1), pk_lDiv (by omega) g1 (by omega), if_neg (by decide)]
def stN (H : AH) (s n t k : Nat) : Nat := if aOn (calmP k n 0 H) s = true then (t - 1) ^ (zS k n) else 0
def stL (H : AH) (s n t : Nat) : Nat → Nat → Nat → Nat
  | 0, _, a => a
  | d + 1, k, a => stL H s n t d (k + 1) (a + stN H s n t k)
theorem stN_le {H : AH} {s n t k : Nat} (ht : t ≤ 20) (hn : n ≤ 7) : stN H s n t k ≤ 1280000000 := by
  unfold stN
  split
  · exact pow_le (by omega) (Nat.le_trans (zS_le k n) hn)
  · omega
theorem stL_le {H : AH} {s n t : Nat} (ht : t ≤ 20) (hn : n ≤ 7) : ∀ (d k a : Nat), stL H s n t d k a ≤ a + d * 1280000000
  | 0, _, a => by show a ≤ _; omega
  | d + 1, k, a => by
    have h1 := stL_le (H := H) (s := s) (n := n) (t := t) ht hn d (k + 1) (a + stN H s n t k)
    have h2 := stN_le (H := H) (s := s) (n := n) (t := t) (k := k) ht hn
    show stL H s n t d (k + 1) (a + stN H s n t k) ≤ _
    omega
theorem c_refL {f : Nat → Int32} (k : Nat) (h1 : 1 ≤ k) (h6 : k ≤ 6) (x : Int32) (hx : x = -nI k) : f_X6_refuseLong f x = some (4000000000000000000 - x.toInt64, refU f k) := by
  unfold f_X6_refuseLong
  rw [dq_bd2_s (c_refuse k h1 h6 x hx)]
theorem lc_behind {sb : Int64} {ai si hc : Int32} {ki fi se hs hn : Nat → Int32} {s n k : Nat} (hn7 : n ≤ 7) (hk : k < 128) : ∀ (d x m : Nat) (h : AH) (cb ob tn tk : Int32) (wm : Nat → UInt32) (ac wy sl : Nat → Int32), x + d = n → d < m → aV h → s < aS h → aTn h + d < 2 ^ 20 → HC h sb ai cb si ob tn tk wm ki fi ac wy se sl hc hs hn → Ok (f_X6_isOnBehind_b14 (nI s) (nI n) (nI k) sb ai si ki fi se hc hs hn m (nI x) cb ob tn tk wm ac wy sl) (fun y => y.1 = nB (aOn (calmP k d x h) s))
  | d, x, 0, _, _, _, _, _, _, _, _, _, _, q, _, _, _, _ => absurd q (by omega)
  | 0, x, m + 1, h, cb, ob, tn, tk, wm, ac, wy, sl, hx, _, V, h1, _, E => by
    rw [f_X6_isOnBehind_b14]
    exact Okp (nI_le (by omega) (by omega)) (Ok1 (c_isO V E h1) (Okg (z_nB _) (Okv rfl)))
  | d + 1, x, m + 1, h, cb, ob, tn, tk, wm, ac, wy, sl, hx, hm, V, h1, ht, E => by
    obtain ⟨V1, gS, t1⟩ := stpS_V V (by omega) (hB k x)
    have h1' : s < aS (stpS (hB k x) h) := by rw [gS]; exact h1
    rw [f_X6_isOnBehind_b14]
    refine Okn (nI_ge (by omega) (by omega)) ?_
    refine Okbd (c_isO V E h1) (fun y => ?_) (fun y => ?_)
    · rw [hB_ok hk (by omega)]
      have ih := fun (cb ob tn tk : Int32) (wm : Nat → UInt32) (ac wy sl : Nat → Int32) E' => lc_behind (sb := sb) (ai := ai) (si := si) (hc := hc) (ki := ki) (fi := fi) (se := se) (hs := hs) (hn := hn) (s := s) hn7 hk d (x + 1) m (stpS (hB k x) h) cb ob tn tk wm ac wy sl (by omega) (by omega) V1 h1' (by omega) E'
      by_cases z : hB k x = true
      · refine Okp (nB_1.mpr z) ?_
        refine K_still V (by omega) E ?_
        intro _ _ _ E2
        refine Okl ?_
        rw [nI_1 x]
        exact ih _ _ _ _ _ _ _ _ (by unfold stpS; rw [if_pos z]; exact E2)
      · refine Okn (fun w => z (nB_1.mp w)) ?_
        rw [show (1 : Int32) = nI 1 from rfl]
        refine K_goOn (n := 1) (by omega) V (by omega) E ?_
        intro _ _ _ _ _ _ _ _ E2
        refine Okl ?_
        rw [show nI x + nI 1 = nI (x + 1) from nI_1 x]
        exact ih _ _ _ _ _ _ _ _ (by unfold stpS; rw [if_neg z]; exact E2)
    · exact Ok1 (c_isO V E h1) (Okg (z_nB _) (Okv (by rw [y, calmP_off (d + 1) x h y])))
theorem ok_behind {h : AH} {sb : Int64} {ai : Int32} {cb : Int32} {si : Int32} {ob : Int32} {tn : Int32} {tk : Int32} {wm : Nat → UInt32} {ki : Nat → Int32} {fi : Nat → Int32} {ac : Nat → Int32} {wy : Nat → Int32} {se : Nat → Int32} {sl : Nat → Int32} {hc : Int32} {hs : Nat → Int32} {hn : Nat → Int32} {wm0 : Nat → UInt32} {ki0 : Nat → Int32} {fi0 : Nat → Int32} {ac0 : Nat → Int32} {wy0 : Nat → Int32} {se0 : Nat → Int32} {sl0 : Nat → Int32} {hs0 : Nat → Int32} {hn0 : Nat → Int32} {s n k : Nat} (hn7 : n ≤ 7) (hk : k < 128) (V : aV h) (hs1 : s < aS h) (ht : aTn h + n < 2 ^ 20) (E : HC h sb ai cb si ob tn tk wm ki fi ac wy se sl hc hs hn) : Ok (f_X6_isOnBehind sb ai cb si ob tn tk wm ki fi ac wy se sl hc hs hn wm0 ki0 fi0 ac0 wy0 se0 sl0 hs0 hn0 (nI s) (nI n) (nI k)) (fun y => y.1 = nB (aOn (calmP k n 0 h) s)) := by
  unfold f_X6_isOnBehind
  refine K_take V E ?_
  intro _ _ _ _ _ _ _ _ _ E1
  rw [← nI_0]
  exact lc_behind hn7 hk n 0 4096 h _ _ _ _ _ _ _ _ (by omega) (by omega) V hs1 ht E1
theorem pow_pos' {t n : Nat} (ht : 0 < t) : 0 < t ^ n := Nat.pow_pos ht
theorem lc_still {H : AH} {g_n_shutBits : Int64} {g_n_airs : Int32} {g_n_crownedBits : Int32} {g_n_sitters : Int32} {g_n_onBits : Int32} {g_n_turn : Int32} {g_n_taken : Int32} {g_n_warmth : (Nat → UInt32)} {g_n_kind : (Nat → Int32)} {g_n_figure : (Nat → Int32)} {g_n_airCell : (Nat → Int32)} {g_n_way : (Nat → Int32)} {g_n_seat : (Nat → Int32)} {g_n_shawls : (Nat → Int32)} {g_n_count : Int32} {g_n_steps : (Nat → Int32)} {g_n_numbers : (Nat → Int32)} {g_refused : (Nat → Int32)} {s n t j : Nat} (hn7 : n ≤ 7) (ht2 : 2 ≤ t) (ht20 : t ≤ 20) (hj : j = 0 ∨ j = 1) (V : aV H) (hs1 : s < aS H) (ht : aTn H ≤ 999) (E : HC H g_n_shutBits g_n_airs g_n_crownedBits g_n_sitters g_n_onBits g_n_turn g_n_taken g_n_warmth g_n_kind g_n_figure g_n_airCell g_n_way g_n_seat g_n_shawls g_n_count g_n_steps g_n_numbers) {Q : (Int64 × Int64 × Int32 × Int32 × Int32 × Int32 × Int32 × Int32 × (Nat → UInt32) × (Nat → Int32) × (Nat → Int32) × (Nat → Int32) × (Nat → Int32) × (Nat → Int32) × (Nat → Int32) × Int32 × (Nat → Int32) × (Nat → Int32) × (Nat → Int32)) → Prop} : ∀ (d k m a : Nat) (sb : Int64) (ai cb si ob tn tk : Int32) (wm : Nat → UInt32) (ki fi ac wy se sl : Nat → Int32) (hc : Int32) (hs hn : Nat → Int32), k + d = 2 ^ n → d < m → a ≤ k * 1280000000 → (∀ (sb' : Int64) (ai' cb' si' ob' tn' tk' : Int32) (wm' : Nat → UInt32) (ki' fi' ac' wy' se' sl' : Nat → Int32) (hc' : Int32) (hs' hn' : Nat → Int32), Q (stV (stL H s n t d k a) (t ^ n) j, sb', ai', cb', si', ob', tn', tk', wm', ki', fi', ac', wy', se', sl', hc', hs', hn', g_refused)) → Ok (f_X6_still_b73 (nI s) (nI n) (nI t) (nI j) g_n_shutBits g_n_airs g_n_crownedBits g_n_sitters g_n_onBits g_n_turn g_n_taken g_n_warmth g_n_kind g_n_figure g_n_airCell g_n_way g_n_seat g_n_shawls g_n_count g_n_steps g_n_numbers g_refused m (lN a) (nI k) sb ai cb si ob tn tk wm ki fi ac wy se sl hc hs hn) Q
  | d, k, 0, _, _, _, _, _, _, _, _, _, _, _, _, _, _, _, _, _, _, _, q, _, _ => absurd q (by omega)
  | 0, k, m + 1, a, sb, ai, cb, si, ob, tn, tk, wm, ki, fi, ac, wy, se, sl, hc, hs, hn, hk, _, ha, K => by
    have p7 : 2 ^ n ≤ 128 := p128 hn7
    have tp : t ^ n ≤ 1280000000 := pow_le ht20 hn7
    have t0 : 0 < t ^ n := pow_pos' (by omega)
    obtain ⟨g1, g2⟩ := gcd_b (A := a) (D := t ^ n) (by omega) t0
    rw [f_X6_still_b73, show ((1 : Int32) <<< (nI n &&& 31)) = nI (2 ^ n) from sh_dec ⟨n, by omega⟩]
    refine Okp (nI_le (by omega) (by omega)) (Ok1 (c_power (by omega) (by omega)) (Ok1 (gcd_ok (by omega) (by omega)).1 ?_))
    refine Okp ?_ ?_
    · rcases lgc_3 (lN (Nat.gcd a (t ^ n))) 1 with ⟨w1, w2⟩ | ⟨w1, w2⟩ | ⟨w1, w2⟩
      · rw [w1]; decide
      · rw [w1]; decide
      · rw [show (1 : Int64) = lN 1 from rfl, pk_lT (by omega), pk_lT (by omega)] at w2
        omega
    · rcases hj with rfl | rfl
      · refine Okp nI_0 (Okg (lnz (by omega) g1) ?_)
        rw [pk_lDiv (by omega) g1 (by omega)]
        exact Okv (K _ _ _ _ _ _ _ _ _ _ _ _ _ _ _ _ _)
      · refine Okn (by decide) (Okg (lnz (by omega) g1) ?_)
        rw [pk_lDiv (by omega) g1 (by omega)]
        exact Okv (K _ _ _ _ _ _ _ _ _ _ _ _ _ _ _ _ _)
  | d + 1, k, m + 1, a, sb, ai, cb, si, ob, tn, tk, wm, ki, fi, ac, wy, se, sl, hc, hs, hn, hk, hm, ha, K => by
    have p7 : 2 ^ n ≤ 128 := p128 hn7
    have zl := zS_le k n
    rw [f_X6_still_b73, show ((1 : Int32) <<< (nI n &&& 31)) = nI (2 ^ n) from sh_dec ⟨n, by omega⟩]
    refine Okn (nI_ge (by omega) (by omega)) ?_
    refine Okb18 (ok_behind hn7 (by omega) V hs1 (by omega) E) ?_
    intro x0 _ _ _ _ _ _ _ _ _ _ _ _ _ _ _ _ _ hx0
    have hx1 : x0 = nB (aOn (calmP k n 0 H) s) := hx0
    rw [hx1]
    have lk : stL H s n t (d + 1) k a = stL H s n t d (k + 1) (a + stN H s n t k) := rfl
    have l2 := stN_le (H := H) (s := s) (n := n) (t := t) (k := k) ht20 hn7
    rw [lk] at K
    refine Okbb (fun y => ?_) (fun y => ?_)
    · have sn : stN H s n t k = (t - 1) ^ (zS k n) := if_pos y
      refine Ok1 (pop128 ⟨k, by omega⟩) ?_
      rw [zS_dec ⟨n, by omega⟩ ⟨k, by omega⟩ (show k < 2 ^ n by omega)]
      rw [show nI t - (1 : Int32) = nI (t - 1) from pk_sub (b := 1) (by omega), show nI n - nI (n - zS k n) = nI (zS k n) by rw [pk_sub (by omega)]; congr 1; omega]
      refine Ok1 (c_power (by omega) (by omega)) (Okl (Okl ?_))
      rw [lN_add, nI_1 k, ← sn]
      exact lc_still hn7 ht2 ht20 hj V hs1 ht E d (k + 1) m _ _ _ _ _ _ _ _ _ _ _ _ _ _ _ _ _ _ (by omega) (by omega) (by omega) K
    · have sn : stN H s n t k = 0 := if_neg (by rw [y]; decide)
      rw [sn, Nat.add_zero] at K
      refine Okl ?_
      rw [nI_1 k]
      exact lc_still hn7 ht2 ht20 hj V hs1 ht E d (k + 1) m a _ _ _ _ _ _ _ _ _ _ _ _ _ _ _ _ _ (by omega) (by omega) (Nat.le_trans ha (Nat.mul_le_mul_right _ (Nat.le_succ k))) K
/-! the reference's -/
theorem lr_101 {a : Nat → Nat} {n0 n3 : Int32} {r_airs : Int32} {r_sitters : Int32} {r_stepMany : Int32} {r_today : Int32} {r_taken : Int32} {r_isStill : Int32} {r_warms : (Nat → UInt32)} {r_shutAt : (Nat → Int32)} {r_kinds0 : (Nat → Int32)} {r_figures : (Nat → Int32)} {r_airAt : (Nat → Int32)} {r_ways : (Nat → Int32)} {r_crowned : (Nat → Int32)} {r_sitsAt : (Nat → Int32)} {r_shawls : (Nat → Int32)} {r_isOn : (Nat → Int32)} {r_stepOf : (Nat → Int32)} {r_stepBy : (Nat → Int32)} {r_refusals : (Nat → Int32)} {r_kept : (Nat → Int32)} {r_keptWarms : (Nat → UInt32)} {n t : Nat} (hn7 : n ≤ 7) (ht20 : t ≤ 20) {Q : (Int64 × Int32 × Int32 × Int32 × Int32 × Int32 × Int32 × Int32 × Int32 × Int32 × Value × (Nat → UInt32) × (Nat → Int32) × (Nat → Int32) × (Nat → Int32) × (Nat → Int32) × (Nat → Int32) × (Nat → Int32) × (Nat → Int32) × (Nat → Int32) × (Nat → Int32) × (Nat → Int32) × (Nat → Int32) × (Nat → Int32) × (Nat → Int32) × (Nat → UInt32)) → Prop} : ∀ (d x m : Nat), x + d = n → d < m → (∀ m' : Nat, Ok (f_X7_still_b101 a n0 (nI n) (nI t) n3 r_airs r_sitters r_stepMany r_today r_taken r_isStill r_warms r_shutAt r_kinds0 r_figures r_airAt r_ways r_crowned r_sitsAt r_shawls r_isOn r_stepOf r_stepBy r_refusals r_kept r_keptWarms (m' + 1) (lN (t ^ n)) (nI n)) Q) → Ok (f_X7_still_b101 a n0 (nI n) (nI t) n3 r_airs r_sitters r_stepMany r_today r_taken r_isStill r_warms r_shutAt r_kinds0 r_figures r_airAt r_ways r_crowned r_sitsAt r_shawls r_isOn r_stepOf r_stepBy r_refusals r_kept r_keptWarms m (lN (t ^ x)) (nI x)) Q
  | d, x, 0, _, q, _ => absurd q (by omega)
  | 0, x, m + 1, hx, _, K => by
    rw [show x = n by omega]
    exact K m
  | d + 1, x, m + 1, hx, hm, K => by
    rw [f_X7_still_b101]
    refine Okn (nI_ge (by omega) (by omega)) (Okl (Okl ?_))
    rw [nI_l (by omega), lN_mul, nI_1 x, ← Nat.pow_succ]
    exact lr_101 hn7 ht20 d (x + 1) m (by omega) (by omega) K
theorem lr_141 {H : AH} {a : Nat → Nat} {ai si hc : Int32} {sh ki fi se hs hn q : Nat → Int32} {qw : Nat → UInt32} {k127 : (Int64 → Int32 → Int32 → Int32 → Int32 → Int32 → Int32 → Int32 → Int32 → Int32 → Value → (Nat → UInt32) → (Nat → Int32) → (Nat → Int32) → (Nat → Int32) → (Nat → Int32) → (Nat → Int32) → (Nat → Int32) → (Nat → Int32) → (Nat → Int32) → (Nat → Int32) → (Nat → Int32) → (Nat → Int32) → (Nat → Int32) → (Nat → UInt32) → Option (Int64 × Int32 × Int32 × Int32 × Int32 × Int32 × Int32 × Int32 × Int32 × Int32 × Value × (Nat → UInt32) × (Nat → Int32) × (Nat → Int32) × (Nat → Int32) × (Nat → Int32) × (Nat → Int32) × (Nat → Int32) × (Nat → Int32) × (Nat → Int32) × (Nat → Int32) × (Nat → Int32) × (Nat → Int32) × (Nat → Int32) × (Nat → Int32) × (Nat → UInt32)))} {s n t k a0 : Nat} (hn7 : n ≤ 7) (ht2 : 2 ≤ t) (ht20 : t ≤ 20) (hk : k < 128) (VH : aV H) (QH : HP H q qw) {Q : (Int64 × Int32 × Int32 × Int32 × Int32 × Int32 × Int32 × Int32 × Int32 × Int32 × Value × (Nat → UInt32) × (Nat → Int32) × (Nat → Int32) × (Nat → Int32) × (Nat → Int32) × (Nat → Int32) × (Nat → Int32) × (Nat → Int32) × (Nat → Int32) × (Nat → Int32) × (Nat → Int32) × (Nat → Int32) × (Nat → Int32) × (Nat → Int32) × (Nat → UInt32)) → Prop} : ∀ (d x m : Nat) (h : AH) (tn tk st : Int32) (wm : Nat → UInt32) (ac wy cr sl on : Nat → Int32), x + d = n → d < m → aV h → s < aS h → aTn h + d < 2 ^ 20 → HR h ai si hc tn tk wm sh ki fi ac wy cr se sl on hs hn → (∀ (ai' si' hc' tn' tk' : Int32) (wm' : Nat → UInt32) (sh' ki' fi' ac' wy' cr' se' sl' on' hs' hn' q' : Nat → Int32) (qw' : Nat → UInt32), HR H ai' si' hc' tn' tk' wm' sh' ki' fi' ac' wy' cr' se' sl' on' hs' hn' → HP H q' qw' → Ok (k127 (lN (a0 + (if aOn (calmP k d x h) s = true then (t - 1) ^ (zS k n) else 0))) (nI (k + 1)) ai' si' hc' tn' tk' 0 (nI 96) 0 (Value.ref (a 20)) wm' sh' ki' fi' ac' wy' cr' se' sl' on' hs' hn' q' qw') Q) → Ok (f_X7_still_b141 a (nI s) (nI n) (nI t) (lN a0) (nI k) ai si hc sh ki fi se hs hn q qw k127 m (lN ((t - 1) ^ (zS k x))) (nI x) tn tk st wm ac wy cr sl on) Q
  | d, x, 0, _, _, _, _, _, _, _, _, _, _, _, q, _, _, _, _, _ => absurd q (by omega)
  | 0, x, m + 1, h, tn, tk, st, wm, ac, wy, cr, sl, on, hx, _, V, h1, _, F, K => by
    have hS := V.1.2.1
    have v1 : vp_in (nI s) 6 := vp_in_nI (by omega) (by omega)
    have c1 : (nI s).toNatClampNeg = s := nI_clamp (by omega)
    have f1 := (F.2.2.1 s h1).2.2
    have xn : x = n := by omega
    subst xn
    rw [f_X7_still_b141, c1, f1]
    refine Okp (nI_le (Nat.le_refl _) (by omega)) (Okg v1 ?_)
    by_cases z : aOn h s = true
    · have K2 : ∀ (ai' si' hc' tn' tk' : Int32) (wm' : Nat → UInt32) (sh' ki' fi' ac' wy' cr' se' sl' on' hs' hn' q' : Nat → Int32) (qw' : Nat → UInt32), HR H ai' si' hc' tn' tk' wm' sh' ki' fi' ac' wy' cr' se' sl' on' hs' hn' → HP H q' qw' → Ok (k127 (lN (a0 + (t - 1) ^ (zS k x))) (nI (k + 1)) ai' si' hc' tn' tk' 0 (nI 96) 0 (Value.ref (a 20)) wm' sh' ki' fi' ac' wy' cr' se' sl' on' hs' hn' q' qw') Q := by
        intro ai' si' hc' tn' tk' wm' sh' ki' fi' ac' wy' cr' se' sl' on' hs' hn' q' qw' F' Q'
        have := K ai' si' hc' tn' tk' wm' sh' ki' fi' ac' wy' cr' se' sl' on' hs' hn' q' qw' F' Q'
        rw [show calmP k 0 x h = h from rfl, if_pos z] at this
        exact this
      refine Okp (nB_1.mpr z) (Okl ?_)
      refine K_again VH QH ?_
      intro _ _ _ _ _ _ _ _ _ _ _ _ _ _ _ _ _ _ _ F3 Q3
      refine Okl ?_
      rw [nI_1 k, lN_add]
      exact K2 _ _ _ _ _ _ _ _ _ _ _ _ _ _ _ _ _ _ _ F3 Q3
    · have K2 : ∀ (ai' si' hc' tn' tk' : Int32) (wm' : Nat → UInt32) (sh' ki' fi' ac' wy' cr' se' sl' on' hs' hn' q' : Nat → Int32) (qw' : Nat → UInt32), HR H ai' si' hc' tn' tk' wm' sh' ki' fi' ac' wy' cr' se' sl' on' hs' hn' → HP H q' qw' → Ok (k127 (lN (a0 + 0)) (nI (k + 1)) ai' si' hc' tn' tk' 0 (nI 96) 0 (Value.ref (a 20)) wm' sh' ki' fi' ac' wy' cr' se' sl' on' hs' hn' q' qw') Q := by
        intro ai' si' hc' tn' tk' wm' sh' ki' fi' ac' wy' cr' se' sl' on' hs' hn' q' qw' F' Q'
        have := K ai' si' hc' tn' tk' wm' sh' ki' fi' ac' wy' cr' se' sl' on' hs' hn' q' qw' F' Q'
        rw [show calmP k 0 x h = h from rfl, if_neg z] at this
        exact this
      refine Okn (fun w => z (nB_1.mp w)) (Okl ?_)
      refine K_again VH QH ?_
      intro _ _ _ _ _ _ _ _ _ _ _ _ _ _ _ _ _ _ _ F3 Q3
      refine Okl ?_
      rw [nI_1 k, show lN a0 + (0 : Int64) = lN (a0 + 0) from lN_add a0 0]
      exact K2 _ _ _ _ _ _ _ _ _ _ _ _ _ _ _ _ _ _ _ F3 Q3
  | d + 1, x, m + 1, h, tn, tk, st, wm, ac, wy, cr, sl, on, hx, hm, V, h1, ht, F, K => by
    obtain ⟨V1, gS, t1⟩ := stpS_V V (by omega) (hB k x)
    have h1' : s < aS (stpS (hB k x) h) := by rw [gS]; exact h1
    have zk : zS k (x + 1) = zS k x + (if hB k x = true then 0 else 1) := rfl
    rw [f_X7_still_b141]
    refine Okn (nI_ge (by omega) (by omega)) ?_
    refine Okbd (r_hasBit hk (by omega)) (fun y => ?_) (fun y => ?_)
    · unfold f_X7_still_b167
      refine Okl (Ok1 (r_hasBit hk (by omega)) (Okg (z_nB _) ?_))
      refine K_turnB V (by omega) _ F ?_
      intro _ _ _ _ _ _ _ _ F2
      refine Okl ?_
      rw [nI_1 x, Int64.mul_one, show zS k x = zS k (x + 1) by rw [zk, if_pos y]; rfl]
      exact lr_141 hn7 ht2 ht20 hk VH QH d (x + 1) m (stpS (hB k x) h) _ _ _ _ _ _ _ _ _ (by omega) (by omega) V1 h1' (by omega) F2 K
    · unfold f_X7_still_b167
      refine Okl (Ok1 (r_hasBit hk (by omega)) (Okg (z_nB _) ?_))
      refine K_turnB V (by omega) _ F ?_
      intro _ _ _ _ _ _ _ _ F2
      refine Okl ?_
      rw [nI_1 x, show nI t - (1 : Int32) = nI (t - 1) from pk_sub (b := 1) (by omega), nI_l (by omega), lN_mul, ← Nat.pow_succ, show (zS k x).succ = zS k (x + 1) by rw [zk, if_neg (by rw [y]; decide)]]
      exact lr_141 hn7 ht2 ht20 hk VH QH d (x + 1) m (stpS (hB k x) h) _ _ _ _ _ _ _ _ _ (by omega) (by omega) V1 h1' (by omega) F2 K
theorem lr_still {H : AH} {a : Nat → Nat} {r_refusals : Nat → Int32} {s n t j : Nat} (hn7 : n ≤ 7) (ht2 : 2 ≤ t) (ht20 : t ≤ 20) (hj : j = 0 ∨ j = 1) (V : aV H) (hs1 : s < aS H) (ht : aTn H ≤ 999) {Q : (Int64 × Int32 × Int32 × Int32 × Int32 × Int32 × Int32 × Int32 × Int32 × Int32 × Value × (Nat → UInt32) × (Nat → Int32) × (Nat → Int32) × (Nat → Int32) × (Nat → Int32) × (Nat → Int32) × (Nat → Int32) × (Nat → Int32) × (Nat → Int32) × (Nat → Int32) × (Nat → Int32) × (Nat → Int32) × (Nat → Int32) × (Nat → Int32) × (Nat → UInt32)) → Prop} : ∀ (d k m a0 : Nat) (ai si hc tn tk pl it : Int32) (ke : Value) (wm : Nat → UInt32) (sh ki fi ac wy cr se sl on hs hn q : Nat → Int32) (qw : Nat → UInt32), k + d = 2 ^ n → d < m → a0 ≤ k * 1280000000 → HR H ai si hc tn tk wm sh ki fi ac wy cr se sl on hs hn → HP H q qw → (∀ (ai' si' hc' tn' tk' pl' it' : Int32) (ke' : Value) (wm' : Nat → UInt32) (sh' ki' fi' ac' wy' cr' se' sl' on' hs' hn' q' : Nat → Int32) (qw' : Nat → UInt32), HR H ai' si' hc' tn' tk' wm' sh' ki' fi' ac' wy' cr' se' sl' on' hs' hn' → HP H q' qw' → Q (stV (stL H s n t d k a0) (t ^ n) j, ai', si', hc', tn', tk', 0, 0, pl', it', ke', wm', sh', ki', fi', ac', wy', cr', se', sl', on', hs', hn', r_refusals, q', qw')) → Ok (f_X7_still_b127 a (nI s) (nI n) (nI t) (nI j) r_refusals (lN (t ^ n)) m (lN a0) (nI k) ai si hc tn tk 0 pl it ke wm sh ki fi ac wy cr se sl on hs hn q qw) Q
  | d, k, 0, _, _, _, _, _, _, _, _, _, _, _, _, _, _, _, _, _, _, _, _, _, _, _, _, q, _, _, _, _ => absurd q (by omega)
  | 0, k, m + 1, a0, ai, si, hc, tn, tk, pl, it, ke, wm, sh, ki, fi, ac, wy, cr, se, sl, on, hs, hn, q, qw, hk, _, ha, F, QH, K => by
    have p7 : 2 ^ n ≤ 128 := p128 hn7
    have tp : t ^ n ≤ 1280000000 := pow_le ht20 hn7
    have t0 : 0 < t ^ n := pow_pos' (by omega)
    rw [f_X7_still_b127, show ((1 : Int32) <<< (nI n &&& 31)) = nI (2 ^ n) from sh_dec ⟨n, by omega⟩]
    exact Okp (nI_le (by omega) (by omega)) (Ok1 (r_partOf (by omega) (by omega) t0 hj) (Okv (K _ _ _ _ _ _ _ _ _ _ _ _ _ _ _ _ _ _ _ _ _ _ F QH)))
  | d + 1, k, m + 1, a0, ai, si, hc, tn, tk, pl, it, ke, wm, sh, ki, fi, ac, wy, cr, se, sl, on, hs, hn, q, qw, hk, hm, ha, F, QH, K => by
    have p7 : 2 ^ n ≤ 128 := p128 hn7
    have lk : stL H s n t (d + 1) k a0 = stL H s n t d (k + 1) (a0 + stN H s n t k) := rfl
    have l2 := stN_le (H := H) (s := s) (n := n) (t := t) (k := k) ht20 hn7
    rw [lk] at K
    rw [f_X7_still_b127, show ((1 : Int32) <<< (nI n &&& 31)) = nI (2 ^ n) from sh_dec ⟨n, by omega⟩]
    refine Okn (nI_ge (by omega) (by omega)) ?_
    refine lr_141 hn7 ht2 ht20 (by omega) V QH n 0 4096 H _ _ _ _ _ _ _ _ _ (by omega) (by omega) V hs1 (by omega) F ?_
    intro _ _ _ _ _ _ _ _ _ _ _ _ _ _ _ _ _ _ _ F3 Q3
    exact lr_still hn7 ht2 ht20 hj V hs1 ht d (k + 1) m (a0 + stN H s n t k) _ _ _ _ _ _ _ _ _ _ _ _ _ _ _ _ _ _ _ _ _ _ (by omega) (by omega) (by omega) F3 Q3 K
theorem s_still {s : S6} {t : S7} (a b : Nat → Nat) (R : Rel s t) (n0 : Int32) (n1 : Int32) (n2 : Int32) (n3 : Int32) : SimL (F6_still s n0 n1 n2 n3) (F7_still t b n0 n1 n2 n3) := by
  refine Rel_o (C := fun s t => SimL (F6_still s n0 n1 n2 n3) (F7_still t b n0 n1 n2 n3)) R ?_
  intro H P pc pn I L T g_hasImage g_n_warmth g_n_kind g_n_figure g_n_airCell g_n_way g_n_seat g_n_shawls g_n_steps g_n_numbers g_m_shutBits g_m_airs g_m_crownedBits g_m_sitters g_m_onBits g_m_turn g_m_taken g_m_warmth g_m_kind g_m_figure g_m_airCell g_m_way g_m_seat g_m_shawls g_m_count g_m_steps g_m_numbers g_i_shutBits g_i_airs g_i_crownedBits g_i_sitters g_i_onBits g_i_turn g_i_taken g_i_warmth g_i_kind g_i_figure g_i_airCell g_i_way g_i_seat g_i_shawls g_i_count g_i_steps g_i_numbers g_text_letters g_coats_sorts g_coats_sizes g_places g_coats_carried g_told g_refused g_oneHas g_otherHas g_k_shutBits g_k_airs g_k_crownedBits g_k_sitters g_k_onBits g_k_turn g_k_taken g_k_warmth g_k_kind g_k_figure g_k_airCell g_k_way g_k_seat g_k_shawls g_k_count g_k_steps g_k_numbers r_thrown r_at0 r_isBad r_statements r_stepsMany r_hasImage r_place0 r_isTaking r_keptIn r_seed r_warms r_shutAt r_kinds0 r_figures r_airAt r_ways r_crowned r_sitsAt r_shawls r_isOn r_stepOf r_stepBy r_refusals r_letters r_placeIn r_letterOf r_numbers r_stepsRead r_stepsBy r_kept r_keptWarms r_i_imaged r_imagedWarms r_turns0 r_turnWarms0 r_turnOf r_turnWarms r_row0 r_gains r_pegSort r_pegMany r_pegHolds r_coats r_coatsMoved hE hF hg hpc hpn hK hQ hPg hI hL hT hTl hO hR hG
  show SimL (F6_still _ n0 n1 n2 n3) (F7_still _ b n0 n1 n2 n3)
  rw [F6_still_b, F7_still_b]
  refine simL_o ?_
  unfold f_X6_still f_X7_still
  have hV := hg.1
  obtain ⟨hA5, hS6, hH6, hT20, hK9⟩ := hV.1
  by_cases q : ixB n0 (aS H) = true
  · obtain ⟨s, hs, rfl⟩ := ixB_t q
    rcases wr_3 n1 0 7 (by omega) (by omega) with ⟨w1, w2⟩ | ⟨w1, w2, w3⟩ | ⟨n, -, hn, rfl, w1⟩
    · have w0 : n1 < 0 := Int32.not_le.mp w2
      refine Okt (c_isSitter _ (by omega)) q (Okp w0 (Ok2 (c_refL 4 (by omega) (by omega) _ (by decide)) (Okv ?_)))
      refine Okt (r_isSitter _ (by omega)) q (Okp w0 (Ok2 (r_refuse 4 (by omega) (by omega) _ (by decide)) (Okv ?_)))
      exact ⟨rfl, Rel_i H P pc pn I L T ⟨hE, hF, hg, rfl⟩ ⟨⟨hpc, hpn, rfl, rfl, rfl⟩, hK, hQ, hPg⟩ hI ⟨hL, rfl, rfl, hT⟩ ⟨hTl, rfl, rfl, hO⟩ (pRef_u hR) hG⟩
    · have w0 : ¬ n1 < 0 := Int32.not_lt.mpr w2
      rcases wr_3 n2 2 20 (by omega) (by omega) with ⟨u1, u2⟩ | ⟨u1, u2, u3⟩ | ⟨t, ht2, ht, rfl, u1⟩
      · refine Okt (c_isSitter _ (by omega)) q (Okn w0 (Okn u2 (Ok2 (c_refL 4 (by omega) (by omega) _ (by decide)) (Okv ?_))))
        refine Okt (r_isSitter _ (by omega)) q (Okn w0 (Okn u2 (Ok2 (r_refuse 4 (by omega) (by omega) _ (by decide)) (Okv ?_))))
        exact ⟨rfl, Rel_i H P pc pn I L T ⟨hE, hF, hg, rfl⟩ ⟨⟨hpc, hpn, rfl, rfl, rfl⟩, hK, hQ, hPg⟩ hI ⟨hL, rfl, rfl, hT⟩ ⟨hTl, rfl, rfl, hO⟩ (pRef_u hR) hG⟩
      · refine Okt (c_isSitter _ (by omega)) q (Okn w0 (Okp u2 (Okp w3 (Ok2 (c_refL 6 (by omega) (by omega) _ (by decide)) (Okv ?_)))))
        refine Okt (r_isSitter _ (by omega)) q (Okn w0 (Okp u2 (Okp w3 (Ok2 (r_refuse 6 (by omega) (by omega) _ (by decide)) (Okv ?_)))))
        exact ⟨rfl, Rel_i H P pc pn I L T ⟨hE, hF, hg, rfl⟩ ⟨⟨hpc, hpn, rfl, rfl, rfl⟩, hK, hQ, hPg⟩ hI ⟨hL, rfl, rfl, hT⟩ ⟨hTl, rfl, rfl, hO⟩ (pRef_u hR) hG⟩
      · refine Okt (c_isSitter _ (by omega)) q (Okn w0 (Okp (nI_le (a := 2) ht2 (by omega)) (Okp w3 (Ok2 (c_refL 6 (by omega) (by omega) _ (by decide)) (Okv ?_)))))
        refine Okt (r_isSitter _ (by omega)) q (Okn w0 (Okp (nI_le (a := 2) ht2 (by omega)) (Okp w3 (Ok2 (r_refuse 6 (by omega) (by omega) _ (by decide)) (Okv ?_)))))
        exact ⟨rfl, Rel_i H P pc pn I L T ⟨hE, hF, hg, rfl⟩ ⟨⟨hpc, hpn, rfl, rfl, rfl⟩, hK, hQ, hPg⟩ hI ⟨hL, rfl, rfl, hT⟩ ⟨hTl, rfl, rfl, hO⟩ (pRef_u hR) hG⟩
    · have w0 : ¬ nI n < 0 := nI_pos (by omega)
      have w7 : ¬ (7 : Int32) < nI n := nI_nlt (a := 7) hn (by omega)
      rcases wr_3 n2 2 20 (by omega) (by omega) with ⟨u1, u2⟩ | ⟨u1, u2, u3⟩ | ⟨t, ht2, ht, rfl, u1⟩
      · refine Okt (c_isSitter _ (by omega)) q (Okn w0 (Okn u2 (Ok2 (c_refL 4 (by omega) (by omega) _ (by decide)) (Okv ?_))))
        refine Okt (r_isSitter _ (by omega)) q (Okn w0 (Okn u2 (Ok2 (r_refuse 4 (by omega) (by omega) _ (by decide)) (Okv ?_))))
        exact ⟨rfl, Rel_i H P pc pn I L T ⟨hE, hF, hg, rfl⟩ ⟨⟨hpc, hpn, rfl, rfl, rfl⟩, hK, hQ, hPg⟩ hI ⟨hL, rfl, rfl, hT⟩ ⟨hTl, rfl, rfl, hO⟩ (pRef_u hR) hG⟩
      · refine Okt (c_isSitter _ (by omega)) q (Okn w0 (Okp u2 (Okn w7 (Okn (Int32.not_le.mpr u3) (Ok2 (c_refL 6 (by omega) (by omega) _ (by decide)) (Okv ?_))))))
        refine Okt (r_isSitter _ (by omega)) q (Okn w0 (Okp u2 (Okn w7 (Okn (Int32.not_le.mpr u3) (Ok2 (r_refuse 6 (by omega) (by omega) _ (by decide)) (Okv ?_))))))
        exact ⟨rfl, Rel_i H P pc pn I L T ⟨hE, hF, hg, rfl⟩ ⟨⟨hpc, hpn, rfl, rfl, rfl⟩, hK, hQ, hPg⟩ hI ⟨hL, rfl, rfl, hT⟩ ⟨hTl, rfl, rfl, hO⟩ (pRef_u hR) hG⟩
      · have u2 : (2 : Int32) ≤ nI t := nI_le (a := 2) ht2 (by omega)
        have u3 : nI t ≤ (20 : Int32) := nI_le (b := 20) ht (by omega)
        by_cases q3 : ixB n3 2 = true
        · obtain ⟨j, hj, rfl⟩ := ixB_t q3
          have hj2 : j = 0 ∨ j = 1 := by omega
          refine Okt (c_isSitter _ (by omega)) q (Okn w0 (Okp u2 (Okn w7 (Okp u3 (Okn (nI_pos (by omega)) (Okp (nI_le (b := 1) (by omega) (by omega)) ?_))))))
          rw [← nI_0, show (0 : Int64) = lN 0 from rfl]
          refine lc_still hn ht2 ht hj2 hV hs hg.2.2 hE (2 ^ n) 0 4096 0 _ _ _ _ _ _ _ _ _ _ _ _ _ _ _ _ _ (by omega) (by have := p128 hn; omega) (by omega) ?_
          intro _ _ _ _ _ _ _ _ _ _ _ _ _ _ _ _ _
          refine Okt (r_isSitter _ (by omega)) q (Okn w0 (Okp u2 (Okn w7 (Okp u3 (Okt (in_ix 2 (by decide)) q3 ?_)))))
          refine lr_101 hn ht n 0 4096 (by omega) (by omega) (fun m' => ?_)
          rw [f_X7_still_b101]
          refine Okp (nI_le (Nat.le_refl _) (by omega)) ?_
          refine K_think hV hF ?_
          intro _ _ _ _ _ _ _ _ _ _ _ _ _ _ F1 Q1
          refine lr_still hn ht2 ht hj2 hV hs hg.2.2 (2 ^ n) 0 4096 0 _ _ _ _ _ _ _ _ _ _ _ _ _ _ _ _ _ _ _ _ _ _ (by omega) (by have := p128 hn; omega) (by omega) F1 Q1 ?_
          intro _ _ _ _ _ _ _ _ _ _ _ _ _ _ _ _ _ _ _ _ _ _ F3 Q3
          exact ⟨rfl, Rel_i H P pc pn I L T ⟨hE, F3, hg, rfl⟩ ⟨⟨hpc, hpn, rfl, rfl, rfl⟩, hK, hQ, hPg⟩ hI ⟨hL, rfl, rfl, hT⟩ ⟨hTl, rfl, rfl, hO⟩ hR hG⟩
        · rcases ix2 (by omega) q3 with w | ⟨w, v2⟩
          · refine Okt (c_isSitter _ (by omega)) q (Okn w0 (Okp u2 (Okn w7 (Okp u3 (Okp w (Ok2 (c_refL 2 (by omega) (by omega) _ (by decide)) (Okv ?_)))))))
            refine Okt (r_isSitter _ (by omega)) q (Okn w0 (Okp u2 (Okn w7 (Okp u3 (Okf (in_ix 2 (by decide)) q3 (Ok2 (r_refuse 2 (by omega) (by omega) _ (by decide)) (Okv ?_)))))))
            exact ⟨rfl, Rel_i H P pc pn I L T ⟨hE, hF, hg, rfl⟩ ⟨⟨hpc, hpn, rfl, rfl, rfl⟩, hK, hQ, hPg⟩ hI ⟨hL, rfl, rfl, hT⟩ ⟨hTl, rfl, rfl, hO⟩ (pRef_u hR) hG⟩
          · refine Okt (c_isSitter _ (by omega)) q (Okn w0 (Okp u2 (Okn w7 (Okp u3 (Okn w (Okn (fun z => absurd (Int32.le_iff_toInt_le.mp (Int32.le_trans v2 z)) (by decide)) (Ok2 (c_refL 2 (by omega) (by omega) _ (by decide)) (Okv ?_))))))))
            refine Okt (r_isSitter _ (by omega)) q (Okn w0 (Okp u2 (Okn w7 (Okp u3 (Okf (in_ix 2 (by decide)) q3 (Ok2 (r_refuse 2 (by omega) (by omega) _ (by decide)) (Okv ?_)))))))
            exact ⟨rfl, Rel_i H P pc pn I L T ⟨hE, hF, hg, rfl⟩ ⟨⟨hpc, hpn, rfl, rfl, rfl⟩, hK, hQ, hPg⟩ hI ⟨hL, rfl, rfl, hT⟩ ⟨hTl, rfl, rfl, hO⟩ (pRef_u hR) hG⟩
  · refine Okf (c_isSitter _ (by omega)) q (Ok2 (c_refL 1 (by omega) (by omega) _ (by decide)) (Okv ?_))
    refine Okf (r_isSitter _ (by omega)) q (Ok2 (r_refuse 1 (by omega) (by omega) _ (by decide)) (Okv ?_))
    exact ⟨rfl, Rel_i H P pc pn I L T ⟨hE, hF, hg, rfl⟩ ⟨⟨hpc, hpn, rfl, rfl, rfl⟩, hK, hQ, hPg⟩ hI ⟨hL, rfl, rfl, hT⟩ ⟨hTl, rfl, rfl, hO⟩ (pRef_u hR) hG⟩
