/-! houses told in letters: house -/
def tlL (lt : Nat → Int32) : Nat → Nat → AH → Option AH × Nat
  | 0, k, h => (some h, k)
  | d + 1, k, h => match tellS lt (pl lt k) h with
    | none => (none, k)
    | some h' => tlL lt d (k + 1) h'
theorem tlL_n {lt : Nat → Int32} {d k : Nat} {h : AH} (e : tellS lt (pl lt k) h = none) : tlL lt (d + 1) k h = (none, k) := by
  show (match tellS lt (pl lt k) h with | none => (none, k) | some h' => tlL lt d (k + 1) h') = _
  rw [e]
theorem tlL_s {lt : Nat → Int32} {d k : Nat} {h h' : AH} (e : tellS lt (pl lt k) h = some h') : tlL lt (d + 1) k h = tlL lt d (k + 1) h' := by
  show (match tellS lt (pl lt k) h with | none => (none, k) | some h' => tlL lt d (k + 1) h') = _
  rw [e]
theorem neg_2000 {n : Nat} (h : n < 2 ^ 20) : (-2000 : Int32) - nI n < 0 := by
  rw [Int32.lt_iff_toInt_lt, show (-2000 : Int32) = nI 0 - nI 2000 by decide]
  have e : (nI 0 - nI 2000 - nI n) = nI 0 - nI (n + 2000) := by
    rw [Int32.sub_sub, nI_add, Nat.add_comm]
  rw [e, pk_sub_toInt (by omega) (by omega)]
  show ((0 : Nat) : Int) - ((n + 2000 : Nat) : Int) < 0
  omega
theorem neg_1000 {n : Nat} (h : n < 2 ^ 20) : (-1000 : Int32) - nI n < 0 := by
  rw [Int32.lt_iff_toInt_lt, show (-1000 : Int32) = nI 0 - nI 1000 by decide]
  have e : (nI 0 - nI 1000 - nI n) = nI 0 - nI (n + 1000) := by
    rw [Int32.sub_sub, nI_add, Nat.add_comm]
  rw [e, pk_sub_toInt (by omega) (by omega)]
  show ((0 : Nat) : Int) - ((n + 1000 : Nat) : Int) < 0
  omega
theorem dbl1 (x : Int32) : (-1 : Int32) - ((-1 : Int32) - x) = x := by
  rw [Int32.sub_eq_add_neg (-1 : Int32) ((-1 : Int32) - x), Int32.neg_sub, Int32.add_comm, Int32.sub_add_cancel]
theorem stE_up {lt : Nat → Int32} {L : Nat} {ℓ : Nat → Int32} (hL : L ≤ 96) (hlt : ∀ p, lt p = if p < L then ℓ p else -1) {p : Nat} (hp : p ≤ 99) : (stE lt p).1 < 2 ^ 13 := by
  have hu := body_up hL hlt (lt p) (q := p + 1) (by omega)
  unfold stE
  split
  · unfold semi
    split
    · omega
    · split
      · show _ + 1 < _
        omega
      · show _ < _
        omega
  · show p < _
    omega
theorem prs_up {lt : Nat → Int32} {L : Nat} {ℓ : Nat → Int32} (hL : L ≤ 96) (hlt : ∀ p, lt p = if p < L then ℓ p else -1) : ∀ (d k p : Nat), p ≤ L → (prs lt L d k p).2 = true → (prs lt L d k p).1 < 2 ^ 13
  | 0, k, p, hp, h => by cases h
  | d + 1, k, p, hp, h => by
    have u := stE_up hL hlt (p := p) (by omega)
    by_cases c : p < L ∨ k = 0
    · by_cases y : (stE lt p).2 = true
      · have pe : prs lt L (d + 1) k p = stE lt p := (if_pos c).trans (if_pos y)
        rw [pe]
        exact u
      · have pe : prs lt L (d + 1) k p = prs lt L d (k + 1) (stE lt p).1 := (if_pos c).trans (if_neg y)
        rw [pe] at h ⊢
        exact prs_up hL hlt d (k + 1) _ (stE_in hL hlt (by simpa using y)) h
    · have pe : prs lt L (d + 1) k p = (k, false) := if_neg c
      rw [pe] at h
      cases h
theorem prs_g {lt : Nat → Int32} {L : Nat} {ℓ : Nat → Int32} (hL : L ≤ 96) (hlt : ∀ p, lt p = if p < L then ℓ p else -1) : ∀ (d k p S : Nat), p = pl lt k → p ≤ L → prs lt L d k p = (S, false) → k ≤ S ∧ S ≤ k + d ∧ ∀ i, k ≤ i → i < S → (stE lt (pl lt i)).2 = false ∧ pl lt i ≤ L ∧ pl lt (i + 1) ≤ L
  | 0, k, p, S, _, _, h => by
    have : k = S := congrArg Prod.fst h
    exact ⟨by omega, by omega, fun i h1 h2 => absurd h1 (by omega)⟩
  | d + 1, k, p, S, hp, hpL, h => by
    by_cases c : p < L ∨ k = 0
    · by_cases y : (stE lt p).2 = true
      · have pe : prs lt L (d + 1) k p = stE lt p := (if_pos c).trans (if_pos y)
        rw [pe] at h
        rw [h] at y
        cases y
      · have y' : (stE lt p).2 = false := by simpa using y
        have pe : prs lt L (d + 1) k p = prs lt L d (k + 1) (stE lt p).1 := (if_pos c).trans (if_neg y)
        rw [pe] at h
        have i1 := stE_in hL hlt y'
        obtain ⟨g1, g2, g3⟩ := prs_g hL hlt d (k + 1) (stE lt p).1 S (by rw [hp]; rfl) i1 h
        refine ⟨by omega, by omega, fun i h1 h2 => ?_⟩
        by_cases z : i = k
        · subst z
          rw [← hp]
          exact ⟨y', hpL, by show (stE lt (pl lt i)).1 ≤ L; rw [← hp]; exact i1⟩
        · exact g3 i (by omega) h2
    · have pe : prs lt L (d + 1) k p = (k, false) := if_neg c
      rw [pe] at h
      have : k = S := congrArg Prod.fst h
      exact ⟨by omega, by omega, fun i h1 h2 => absurd h1 (by omega)⟩
theorem lc_house {lt : Nat → Int32} {L : Nat} {ℓ : Nat → Int32} (hL : L ≤ 96) (hlt : ∀ p, lt p = if p < L then ℓ p else -1) {g_n_shutBits : Int64} {g_n_airs : Int32} {g_n_crownedBits : Int32} {g_n_sitters : Int32} {g_n_onBits : Int32} {g_n_turn : Int32} {g_n_taken : Int32} {g_n_warmth : (Nat → UInt32)} {g_n_kind : (Nat → Int32)} {g_n_figure : (Nat → Int32)} {g_n_airCell : (Nat → Int32)} {g_n_way : (Nat → Int32)} {g_n_seat : (Nat → Int32)} {g_n_shawls : (Nat → Int32)} {g_n_count : Int32} {g_n_steps : (Nat → Int32)} {g_n_numbers : (Nat → Int32)} {g_past_count : Int32} {S : Nat} (hS : S ≤ 49) (hg : ∀ i, i < S → (stE lt (pl lt i)).2 = false ∧ pl lt i ≤ L ∧ pl lt (i + 1) ≤ L) {Q : (Int32 × Int64 × Int32 × Int32 × Int32 × Int32 × Int32 × Int32 × (Nat → UInt32) × (Nat → Int32) × (Nat → Int32) × (Nat → Int32) × (Nat → Int32) × (Nat → Int32) × (Nat → Int32) × Int32 × (Nat → Int32) × (Nat → Int32) × Int64 × Int32 × Int32 × Int32 × Int32 × Int32 × Int32 × (Nat → UInt32) × (Nat → Int32) × (Nat → Int32) × (Nat → Int32) × (Nat → Int32) × (Nat → Int32) × (Nat → Int32) × Int32 × (Nat → Int32) × (Nat → Int32) × Int32 × Int32) → Prop} : ∀ (d k m : Nat) (h : AH) (sb : Int64) (ai cb si ob tn tk : Int32) (wm : Nat → UInt32) (ki fi ac wy se sl : Nat → Int32) (hc : Int32) (hs hn : Nat → Int32), k + d = S → d + 1 < m → HC h sb ai cb si ob tn tk wm ki fi ac wy se sl hc hs hn → aG h → (∀ (h' : AH) (sb' : Int64) (ai' cb' si' ob' tn' tk' : Int32) (wm' : Nat → UInt32) (ki' fi' ac' wy' se' sl' : Nat → Int32) (hc' : Int32) (hs' hn' : Nat → Int32), tlL lt d k h = (some h', S) → HC h' sb' ai' cb' si' ob' tn' tk' wm' ki' fi' ac' wy' se' sl' hc' hs' hn' → aG h' → Ok (f_X6_house_b90 g_n_shutBits g_n_airs g_n_crownedBits g_n_sitters g_n_onBits g_n_turn g_n_taken g_n_warmth g_n_kind g_n_figure g_n_airCell g_n_way g_n_seat g_n_shawls g_n_count g_n_steps g_n_numbers g_past_count (nI S) sb' ai' cb' si' ob' tn' tk' wm' ki' fi' ac' wy' se' sl' hc' hs' hn') Q) → (∀ (k' : Nat) (sb' : Int64) (ai' cb' si' ob' tn' tk' : Int32) (wm' : Nat → UInt32) (ki' fi' ac' wy' se' sl' : Nat → Int32) (hc' : Int32) (hs' hn' : Nat → Int32), tlL lt d k h = (none, k') → pl lt k' ≤ L → Ok (f_X6_house_b90 g_n_shutBits g_n_airs g_n_crownedBits g_n_sitters g_n_onBits g_n_turn g_n_taken g_n_warmth g_n_kind g_n_figure g_n_airCell g_n_way g_n_seat g_n_shawls g_n_count g_n_steps g_n_numbers g_past_count ((-2000 : Int32) - nI (pl lt k')) sb' ai' cb' si' ob' tn' tk' wm' ki' fi' ac' wy' se' sl' hc' hs' hn') Q) → Ok (f_X6_house_b41 g_n_shutBits g_n_airs g_n_crownedBits g_n_sitters g_n_onBits g_n_turn g_n_taken g_n_warmth g_n_kind g_n_figure g_n_airCell g_n_way g_n_seat g_n_shawls g_n_count g_n_steps g_n_numbers g_past_count (nI L) ℓ (nI S) m (nI S) (nI (pl lt k)) (nI k) sb ai cb si ob tn tk wm ki fi ac wy se sl hc hs hn) Q
  | d, k, 0, _, _, _, _, _, _, _, _, _, _, _, _, _, _, _, _, _, _, _, z, _, _, _, _ => absurd z (by omega)
  | 0, k, m + 1, h, sb, ai, cb, si, ob, tn, tk, wm, ki, fi, ac, wy, se, sl, hc, hs, hn, hk, _, E, G, K1, K2 => by
    rw [f_X6_house_b41]
    refine Okp (nI_le (by omega) (by omega)) ?_
    have : k = S := by omega
    subst this
    exact K1 h _ _ _ _ _ _ _ _ _ _ _ _ _ _ _ _ _ rfl E G
  | d + 1, k, m + 1, h, sb, ai, cb, si, ob, tn, tk, wm, ki, fi, ac, wy, se, sl, hc, hs, hn, hk, hm, E, G, K1, K2 => by
    obtain ⟨g1, g2, g3⟩ := hg k (by omega)
    rw [f_X6_house_b41]
    refine Okn (nI_ge (by omega) (by omega)) (Okn (nI_pos (by omega)) (Okb18 (c_tell hL hlt (by omega) G E g1) ?_))
    intro x0 sb' ai' cb' si' ob' tn' tk' wm' ki' fi' ac' wy' se' sl' hc' hs' hn' t
    cases e : tellS lt (pl lt k) h with
    | none =>
      rw [e] at t
      have t0 : x0 = 0 := t
      subst t0
      have tt := tlL_n (d := d) e
      refine Okp rfl (Okl (Okl ?_))
      rw [nI_1 k]
      cases m with
      | zero => exact absurd hm (by omega)
      | succ m =>
        rw [f_X6_house_b41]
        by_cases w : S ≤ k + 1
        · exact Okp (nI_le w (by omega)) (K2 k _ _ _ _ _ _ _ _ _ _ _ _ _ _ _ _ _ tt g2)
        · exact Okn (nI_ge (by omega) (by omega)) (Okp (neg_2000 (by omega)) (K2 k _ _ _ _ _ _ _ _ _ _ _ _ _ _ _ _ _ tt g2))
    | some h' =>
      rw [e] at t
      obtain ⟨t0, t1⟩ := t
      have t0' : x0 = 1 := t0
      subst t0'
      have tt := tlL_s (d := d) e
      have ce : f_X5_statementEnd (nI L) ℓ (nI (pl lt k)) = some (nI (pl lt (k + 1))) := by
        rw [c_stE hL hlt (by omega), cod_f g1]
        rfl
      refine Okn (by decide) (Ok1 ce (Okl ?_))
      rw [nI_1 k]
      rw [tt] at K1 K2
      exact lc_house hL hlt hS hg d (k + 1) m h' _ _ _ _ _ _ _ _ _ _ _ _ _ _ _ _ _ (by omega) (by omega) t1 (tellS_G G g1 e) K1 K2
theorem lr_house {lt : Nat → Int32} {L : Nat} {H : AH} {a : Nat → Nat} {r_turned at0 pl0 it : Int32} {ke : Value} {pI lO num sR sB q : Nat → Int32} {qw : Nat → UInt32} {S sM : Nat} (hS : S ≤ 48) (hsM : sM ≤ 96) (I : InvT lt S sM pI lO num sR sB) (GH : aG H) (QH : HP H q qw) {Q : (Int32 × Int32 × Int32 × Int32 × Int32 × Int32 × Int32 × Int32 × Int32 × Int32 × Int32 × Int32 × Int32 × Int32 × Value × Int32 × (Nat → UInt32) × (Nat → Int32) × (Nat → Int32) × (Nat → Int32) × (Nat → Int32) × (Nat → Int32) × (Nat → Int32) × (Nat → Int32) × (Nat → Int32) × (Nat → Int32) × (Nat → Int32) × (Nat → Int32) × (Nat → Int32) × (Nat → Int32) × (Nat → Int32) × (Nat → Int32) × (Nat → Int32) × (Nat → Int32) × (Nat → UInt32)) → Prop} : ∀ (d k m : Nat) (h : AH) (ai si hc tn tk : Int32) (wm : Nat → UInt32) (sh ki fi ac wy cr se sl on hs hn : Nat → Int32), k + d = S → d < m → HR h ai si hc tn tk wm sh ki fi ac wy cr se sl on hs hn → aG h → (∀ (h' : AH) (ai' si' hc' tn' tk' : Int32) (wm' : Nat → UInt32) (sh' ki' fi' ac' wy' cr' se' sl' on' hs' hn' : Nat → Int32), tlL lt d k h = (some h', S) → HR h' ai' si' hc' tn' tk' wm' sh' ki' fi' ac' wy' cr' se' sl' on' hs' hn' → aG h' → Q (nI S, ai', si', hc', tn', tk', 0, 0, at0, 0, nI S, nI sM, pl0, it, ke, 0, wm', sh', ki', fi', ac', wy', cr', se', sl', on', hs', hn', pI, lO, num, sR, sB, q, qw)) → (∀ (k' : Nat) (ai' si' hc' tn' tk' : Int32) (wm' : Nat → UInt32) (sh' ki' fi' ac' wy' cr' se' sl' on' hs' hn' q' : Nat → Int32) (qw' : Nat → UInt32), tlL lt d k h = (none, k') → HR H ai' si' hc' tn' tk' wm' sh' ki' fi' ac' wy' cr' se' sl' on' hs' hn' → HP H q' qw' → Q ((-2000 : Int32) - nI (pl lt k'), ai', si', hc', tn', tk', 0, 0, at0, 0, nI S, nI sM, nI 96, 0, Value.ref (a 20), r_turned, wm', sh', ki', fi', ac', wy', cr', se', sl', on', hs', hn', pI, lO, num, sR, sB, q', qw')) → Ok (f_X7_house_b84 a 0 r_turned at0 0 (nI S) (nI sM) pI lO num sR sB pl0 it ke q qw m (nI k) ai si hc tn tk wm sh ki fi ac wy cr se sl on hs hn) Q
  | d, k, 0, _, _, _, _, _, _, _, _, _, _, _, _, _, _, _, _, _, _, _, z, _, _, _, _ => absurd z (by omega)
  | 0, k, m + 1, h, ai, si, hc, tn, tk, wm, sh, ki, fi, ac, wy, cr, se, sl, on, hs, hn, hk, _, E, G, K1, K2 => by
    rw [f_X7_house_b84]
    have : k = S := by omega
    subst this
    exact Okp (nI_le (Nat.le_refl _) (by omega)) (Okv (K1 h _ _ _ _ _ _ _ _ _ _ _ _ _ _ _ _ _ rfl E G))
  | d + 1, k, m + 1, h, ai, si, hc, tn, tk, wm, sh, ki, fi, ac, wy, cr, se, sl, on, hs, hn, hk, hm, E, G, K1, K2 => by
    obtain ⟨i1, i2, i3, i4⟩ := I k (by omega)
    have vk : vp_in (nI k) 49 := vp_in_nI (by omega) (by omega)
    have ck : (nI k).toNatClampNeg = k := nI_clamp (by omega)
    rw [f_X7_house_b84]
    refine Okn (nI_ge (by omega) (by omega)) (Okb18 (r_tell (by omega) hsM i2 i4 i3 G E) ?_)
    intro x0 ai' si' hc' tn' tk' wm' sh' ki' fi' ac' wy' cr' se' sl' on' hs' hn' t
    cases e : tellS lt (pl lt k) h with
    | none =>
      rw [e] at t
      have t0 : x0 = 0 := t
      subst t0
      have tt := tlL_n (d := d) e
      refine Okp rfl ?_
      refine K_again GH.1 QH ?_
      intro _ _ _ _ _ _ _ _ _ _ _ _ _ _ _ _ _ _ _ F3 Q3
      refine Okg vk ?_
      rw [ck, i1]
      exact Okv (K2 k _ _ _ _ _ _ _ _ _ _ _ _ _ _ _ _ _ _ _ tt F3 Q3)
    | some h' =>
      rw [e] at t
      obtain ⟨t0, t1⟩ := t
      have t0' : x0 = 1 := t0
      subst t0'
      have tt := tlL_s (d := d) e
      refine Okn (by decide) (Okl ?_)
      rw [nI_1 k]
      rw [tt] at K1 K2
      exact lr_house (L := L) hS hsM I GH QH d (k + 1) m h' _ _ _ _ _ _ _ _ _ _ _ _ _ _ _ _ _ (by omega) (by omega) t1 (tellS_G G i3 e) K1 K2
theorem r_house {lt : Nat → Int32} {L : Nat} {ℓ rl : Nat → Int32} (hL : L ≤ 96) (hlt : ∀ p, lt p = if p < L then ℓ p else -1) (hr : ∀ i, i < L → rl i = ℓ i) {H : AH} {a : Nat → Nat} {ai si hc tn tk pl0 it r_turned : Int32} {ke : Value} {wm : Nat → UInt32} {sh ki fi ac wy cr se sl on hs hn q : Nat → Int32} {qw : Nat → UInt32} {pI0 lO0 num0 sR0 sB0 : Nat → Int32} (GH : aG H) (E : HR H ai si hc tn tk wm sh ki fi ac wy cr se sl on hs hn) {Q : (Int32 × Int32 × Int32 × Int32 × Int32 × Int32 × Int32 × Int32 × Int32 × Int32 × Int32 × Int32 × Int32 × Int32 × Value × Int32 × (Nat → UInt32) × (Nat → Int32) × (Nat → Int32) × (Nat → Int32) × (Nat → Int32) × (Nat → Int32) × (Nat → Int32) × (Nat → Int32) × (Nat → Int32) × (Nat → Int32) × (Nat → Int32) × (Nat → Int32) × (Nat → Int32) × (Nat → Int32) × (Nat → Int32) × (Nat → Int32) × (Nat → Int32) × (Nat → Int32) × (Nat → UInt32)) → Prop} (K0 : ∀ (st sM : Int32) (pI lO num sR sB : Nat → Int32), (prs lt L 49 0 0).2 = true → Q ((-1000 : Int32) - nI (prs lt L 49 0 0).1, ai, si, hc, tn, tk, 0, 0, nI (prs lt L 49 0 0).1, 1, st, sM, pl0, it, ke, r_turned, wm, sh, ki, fi, ac, wy, cr, se, sl, on, hs, hn, pI, lO, num, sR, sB, q, qw)) (K1 : ∀ (S sM : Nat) (h' : AH) (at0 pl' it' : Int32) (ke' : Value) (ai' si' hc' tn' tk' : Int32) (wm' : Nat → UInt32) (sh' ki' fi' ac' wy' cr' se' sl' on' hs' hn' : Nat → Int32) (pI lO num sR sB q' : Nat → Int32) (qw' : Nat → UInt32), prs lt L 49 0 0 = (S, false) → tlL lt S 0 H = (some h', S) → HR h' ai' si' hc' tn' tk' wm' sh' ki' fi' ac' wy' cr' se' sl' on' hs' hn' → aG h' → Q (nI S, ai', si', hc', tn', tk', 0, 0, at0, 0, nI S, nI sM, pl', it', ke', 0, wm', sh', ki', fi', ac', wy', cr', se', sl', on', hs', hn', pI, lO, num, sR, sB, q', qw')) (K2 : ∀ (S sM k' : Nat) (at0 : Int32) (ai' si' hc' tn' tk' : Int32) (wm' : Nat → UInt32) (sh' ki' fi' ac' wy' cr' se' sl' on' hs' hn' q' : Nat → Int32) (qw' : Nat → UInt32) (pI lO num sR sB : Nat → Int32), prs lt L 49 0 0 = (S, false) → tlL lt S 0 H = (none, k') → HR H ai' si' hc' tn' tk' wm' sh' ki' fi' ac' wy' cr' se' sl' on' hs' hn' → HP H q' qw' → Q ((-2000 : Int32) - nI (pl lt k'), ai', si', hc', tn', tk', 0, 0, at0, 0, nI S, nI sM, nI 96, 0, Value.ref (a 20), r_turned, wm', sh', ki', fi', ac', wy', cr', se', sl', on', hs', hn', pI, lO, num, sR, sB, q', qw')) : Ok (f_X7_house a ai si hc tn tk 0 (nI L) pl0 it ke r_turned wm sh ki fi ac wy cr se sl on hs hn rl pI0 lO0 num0 sR0 sB0 q qw) Q := by
  unfold f_X7_house
  have I0 : InvT lt 0 0 pI0 lO0 num0 sR0 sB0 := fun i hi => absurd hi (by omega)
  refine r_prs hL hlt hr (fun S sm p pI lO num sR sB hS hP I hsm => ?_) (fun S sm pI lO num sR sB hP => ?_) 49 0 0 0 4096 pI0 lO0 num0 sR0 sB0 rfl rfl (by omega) (by omega) (by omega) (by omega) (by omega) (by omega) I0
  · unfold f_X7_house_b57
    refine Okp rfl ?_
    refine K_think GH.1 E ?_
    intro _ _ _ _ _ _ _ _ _ _ _ _ _ _ F1 Q1
    rw [← nI_0]
    refine lr_house (lt := lt) (L := L) hS hsm I GH Q1 S 0 4096 H _ _ _ _ _ _ _ _ _ _ _ _ _ _ _ _ _ (by omega) (by omega) F1 GH ?_ ?_
    · intro h' _ _ _ _ _ _ _ _ _ _ _ _ _ _ _ _ _ e F G
      exact K1 S sm h' _ _ _ _ _ _ _ _ _ _ _ _ _ _ _ _ _ _ _ _ _ _ _ _ _ _ _ _ hP e F G
    · intro k' _ _ _ _ _ _ _ _ _ _ _ _ _ _ _ _ _ _ _ e F Q3
      exact K2 S sm k' _ _ _ _ _ _ _ _ _ _ _ _ _ _ _ _ _ _ _ _ _ _ _ _ _ hP e F Q3
  · unfold f_X7_house_b57
    refine Okn (by decide) (Okv ?_)
    exact K0 S sm pI lO num sR sB hP
theorem s_house {s : S6} {t : S7} (a b : Nat → Nat) (R : Rel s t) : Sim (F6_house s) (F7_house t b) := by
  refine Rel_o (C := fun s t => Sim (F6_house s) (F7_house t b)) R ?_
  intro H P pc pn I L T g_hasImage g_n_warmth g_n_kind g_n_figure g_n_airCell g_n_way g_n_seat g_n_shawls g_n_steps g_n_numbers g_m_shutBits g_m_airs g_m_crownedBits g_m_sitters g_m_onBits g_m_turn g_m_taken g_m_warmth g_m_kind g_m_figure g_m_airCell g_m_way g_m_seat g_m_shawls g_m_count g_m_steps g_m_numbers g_i_shutBits g_i_airs g_i_crownedBits g_i_sitters g_i_onBits g_i_turn g_i_taken g_i_warmth g_i_kind g_i_figure g_i_airCell g_i_way g_i_seat g_i_shawls g_i_count g_i_steps g_i_numbers g_text_letters g_coats_sorts g_coats_sizes g_places g_coats_carried g_told g_refused g_oneHas g_otherHas g_k_shutBits g_k_airs g_k_crownedBits g_k_sitters g_k_onBits g_k_turn g_k_taken g_k_warmth g_k_kind g_k_figure g_k_airCell g_k_way g_k_seat g_k_shawls g_k_count g_k_steps g_k_numbers r_thrown r_at0 r_isBad r_statements r_stepsMany r_hasImage r_place0 r_isTaking r_keptIn r_seed r_warms r_shutAt r_kinds0 r_figures r_airAt r_ways r_crowned r_sitsAt r_shawls r_isOn r_stepOf r_stepBy r_refusals r_letters r_placeIn r_letterOf r_numbers r_stepsRead r_stepsBy r_kept r_keptWarms r_i_imaged r_imagedWarms r_turns0 r_turnWarms0 r_turnOf r_turnWarms r_row0 r_gains r_pegSort r_pegMany r_pegHolds r_coats r_coatsMoved hE hF hg hpc hpn hK hQ hPg hI hL hT hTl hO hR hG
  show Sim (F6_house _) (F7_house _ b)
  rw [F6_house_b, F7_house_b]
  refine sim_o ?_
  unfold f_X6_house 
  have hV := hg.1
  obtain ⟨hA5, hS6, hH6, hT20, hK9⟩ := hV.1
  have hlt : ∀ p, (fun p => if p < L then g_text_letters p else -1 : Nat → Int32) p = if p < L then g_text_letters p else -1 := fun p => rfl
  generalize (fun p => if p < L then g_text_letters p else -1 : Nat → Int32) = lt at hlt
  have hr : ∀ i, i < L → r_letters i = g_text_letters i := fun i hi => (hT i hi).1
  refine Ok1 (c_statements hL hlt) ?_
  unfold f_X6_house_b24
  by_cases y : (prs lt L 49 0 0).2 = true
  · have ub := prs_up hL hlt 49 0 0 (by omega) y
    have pf : f_X5_placeOf ((-1 : Int32) - nI (prs lt L 49 0 0).1) = some (nI (prs lt L 49 0 0).1) := by
      unfold f_X5_placeOf
      rw [dbl1]
    rw [cod_t y]
    refine Okn (Int32.not_le.mpr (neg_lt (by omega))) (Ok1 pf ?_)
    refine K_take hV hE ?_
    intro _ _ _ _ _ _ _ _ _ E1
    rw [f_X6_house_b41]
    refine Okp (Int32.le_of_lt (neg_lt (by omega))) ?_
    unfold f_X6_house_b90
    refine Okp (neg_1000 (by omega)) (Okv ?_)
    refine r_house (lt := lt) hL hlt hr hg hF ?_ ?_ ?_
    · intro st sM pI lO num sR sB _
      exact ⟨rfl, Rel_i H P pc pn I 0 T ⟨hE, hF, hg, rfl⟩ ⟨⟨hpc, hpn, rfl, rfl, rfl⟩, hK, hQ, hPg⟩ hI ⟨by omega, nI_0.symm, nI_0.symm, fun i hi => absurd hi (by omega)⟩ ⟨hTl, rfl, rfl, hO⟩ hR hG⟩
    · intro S sM h' _ _ _ _ _ _ _ _ _ _ _ _ _ _ _ _ _ _ _ _ _ _ _ _ _ _ _ _ e
      rw [e] at y
      cases y
    · intro S sM k' _ _ _ _ _ _ _ _ _ _ _ _ _ _ _ _ _ _ _ _ _ _ _ _ _ e
      rw [e] at y
      cases y
  · have y' : (prs lt L 49 0 0).2 = false := by simpa using y
    obtain ⟨S, hP⟩ : ∃ S, prs lt L 49 0 0 = (S, false) := ⟨(prs lt L 49 0 0).1, by rw [← y']⟩
    obtain ⟨-, g2, g3⟩ := prs_g hL hlt 49 0 0 S rfl (by omega) hP
    rw [hP, cod_f rfl]
    refine Okp (nI_pos' (by show S < 2 ^ 31; omega)) ?_
    refine K_take hV hE ?_
    intro _ _ _ _ _ _ _ _ _ E1
    refine lc_house hL hlt (S := S) (by omega) (fun i hi => g3 i (by omega) hi) S 0 4096 H _ _ _ _ _ _ _ _ _ _ _ _ _ _ _ _ _ (by omega) (by omega) E1 hg ?_ ?_
    · intro h' _ _ _ _ _ _ _ _ _ _ _ _ _ _ _ _ _ e E2 G2
      unfold f_X6_house_b90
      refine Okn (nI_pos (by omega)) ?_
      refine K_take G2.1 E2 ?_
      intro _ _ _ _ _ _ _ _ _ E3
      refine Ok1 (show f_X3_forget = some 0 from rfl) (Okv ?_)
      refine r_house (lt := lt) hL hlt hr hg hF ?_ ?_ ?_
      · intro st sM pI lO num sR sB w
        exact absurd w y
      · intro S' sM h'' _ _ _ _ _ _ _ _ _ _ _ _ _ _ _ _ _ _ _ _ _ _ _ _ _ _ _ _ e1 e2 F3 G3
        rw [hP] at e1
        cases e1
        rw [e] at e2
        cases e2
        exact ⟨rfl, Rel_i h' P 0 pn I 0 T ⟨E3, F3, G2, rfl⟩ ⟨⟨by omega, hpn, rfl, nI_0.symm, nI_0.symm⟩, fun i z hi => absurd hi (by omega), fun i hi => absurd hi (by omega), fun i hi => absurd hi (by omega)⟩ hI ⟨by omega, nI_0.symm, nI_0.symm, fun i hi => absurd hi (by omega)⟩ ⟨hTl, rfl, rfl, hO⟩ hR hG⟩
      · intro S' sM k' _ _ _ _ _ _ _ _ _ _ _ _ _ _ _ _ _ _ _ _ _ _ _ _ _ e1 e2
        rw [hP] at e1
        cases e1
        rw [e] at e2
        cases e2
    · intro k' _ _ _ _ _ _ _ _ _ _ _ _ _ _ _ _ _ e hk'
      unfold f_X6_house_b90
      refine Okp (neg_2000 (by omega)) (Okv ?_)
      refine r_house (lt := lt) hL hlt hr hg hF ?_ ?_ ?_
      · intro st sM pI lO num sR sB w
        exact absurd w y
      · intro S' sM h'' _ _ _ _ _ _ _ _ _ _ _ _ _ _ _ _ _ _ _ _ _ _ _ _ _ _ _ _ e1 e2
        rw [hP] at e1
        cases e1
        rw [e] at e2
        cases e2
      · intro S' sM k'' _ _ _ _ _ _ _ _ _ _ _ _ _ _ _ _ _ _ _ _ _ _ _ _ _ e1 e2 F3 Q3
        rw [hP] at e1
        cases e1
        rw [e] at e2
        cases e2
        exact ⟨rfl, Rel_i H P pc pn I 0 T ⟨hE, F3, hg, rfl⟩ ⟨⟨hpc, hpn, rfl, rfl, rfl⟩, hK, hQ, hPg⟩ hI ⟨by omega, nI_0.symm, nI_0.symm, fun i hi => absurd hi (by omega)⟩ ⟨hTl, rfl, rfl, hO⟩ hR hG⟩
