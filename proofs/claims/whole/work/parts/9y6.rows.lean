/-! loops of the calls that think -/
def popS (h : AH) : Nat := oC (bN (aOn h) (aS h))
theorem popS_le {h : AH} (V : aV h) : popS h ≤ 6 := oC_le ⟨_, bN6 _ V.1.2.1⟩
theorem c_popS {h : AH} (V : aV h) : f_J6_bitCount_0f7a4 (nI (bN (aOn h) (aS h))) = some (nI (popS h)) := c_pop6 ⟨_, bN6 _ V.1.2.1⟩
theorem r_popS {h : AH} (V : aV h) : f_X7_onesOf (nI (bN (aOn h) (aS h))) = some (nI (popS h)) := r_ones (bN6 _ V.1.2.1)
def leapL : Nat → Nat → AH → Int32 → Int32 → Int32 × Int32
  | 0, _, _, g, f => (g, f)
  | d + 1, k, h, g, f => if nI (aTk (turnS h)) - nI (aTk h) ≤ g then leapL d (k + 1) (turnS h) g f else leapL d (k + 1) (turnS h) (nI (aTk (turnS h)) - nI (aTk h)) (nI k)
def mostL (h : AH) (n : Nat) : Nat → Nat → Int32 → Nat → Int32
  | 0, _, b, _ => b
  | d + 1, c, b, mo => if freeS h c = true then (if popS (goS n (toggleS h c)) ≤ mo then mostL h n d (c + 1) b mo else mostL h n d (c + 1) (nI c) (popS (goS n (toggleS h c)))) else mostL h n d (c + 1) b mo
def shutP (h : AH) (s n : Nat) (c : Nat) : Bool := freeS h c && aOn (goS n (toggleS h c)) s
theorem lc_leapt {n0 n1 : Int32} {g_refused : Nat → Int32} {sb : Int64} {ai si hc : Int32} {ki fi se hs hn : Nat → Int32} {n : Nat} (hn0 : n0 = nI n) (hn4 : n ≤ 60) {Q : (Int32 × Int64 × Int32 × Int32 × Int32 × Int32 × Int32 × Int32 × (Nat → UInt32) × (Nat → Int32) × (Nat → Int32) × (Nat → Int32) × (Nat → Int32) × (Nat → Int32) × (Nat → Int32) × Int32 × (Nat → Int32) × (Nat → Int32) × (Nat → Int32)) → Prop} : ∀ (d k m : Nat) (h : AH) (x27 x28 cb ob tn tk : Int32) (wm : Nat → UInt32) (ac wy sl : Nat → Int32), k + d = n + 1 → d < m → aV h → aTn h + d < 2 ^ 20 → HC h sb ai cb si ob tn tk wm ki fi ac wy se sl hc hs hn → (∀ (sb' : Int64) (ai' cb' si' ob' tn' tk' : Int32) (wm' : Nat → UInt32) (ki' fi' ac' wy' se' sl' : Nat → Int32) (hc' : Int32) (hs' hn' : Nat → Int32), Q ((if n1 = 0 then (leapL d k h x27 x28).1 else (leapL d k h x27 x28).2), sb', ai', cb', si', ob', tn', tk', wm', ki', fi', ac', wy', se', sl', hc', hs', hn', g_refused)) → Ok (f_X6_leapt_b54 n0 n1 g_refused sb ai si ki fi se hc hs hn m x27 x28 (nI k) cb ob tn tk wm ac wy sl) Q
  | d, k, 0, _, _, _, _, _, _, _, _, _, _, _, _, q, _, _, _, _ => absurd q (by omega)
  | 0, k, m + 1, h, x27, x28, cb, ob, tn, tk, wm, ac, wy, sl, hk, _, V, ht, E, K => by
    rw [f_X6_leapt_b54, hn0]
    refine Okp (nI_lt (by omega) (by omega)) ?_
    by_cases z : n1 = 0
    · refine Okp z (Okv ?_)
      have K := K sb ai cb si ob tn tk wm ki fi ac wy se sl hc hs hn
      rw [if_pos z] at K
      exact K
    · refine Okn z (Okv ?_)
      have K := K sb ai cb si ob tn tk wm ki fi ac wy se sl hc hs hn
      rw [if_neg z] at K
      exact K
  | d + 1, k, m + 1, h, x27, x28, cb, ob, tn, tk, wm, ac, wy, sl, hk, hm, V, ht, E, K => by
    rw [f_X6_leapt_b54, hn0]
    refine Okn (nI_nlt (by omega) (by omega)) ?_
    rw [← hn0]
    refine K_goOn (n := 1) (by omega) V (by omega) E ?_
    intro cb' ob' tn' tk' wm' ac' wy' sl' E'
    obtain ⟨V1, -, -, t1⟩ := turnS_V V (by omega)
    refine Okl ?_
    have e1 : tk' = nI (aTk (turnS h)) := E'.1.2.2.2.2
    have e2 : tk = nI (aTk h) := E.1.2.2.2.2
    subst e1 e2
    have lk : ∀ g f, leapL (d + 1) k h g f = if nI (aTk (turnS h)) - nI (aTk h) ≤ g then leapL d (k + 1) (turnS h) g f else leapL d (k + 1) (turnS h) (nI (aTk (turnS h)) - nI (aTk h)) (nI k) := fun g f => rfl
    by_cases z : nI (aTk (turnS h)) - nI (aTk h) ≤ x27
    · refine Okp z (Okl ?_)
      rw [show nI k + (1 : Int32) = nI (k + 1) from nI_1 k]
      rw [lk, if_pos z] at K
      exact lc_leapt hn0 hn4 d (k + 1) m (turnS h) x27 x28 cb' ob' tn' _ wm' ac' wy' sl' (by omega) (by omega) V1 (by omega) E' K
    · refine Okn z (Okl ?_)
      rw [show nI k + (1 : Int32) = nI (k + 1) from nI_1 k]
      rw [lk, if_neg z] at K
      exact lc_leapt hn0 hn4 d (k + 1) m (turnS h) _ _ cb' ob' tn' _ wm' ac' wy' sl' (by omega) (by omega) V1 (by omega) E' K
theorem lr_leapt {H : AH} {a : Nat → Nat} {n0 n1 : Int32} {r_refusals : Nat → Int32} {ai si hc : Int32} {sh ki fi se hs hn q : Nat → Int32} {qw : Nat → UInt32} {n : Nat} (hn0 : n0 = nI n) (hn4 : n ≤ 60) (VH : aV H) (QH : HP H q qw) {Q : (Int32 × Int32 × Int32 × Int32 × Int32 × Int32 × Int32 × Int32 × Int32 × Value × (Nat → UInt32) × (Nat → Int32) × (Nat → Int32) × (Nat → Int32) × (Nat → Int32) × (Nat → Int32) × (Nat → Int32) × (Nat → Int32) × (Nat → Int32) × (Nat → Int32) × (Nat → Int32) × (Nat → Int32) × (Nat → Int32) × (Nat → Int32) × (Nat → UInt32)) → Prop} : ∀ (d k m : Nat) (h : AH) (x27 x28 tn tk : Int32) (wm : Nat → UInt32) (ac wy cr sl on : Nat → Int32), k + d = n + 1 → d < m → aV h → aTn h + d < 2 ^ 20 → HR h ai si hc tn tk wm sh ki fi ac wy cr se sl on hs hn → (∀ (ai' si' hc' tn' tk' pl' it' : Int32) (ke' : Value) (wm' : Nat → UInt32) (sh' ki' fi' ac' wy' cr' se' sl' on' hs' hn' q' : Nat → Int32) (qw' : Nat → UInt32), HR H ai' si' hc' tn' tk' wm' sh' ki' fi' ac' wy' cr' se' sl' on' hs' hn' → HP H q' qw' → Q ((if n1 = 0 then (leapL d k h x27 x28).1 else (leapL d k h x27 x28).2), ai', si', hc', tn', tk', 0, pl', it', ke', wm', sh', ki', fi', ac', wy', cr', se', sl', on', hs', hn', r_refusals, q', qw')) → Ok (f_X7_leapt_b64 a n0 n1 0 r_refusals ai si hc sh ki fi se hs hn q qw m x27 x28 (nI k) tn tk wm ac wy cr sl on) Q
  | d, k, 0, _, _, _, _, _, _, _, _, _, _, _, _, q, _, _, _, _ => absurd q (by omega)
  | 0, k, m + 1, h, x27, x28, tn, tk, wm, ac, wy, cr, sl, on, hk, _, V, ht, E, K => by
    rw [f_X7_leapt_b64, hn0]
    refine Okp (nI_lt (by omega) (by omega)) ?_
    refine K_again VH QH ?_
    intro _ _ _ _ _ _ _ _ _ _ _ _ _ _ _ _ _ _ _ F3 Q3
    by_cases z : n1 = 0
    · rw [if_pos z] at K
      exact Okp z (Okv (K _ _ _ _ _ _ _ _ _ _ _ _ _ _ _ _ _ _ _ _ _ _ F3 Q3))
    · rw [if_neg z] at K
      exact Okn z (Okv (K _ _ _ _ _ _ _ _ _ _ _ _ _ _ _ _ _ _ _ _ _ _ F3 Q3))
  | d + 1, k, m + 1, h, x27, x28, tn, tk, wm, ac, wy, cr, sl, on, hk, hm, V, ht, E, K => by
    rw [f_X7_leapt_b64, hn0]
    refine Okn (nI_nlt (by omega) (by omega)) ?_
    rw [← hn0]
    refine K_turn V (by omega) E ?_
    intro tn' tk' wm' ac' wy' cr' sl' on' E'
    obtain ⟨V1, -, -, t1⟩ := turnS_V V (by omega)
    have e1 : tk' = nI (aTk (turnS h)) := E'.1.2.2.2.2
    have e2 : tk = nI (aTk h) := E.1.2.2.2.2
    subst e1 e2
    have lk : ∀ g f, leapL (d + 1) k h g f = if nI (aTk (turnS h)) - nI (aTk h) ≤ g then leapL d (k + 1) (turnS h) g f else leapL d (k + 1) (turnS h) (nI (aTk (turnS h)) - nI (aTk h)) (nI k) := fun g f => rfl
    unfold f_X7_leapt_b98
    by_cases z : nI (aTk (turnS h)) - nI (aTk h) ≤ x27
    · refine Okp z (Okp z (Okl ?_))
      rw [show nI k + (1 : Int32) = nI (k + 1) from nI_1 k]
      rw [lk, if_pos z] at K
      exact lr_leapt hn0 hn4 VH QH d (k + 1) m (turnS h) x27 x28 tn' _ wm' ac' wy' cr' sl' on' (by omega) (by omega) V1 (by omega) E' K
    · refine Okn z (Okn z (Okl (Okl ?_)))
      rw [show nI k + (1 : Int32) = nI (k + 1) from nI_1 k]
      rw [lk, if_neg z] at K
      exact lr_leapt hn0 hn4 VH QH d (k + 1) m (turnS h) _ _ tn' _ wm' ac' wy' cr' sl' on' (by omega) (by omega) V1 (by omega) E' K
theorem lc_most {H : AH} {n0 : Int32} {g_n_shutBits : Int64} {g_n_airs : Int32} {g_n_crownedBits : Int32} {g_n_sitters : Int32} {g_n_onBits : Int32} {g_n_turn : Int32} {g_n_taken : Int32} {g_n_warmth : (Nat → UInt32)} {g_n_kind : (Nat → Int32)} {g_n_figure : (Nat → Int32)} {g_n_airCell : (Nat → Int32)} {g_n_way : (Nat → Int32)} {g_n_seat : (Nat → Int32)} {g_n_shawls : (Nat → Int32)} {g_n_count : Int32} {g_n_steps : (Nat → Int32)} {g_n_numbers : (Nat → Int32)} {g_refused : (Nat → Int32)} {n : Nat} (hn0 : n0 = nI n) (hn4 : n ≤ 30) (V : aV H) (ht : aTn H ≤ 999) (E : HC H g_n_shutBits g_n_airs g_n_crownedBits g_n_sitters g_n_onBits g_n_turn g_n_taken g_n_warmth g_n_kind g_n_figure g_n_airCell g_n_way g_n_seat g_n_shawls g_n_count g_n_steps g_n_numbers) {Q : (Int32 × Int64 × Int32 × Int32 × Int32 × Int32 × Int32 × Int32 × (Nat → UInt32) × (Nat → Int32) × (Nat → Int32) × (Nat → Int32) × (Nat → Int32) × (Nat → Int32) × (Nat → Int32) × Int32 × (Nat → Int32) × (Nat → Int32) × (Nat → Int32)) → Prop} : ∀ (d c m : Nat) (b : Int32) (mo : Nat) (sb : Int64) (ai cb si ob tn tk : Int32) (wm : Nat → UInt32) (ki fi ac wy se sl : Nat → Int32) (hc : Int32) (hs hn : Nat → Int32), c + d = 36 → d < m → mo ≤ 6 → (∀ (sb' : Int64) (ai' cb' si' ob' tn' tk' : Int32) (wm' : Nat → UInt32) (ki' fi' ac' wy' se' sl' : Nat → Int32) (hc' : Int32) (hs' hn' : Nat → Int32), Q ((mostL H n d c b mo), sb', ai', cb', si', ob', tn', tk', wm', ki', fi', ac', wy', se', sl', hc', hs', hn', g_refused)) → Ok (f_X6_most_b41 n0 g_n_shutBits g_n_airs g_n_crownedBits g_n_sitters g_n_onBits g_n_turn g_n_taken g_n_warmth g_n_kind g_n_figure g_n_airCell g_n_way g_n_seat g_n_shawls g_n_count g_n_steps g_n_numbers g_refused m b (nI mo) (nI c) sb ai cb si ob tn tk wm ki fi ac wy se sl hc hs hn) Q
  | d, c, 0, _, _, _, _, _, _, _, _, _, _, _, _, _, _, _, _, _, _, _, _, q, _, _ => absurd q (by omega)
  | 0, c, m + 1, b, mo, sb, ai, cb, si, ob, tn, tk, wm, ki, fi, ac, wy, se, sl, hc, hs, hn, hk, _, _, K => by
    rw [f_X6_most_b41]
    refine Okp (nI_le (a := 36) (by omega) (by omega)) (Okv (K sb ai cb si ob tn tk wm ki fi ac wy se sl hc hs hn))
  | d + 1, c, m + 1, b, mo, sb, ai, cb, si, ob, tn, tk, wm, ki, fi, ac, wy, se, sl, hc, hs, hn, hk, hm, h6, K => by
    have hc36 : c < 36 := by omega
    have lk : mostL H n (d + 1) c b mo = if freeS H c = true then (if popS (goS n (toggleS H c)) ≤ mo then mostL H n d (c + 1) b mo else mostL H n d (c + 1) (nI c) (popS (goS n (toggleS H c)))) else mostL H n d (c + 1) b mo := rfl
    rw [f_X6_most_b41]
    refine Okn (nI_ge (b := 36) hc36 (by omega)) ?_
    rw [show nI c + (1 : Int32) = nI (c + 1) from nI_1 c]
    by_cases f : freeS H c = true
    · rw [lk, if_pos f] at K
      refine Okt (c_isFr V E hc36) f ?_
      rw [hn0]
      refine K_thinkOfShut hc36 (by omega) V (by omega) E ?_
      intro _ _ _ _ _ _ _ _ _ _ _ _ _ _ E'
      rw [← hn0]
      obtain ⟨V2, -, -, -⟩ := goS_V n (h := toggleS H c) V (show aTn H + n < 2 ^ 20 by omega)
      refine Ok1 (by rw [E'.2.1.2.1]; exact c_popS V2) ?_
      by_cases z : popS (goS n (toggleS H c)) ≤ mo
      · rw [if_pos z] at K
        refine Okp (nI_le z (by omega)) (Okl ?_)
        exact lc_most hn0 hn4 V ht E d (c + 1) m b mo _ _ _ _ _ _ _ _ _ _ _ _ _ _ _ _ _ (by omega) (by omega) h6 K
      · rw [if_neg z] at K
        have := popS_le V2
        refine Okn (nI_ge (by omega) (by omega)) (Okl ?_)
        exact lc_most hn0 hn4 V ht E d (c + 1) m (nI c) _ _ _ _ _ _ _ _ _ _ _ _ _ _ _ _ _ _ (by omega) (by omega) this K
    · rw [lk, if_neg f] at K
      refine Okf (c_isFr V E hc36) f (Okl ?_)
      exact lc_most hn0 hn4 V ht E d (c + 1) m b mo _ _ _ _ _ _ _ _ _ _ _ _ _ _ _ _ _ (by omega) (by omega) h6 K
theorem lr_most {H : AH} {a : Nat → Nat} {n0 : Int32} {r_refusals : Nat → Int32} {n : Nat} (hn0 : n0 = nI n) (hn4 : n ≤ 30) (V : aV H) (ht : aTn H ≤ 999) {Q : (Int32 × Int32 × Int32 × Int32 × Int32 × Int32 × Int32 × Int32 × Int32 × Value × (Nat → UInt32) × (Nat → Int32) × (Nat → Int32) × (Nat → Int32) × (Nat → Int32) × (Nat → Int32) × (Nat → Int32) × (Nat → Int32) × (Nat → Int32) × (Nat → Int32) × (Nat → Int32) × (Nat → Int32) × (Nat → Int32) × (Nat → Int32) × (Nat → UInt32)) → Prop} : ∀ (d c m : Nat) (b : Int32) (mo : Nat) (ai si hc tn tk pl it : Int32) (ke : Value) (wm : Nat → UInt32) (sh ki fi ac wy cr se sl on hs hn q : Nat → Int32) (qw : Nat → UInt32), c + d = 36 → d < m → mo ≤ 6 → HR H ai si hc tn tk wm sh ki fi ac wy cr se sl on hs hn → HP H q qw → (∀ (ai' si' hc' tn' tk' pl' it' : Int32) (ke' : Value) (wm' : Nat → UInt32) (sh' ki' fi' ac' wy' cr' se' sl' on' hs' hn' q' : Nat → Int32) (qw' : Nat → UInt32), HR H ai' si' hc' tn' tk' wm' sh' ki' fi' ac' wy' cr' se' sl' on' hs' hn' → HP H q' qw' → Q ((mostL H n d c b mo), ai', si', hc', tn', tk', 0, pl', it', ke', wm', sh', ki', fi', ac', wy', cr', se', sl', on', hs', hn', r_refusals, q', qw')) → Ok (f_X7_most_b54 a n0 0 r_refusals m (nI mo) b (nI c) ai si hc tn tk pl it ke wm sh ki fi ac wy cr se sl on hs hn q qw) Q
  | d, c, 0, _, _, _, _, _, _, _, _, _, _, _, _, _, _, _, _, _, _, _, _, _, _, _, _, _, q, _, _, _, _ => absurd q (by omega)
  | 0, c, m + 1, b, mo, ai, si, hc, tn, tk, pl, it, ke, wm, sh, ki, fi, ac, wy, cr, se, sl, on, hs, hn, q, qw, hk, _, _, F, QH, K => by
    rw [f_X7_most_b54]
    refine Okp (nI_le (a := 36) (by omega) (by omega)) (Okv (K _ _ _ _ _ _ _ _ _ _ _ _ _ _ _ _ _ _ _ _ _ _ F QH))
  | d + 1, c, m + 1, b, mo, ai, si, hc, tn, tk, pl, it, ke, wm, sh, ki, fi, ac, wy, cr, se, sl, on, hs, hn, q, qw, hk, hm, h6, F, QH, K => by
    have hc36 : c < 36 := by omega
    have lk : mostL H n (d + 1) c b mo = if freeS H c = true then (if popS (goS n (toggleS H c)) ≤ mo then mostL H n d (c + 1) b mo else mostL H n d (c + 1) (nI c) (popS (goS n (toggleS H c)))) else mostL H n d (c + 1) b mo := rfl
    rw [f_X7_most_b54]
    refine Okn (nI_ge (b := 36) hc36 (by omega)) ?_
    rw [show nI c + (1 : Int32) = nI (c + 1) from nI_1 c]
    by_cases f : freeS H c = true
    · rw [lk, if_pos f] at K
      have F1 := toggle_R F hc36
      rw [F.2.2.2.2.1 c hc36, free_sd f, show (1 : Int32) - nB false = 1 by decide] at F1
      have hcl : (nI c).toNatClampNeg = c := nI_clamp (by omega)
      rw [hcl]
      refine Okt (r_isFree V F hc36) f (Okg (vp_in_nI hc36 (by omega)) (Okl ?_))
      rw [hn0]
      refine K_go (n := n) (by omega) (show aV (toggleS H c) from V) (show aTn H + n < 2 ^ 20 by omega) F1 ?_
      intro _ _ _ _ _ _ _ _ F2
      rw [← hn0]
      obtain ⟨V2, -, -, -⟩ := goS_V n (h := toggleS H c) V (show aTn H + n < 2 ^ 20 by omega)
      refine Ok1 (r_onBits V2 F2) (Ok1 (r_popS V2) ?_)
      refine K_again V QH ?_
      intro _ _ _ _ _ _ _ _ _ _ _ _ _ _ _ _ _ _ _ F3 Q3
      unfold f_X7_most_b108
      by_cases z : popS (goS n (toggleS H c)) ≤ mo
      · rw [if_pos z] at K
        refine Okp (nI_le z (by omega)) (Okp (nI_le z (by omega)) (Okl ?_))
        rw [show nI c + (1 : Int32) = nI (c + 1) from nI_1 c]
        exact lr_most hn0 hn4 V ht d (c + 1) m b mo _ _ _ _ _ _ _ _ _ _ _ _ _ _ _ _ _ _ _ _ _ _ (by omega) (by omega) h6 F3 Q3 K
      · rw [if_neg z] at K
        have := popS_le V2
        refine Okn (nI_ge (by omega) (by omega)) (Okn (nI_ge (by omega) (by omega)) (Okl ?_))
        rw [show nI c + (1 : Int32) = nI (c + 1) from nI_1 c]
        exact lr_most hn0 hn4 V ht d (c + 1) m (nI c) _ _ _ _ _ _ _ _ _ _ _ _ _ _ _ _ _ _ _ _ _ _ _ (by omega) (by omega) this F3 Q3 K
    · rw [lk, if_neg f] at K
      refine Okf (r_isFree V F hc36) f (Okl ?_)
      exact lr_most hn0 hn4 V ht d (c + 1) m b mo _ _ _ _ _ _ _ _ _ _ _ _ _ _ _ _ _ _ _ _ _ _ (by omega) (by omega) h6 F QH K
theorem lc_shut {H : AH} {n0 : Int32} {n1 : Int32} {g_n_shutBits : Int64} {g_n_airs : Int32} {g_n_crownedBits : Int32} {g_n_sitters : Int32} {g_n_onBits : Int32} {g_n_turn : Int32} {g_n_taken : Int32} {g_n_warmth : (Nat → UInt32)} {g_n_kind : (Nat → Int32)} {g_n_figure : (Nat → Int32)} {g_n_airCell : (Nat → Int32)} {g_n_way : (Nat → Int32)} {g_n_seat : (Nat → Int32)} {g_n_shawls : (Nat → Int32)} {g_n_count : Int32} {g_n_steps : (Nat → Int32)} {g_n_numbers : (Nat → Int32)} {g_refused : (Nat → Int32)} {s n : Nat} (hn0 : n0 = nI s) (hs6 : s < aS H) (hn1 : n1 = nI n) (hn4 : n ≤ 30) (V : aV H) (ht : aTn H ≤ 999) (E : HC H g_n_shutBits g_n_airs g_n_crownedBits g_n_sitters g_n_onBits g_n_turn g_n_taken g_n_warmth g_n_kind g_n_figure g_n_airCell g_n_way g_n_seat g_n_shawls g_n_count g_n_steps g_n_numbers) {Q : (Int32 × Int64 × Int32 × Int32 × Int32 × Int32 × Int32 × Int32 × (Nat → UInt32) × (Nat → Int32) × (Nat → Int32) × (Nat → Int32) × (Nat → Int32) × (Nat → Int32) × (Nat → Int32) × Int32 × (Nat → Int32) × (Nat → Int32) × (Nat → Int32)) → Prop} (K : (∀ (sb' : Int64) (ai' cb' si' ob' tn' tk' : Int32) (wm' : Nat → UInt32) (ki' fi' ac' wy' se' sl' : Nat → Int32) (hc' : Int32) (hs' hn' : Nat → Int32), Q ((eN (-9) (fM (shutP H s n) 36)), sb', ai', cb', si', ob', tn', tk', wm', ki', fi', ac', wy', se', sl', hc', hs', hn', g_refused))) : ∀ (d c m : Nat) (sb : Int64) (ai cb si ob tn tk : Int32) (wm : Nat → UInt32) (ki fi ac wy se sl : Nat → Int32) (hc : Int32) (hs hn : Nat → Int32), c + d = 36 → d < m → (∀ b, b < c → shutP H s n b = false) → Ok (f_X6_shut_b53 n0 n1 g_n_shutBits g_n_airs g_n_crownedBits g_n_sitters g_n_onBits g_n_turn g_n_taken g_n_warmth g_n_kind g_n_figure g_n_airCell g_n_way g_n_seat g_n_shawls g_n_count g_n_steps g_n_numbers g_refused m (nI c) sb ai cb si ob tn tk wm ki fi ac wy se sl hc hs hn) Q
  | d, c, 0, _, _, _, _, _, _, _, _, _, _, _, _, _, _, _, _, _, _, q, _ => absurd q (by omega)
  | 0, c, m + 1, sb, ai, cb, si, ob, tn, tk, wm, ki, fi, ac, wy, se, sl, hc, hs, hn, hk, _, hb => by
    have : c = 36 := by omega
    subst this
    rw [f_X6_shut_b53]
    rw [fM_none.mpr hb] at K
    refine Okp (nI_le (a := 36) (by omega) (by omega)) (Okv (K sb ai cb si ob tn tk wm ki fi ac wy se sl hc hs hn))
  | d + 1, c, m + 1, sb, ai, cb, si, ob, tn, tk, wm, ki, fi, ac, wy, se, sl, hc, hs, hn, hk, hm, hb => by
    have hc36 : c < 36 := by omega
    have nx : shutP H s n c = false → ∀ b, b < c + 1 → shutP H s n b = false := fun q b h2 => by
      by_cases z : b = c
      · subst z
        exact q
      · exact hb b (by omega)
    rw [f_X6_shut_b53]
    refine Okn (nI_ge (b := 36) hc36 (by omega)) ?_
    rw [show nI c + (1 : Int32) = nI (c + 1) from nI_1 c]
    by_cases f : freeS H c = true
    · refine Okt (c_isFr V E hc36) f ?_
      rw [hn1]
      refine K_thinkOfShut hc36 (by omega) V (by omega) E ?_
      intro _ _ _ _ _ _ _ _ _ _ _ _ _ _ E'
      rw [← hn1]
      obtain ⟨V2, -, gS, -⟩ := goS_V n (h := toggleS H c) V (show aTn H + n < 2 ^ 20 by omega)
      have hs2 : s < aS (goS n (toggleS H c)) := by rw [gS]; exact hs6
      refine Okbd (by rw [hn0]; exact c_isO V2 E' hs2) (fun z => ?_) (fun z => ?_)
      · rw [fM_some.mpr ⟨hc36, show shutP H s n c = true by unfold shutP; rw [f, z]; rfl, hb⟩] at K
        exact Okv (K _ _ _ _ _ _ _ _ _ _ _ _ _ _ _ _ _)
      · refine Okl ?_
        exact lc_shut hn0 hs6 hn1 hn4 V ht E K d (c + 1) m _ _ _ _ _ _ _ _ _ _ _ _ _ _ _ _ _ (by omega) (by omega) (nx (by unfold shutP; rw [z, Bool.and_false]))
    · refine Okf (c_isFr V E hc36) f (Okl ?_)
      exact lc_shut hn0 hs6 hn1 hn4 V ht E K d (c + 1) m _ _ _ _ _ _ _ _ _ _ _ _ _ _ _ _ _ (by omega) (by omega) (nx (by unfold shutP; rw [Bool.not_eq_true] at f; rw [f, Bool.false_and]))
theorem lr_shut0 {H : AH} {a : Nat → Nat} {n0 n1 : Int32} {r_refusals : Nat → Int32} {Q : (Int32 × Int32 × Int32 × Int32 × Int32 × Int32 × Int32 × Int32 × Int32 × Value × (Nat → UInt32) × (Nat → Int32) × (Nat → Int32) × (Nat → Int32) × (Nat → Int32) × (Nat → Int32) × (Nat → Int32) × (Nat → Int32) × (Nat → Int32) × (Nat → Int32) × (Nat → Int32) × (Nat → Int32) × (Nat → Int32) × (Nat → Int32) × (Nat → UInt32)) → Prop} {m c : Nat} (hc : c < 36) {ai si hc0 tn tk pl it : Int32} {ke : Value} {wm : Nat → UInt32} {sh ki fi ac wy cr se sl on hs hn q : Nat → Int32} {qw : Nat → UInt32} (K : Q (nI c, ai, si, hc0, tn, tk, 0, pl, it, ke, wm, sh, ki, fi, ac, wy, cr, se, sl, on, hs, hn, r_refusals, q, qw)) : Ok (f_X7_shut_b68 a n0 n1 0 r_refusals (m + 1) (nI c) (nI (c + 1)) ai si hc0 tn tk pl it ke wm sh ki fi ac wy cr se sl on hs hn q qw) Q := by
  rw [f_X7_shut_b68]
  by_cases z : 36 ≤ c + 1
  · exact Okp (nI_le (a := 36) z (by omega)) (Okv K)
  · exact Okn (nI_ge (b := 36) (by omega) (by omega)) (Okp (nI_pos' (by omega)) (Okv K))
theorem lr_shut {H : AH} {a : Nat → Nat} {n0 n1 : Int32} {r_refusals : Nat → Int32} {s n : Nat} (hn0 : n0 = nI s) (hs6 : s < aS H) (hn1 : n1 = nI n) (hn4 : n ≤ 30) (V : aV H) (ht : aTn H ≤ 999) {Q : (Int32 × Int32 × Int32 × Int32 × Int32 × Int32 × Int32 × Int32 × Int32 × Value × (Nat → UInt32) × (Nat → Int32) × (Nat → Int32) × (Nat → Int32) × (Nat → Int32) × (Nat → Int32) × (Nat → Int32) × (Nat → Int32) × (Nat → Int32) × (Nat → Int32) × (Nat → Int32) × (Nat → Int32) × (Nat → Int32) × (Nat → Int32) × (Nat → UInt32)) → Prop} (K : (∀ (ai' si' hc' tn' tk' pl' it' : Int32) (ke' : Value) (wm' : Nat → UInt32) (sh' ki' fi' ac' wy' cr' se' sl' on' hs' hn' q' : Nat → Int32) (qw' : Nat → UInt32), HR H ai' si' hc' tn' tk' wm' sh' ki' fi' ac' wy' cr' se' sl' on' hs' hn' → HP H q' qw' → Q ((eN (-9) (fM (shutP H s n) 36)), ai', si', hc', tn', tk', 0, pl', it', ke', wm', sh', ki', fi', ac', wy', cr', se', sl', on', hs', hn', r_refusals, q', qw'))) : ∀ (d c m : Nat) (ai si hc tn tk pl it : Int32) (ke : Value) (wm : Nat → UInt32) (sh ki fi ac wy cr se sl on hs hn q : Nat → Int32) (qw : Nat → UInt32), c + d = 36 → d < m → (∀ b, b < c → shutP H s n b = false) → HR H ai si hc tn tk wm sh ki fi ac wy cr se sl on hs hn → HP H q qw → Ok (f_X7_shut_b68 a n0 n1 0 r_refusals m (-9) (nI c) ai si hc tn tk pl it ke wm sh ki fi ac wy cr se sl on hs hn q qw) Q
  | d, c, 0, _, _, _, _, _, _, _, _, _, _, _, _, _, _, _, _, _, _, _, _, _, _, _, q, _, _, _ => absurd q (by omega)
  | 0, c, m + 1, ai, si, hc, tn, tk, pl, it, ke, wm, sh, ki, fi, ac, wy, cr, se, sl, on, hs, hn, q, qw, hk, _, hb, F, QH => by
    have : c = 36 := by omega
    subst this
    rw [f_X7_shut_b68]
    rw [fM_none.mpr hb] at K
    refine Okp (nI_le (a := 36) (by omega) (by omega)) (Okv (K _ _ _ _ _ _ _ _ _ _ _ _ _ _ _ _ _ _ _ _ _ _ F QH))
  | d + 1, c, m + 1, ai, si, hc, tn, tk, pl, it, ke, wm, sh, ki, fi, ac, wy, cr, se, sl, on, hs, hn, q, qw, hk, hm, hb, F, QH => by
    have hc36 : c < 36 := by omega
    have nx : shutP H s n c = false → ∀ b, b < c + 1 → shutP H s n b = false := fun q b h2 => by
      by_cases z : b = c
      · subst z
        exact q
      · exact hb b (by omega)
    rw [f_X7_shut_b68]
    refine Okn (nI_ge (b := 36) hc36 (by omega)) (Okn (by decide) ?_)
    rw [show nI c + (1 : Int32) = nI (c + 1) from nI_1 c]
    by_cases f : freeS H c = true
    · have F1 := toggle_R F hc36
      rw [F.2.2.2.2.1 c hc36, free_sd f, show (1 : Int32) - nB false = 1 by decide] at F1
      have hcl : (nI c).toNatClampNeg = c := nI_clamp (by omega)
      rw [hcl]
      refine Okt (r_isFree V F hc36) f (Okg (vp_in_nI hc36 (by omega)) (Okl ?_))
      rw [hn1]
      refine K_go (n := n) (by omega) (show aV (toggleS H c) from V) (show aTn H + n < 2 ^ 20 by omega) F1 ?_
      intro _ _ _ _ _ _ _ _ F2
      rw [← hn1]
      obtain ⟨V2, -, gS, -⟩ := goS_V n (h := toggleS H c) V (show aTn H + n < 2 ^ 20 by omega)
      have hs2 : s < aS (goS n (toggleS H c)) := by rw [gS]; exact hs6
      have hS := V.1.2.1
      have eo := (F2.2.2.1 s hs2).2.2
      refine Okg (by rw [hn0]; exact vp_in_nI (by omega) (by omega)) ?_
      rw [show n0.toNatClampNeg = s by rw [hn0]; exact nI_clamp (by omega), eo]
      by_cases z : aOn (goS n (toggleS H c)) s = true
      · refine Okp (nB_1.mpr z) ?_
        refine K_again V QH ?_
        intro _ _ _ _ _ _ _ _ _ _ _ _ _ _ _ _ _ _ _ F3 Q3
        refine Okl ?_
        rw [fM_some.mpr ⟨hc36, show shutP H s n c = true by unfold shutP; rw [f, z]; rfl, hb⟩] at K
        cases m with
        | zero => exact absurd hm (by omega)
        | succ m => exact lr_shut0 (H := H) hc36 (K _ _ _ _ _ _ _ _ _ _ _ _ _ _ _ _ _ _ _ _ _ _ F3 Q3)
      · refine Okn (fun y => z (nB_1.mp y)) ?_
        refine K_again V QH ?_
        intro _ _ _ _ _ _ _ _ _ _ _ _ _ _ _ _ _ _ _ F3 Q3
        refine Okl ?_
        rw [Bool.not_eq_true] at z
        exact lr_shut hn0 hs6 hn1 hn4 V ht K d (c + 1) m _ _ _ _ _ _ _ _ _ _ _ _ _ _ _ _ _ _ _ _ _ _ (by omega) (by omega) (nx (by unfold shutP; rw [z, Bool.and_false])) F3 Q3
    · refine Okf (r_isFree V F hc36) f (Okl ?_)
      exact lr_shut hn0 hs6 hn1 hn4 V ht K d (c + 1) m _ _ _ _ _ _ _ _ _ _ _ _ _ _ _ _ _ _ _ _ _ _ (by omega) (by omega) (nx (by unfold shutP; rw [Bool.not_eq_true] at f; rw [f, Bool.false_and])) F QH
theorem s_leapt {s : S6} {t : S7} (a b : Nat → Nat) (R : Rel s t) (n0 : Int32) (n1 : Int32) : Sim (F6_leapt s n0 n1) (F7_leapt t b n0 n1) := by
  refine Rel_o (C := fun s t => Sim (F6_leapt s n0 n1) (F7_leapt t b n0 n1)) R ?_
  intro H P pc pn I L T g_hasImage g_n_warmth g_n_kind g_n_figure g_n_airCell g_n_way g_n_seat g_n_shawls g_n_steps g_n_numbers g_m_shutBits g_m_airs g_m_crownedBits g_m_sitters g_m_onBits g_m_turn g_m_taken g_m_warmth g_m_kind g_m_figure g_m_airCell g_m_way g_m_seat g_m_shawls g_m_count g_m_steps g_m_numbers g_i_shutBits g_i_airs g_i_crownedBits g_i_sitters g_i_onBits g_i_turn g_i_taken g_i_warmth g_i_kind g_i_figure g_i_airCell g_i_way g_i_seat g_i_shawls g_i_count g_i_steps g_i_numbers g_text_letters g_coats_sorts g_coats_sizes g_places g_coats_carried g_told g_refused g_oneHas g_otherHas g_k_shutBits g_k_airs g_k_crownedBits g_k_sitters g_k_onBits g_k_turn g_k_taken g_k_warmth g_k_kind g_k_figure g_k_airCell g_k_way g_k_seat g_k_shawls g_k_count g_k_steps g_k_numbers r_thrown r_at0 r_isBad r_statements r_stepsMany r_hasImage r_place0 r_isTaking r_keptIn r_seed r_warms r_shutAt r_kinds0 r_figures r_airAt r_ways r_crowned r_sitsAt r_shawls r_isOn r_stepOf r_stepBy r_refusals r_letters r_placeIn r_letterOf r_numbers r_stepsRead r_stepsBy r_kept r_keptWarms r_i_imaged r_imagedWarms r_turns0 r_turnWarms0 r_turnOf r_turnWarms r_row0 r_gains r_pegSort r_pegMany r_pegHolds r_coats r_coatsMoved hE hF hg hpc hpn hK hQ hPg hI hL hT hTl hO hR hG
  show Sim (F6_leapt _ n0 n1) (F7_leapt _ b n0 n1)
  rw [F6_leapt_b, F7_leapt_b]
  refine sim_o ?_
  unfold f_X6_leapt f_X7_leapt f_X7_leapt_b25
  have hV := hg.1
  obtain ⟨hA5, hS6, hH6, hT20, hK9⟩ := hV.1
  rcases wr_3 n0 1 60 (by omega) (by omega) with ⟨w1, w2⟩ | ⟨w1, w2, w3⟩ | ⟨n, hn1, hn, hn0, w1⟩
  · refine Ok1 (c_wr w1) (Okn (by decide) (Ok2 (c_refuse 4 (by omega) (by omega) _ (by decide)) (Okv ?_)))
    refine Ok1 (r_wr w1) (Okp (by decide) (Ok1 (r_wr w1) (Okn (by decide) (Ok1 (r_wr w1) (Ok2 (r_refuse 4 (by omega) (by omega) _ (by decide)) (Okv ?_))))))
    exact ⟨rfl, Rel_i H P pc pn I L T ⟨hE, hF, hg, rfl⟩ ⟨⟨hpc, hpn, rfl, rfl, rfl⟩, hK, hQ, hPg⟩ hI ⟨hL, rfl, rfl, hT⟩ ⟨hTl, rfl, rfl, hO⟩ (pRef_u hR) hG⟩
  · refine Ok1 (c_wr w1) (Okn (by decide) (Ok2 (c_refuse 6 (by omega) (by omega) _ (by decide)) (Okv ?_)))
    refine Ok1 (r_wr w1) (Okp (by decide) (Ok1 (r_wr w1) (Okn (by decide) (Ok1 (r_wr w1) (Ok2 (r_refuse 6 (by omega) (by omega) _ (by decide)) (Okv ?_))))))
    exact ⟨rfl, Rel_i H P pc pn I L T ⟨hE, hF, hg, rfl⟩ ⟨⟨hpc, hpn, rfl, rfl, rfl⟩, hK, hQ, hPg⟩ hI ⟨hL, rfl, rfl, hT⟩ ⟨hTl, rfl, rfl, hO⟩ (pRef_u hR) hG⟩
  · by_cases q : ixB n1 2 = true
    · obtain ⟨j, hj, hj1⟩ := ixB_t q
      have b0 : ¬ n1 < 0 := by rw [hj1]; exact nI_pos (by omega)
      have b1 : n1 ≤ 1 := by rw [hj1]; exact nI_le (b := 1) (by omega) (by omega)
      refine Ok1 (c_wr w1) (Okp rfl (Okn b0 (Okp b1 ?_)))
      refine K_take hV hE ?_
      intro _ _ _ _ _ _ _ _ _ E1
      refine lc_leapt hn0 hn n 1 4096 H 0 0 _ _ _ _ _ _ _ _ (by omega) (by omega) hV (by have := hg.2.2; omega) E1 ?_
      intro _ _ _ _ _ _ _ _ _ _ _ _ _ _ _ _ _
      refine Ok1 (r_wr w1) (Okn (by decide) (Okt (in_ix 2 (by decide)) q ?_))
      refine K_think hV hF ?_
      intro _ _ _ _ _ _ _ _ _ _ _ _ _ _ F1 Q1
      refine lr_leapt hn0 hn hV Q1 n 1 4096 H 0 0 _ _ _ _ _ _ _ _ (by omega) (by omega) hV (by have := hg.2.2; omega) F1 ?_
      intro _ _ _ _ _ _ _ _ _ _ _ _ _ _ _ _ _ _ _ _ _ _ F3 Q3
      exact ⟨rfl, Rel_i H P pc pn I L T ⟨hE, F3, hg, rfl⟩ ⟨⟨hpc, hpn, rfl, rfl, rfl⟩, hK, hQ, hPg⟩ hI ⟨hL, rfl, rfl, hT⟩ ⟨hTl, rfl, rfl, hO⟩ hR hG⟩
    · rcases ix2 (by omega) q with w | ⟨w, w2⟩
      · refine Ok1 (c_wr w1) (Okp rfl (Okp w (Ok2 (c_refuse 2 (by omega) (by omega) _ (by decide)) (Okv ?_))))
        refine Ok1 (r_wr w1) (Okn (by decide) (Okf (in_ix 2 (by decide)) q (Ok1 (r_wr w1) (Okp (by decide) (Ok2 (r_refuse 2 (by omega) (by omega) _ (by decide)) (Okv ?_))))))
        exact ⟨rfl, Rel_i H P pc pn I L T ⟨hE, hF, hg, rfl⟩ ⟨⟨hpc, hpn, rfl, rfl, rfl⟩, hK, hQ, hPg⟩ hI ⟨hL, rfl, rfl, hT⟩ ⟨hTl, rfl, rfl, hO⟩ (pRef_u hR) hG⟩
      · refine Ok1 (c_wr w1) (Okp rfl (Okn w (Okn (fun z => absurd (Int32.le_iff_toInt_le.mp (Int32.le_trans w2 z)) (by decide)) (Ok2 (c_refuse 2 (by omega) (by omega) _ (by decide)) (Okv ?_)))))
        refine Ok1 (r_wr w1) (Okn (by decide) (Okf (in_ix 2 (by decide)) q (Ok1 (r_wr w1) (Okp (by decide) (Ok2 (r_refuse 2 (by omega) (by omega) _ (by decide)) (Okv ?_))))))
        exact ⟨rfl, Rel_i H P pc pn I L T ⟨hE, hF, hg, rfl⟩ ⟨⟨hpc, hpn, rfl, rfl, rfl⟩, hK, hQ, hPg⟩ hI ⟨hL, rfl, rfl, hT⟩ ⟨hTl, rfl, rfl, hO⟩ (pRef_u hR) hG⟩
theorem s_most {s : S6} {t : S7} (a b : Nat → Nat) (R : Rel s t) (n0 : Int32) : Sim (F6_most s n0) (F7_most t b n0) := by
  refine Rel_o (C := fun s t => Sim (F6_most s n0) (F7_most t b n0)) R ?_
  intro H P pc pn I L T g_hasImage g_n_warmth g_n_kind g_n_figure g_n_airCell g_n_way g_n_seat g_n_shawls g_n_steps g_n_numbers g_m_shutBits g_m_airs g_m_crownedBits g_m_sitters g_m_onBits g_m_turn g_m_taken g_m_warmth g_m_kind g_m_figure g_m_airCell g_m_way g_m_seat g_m_shawls g_m_count g_m_steps g_m_numbers g_i_shutBits g_i_airs g_i_crownedBits g_i_sitters g_i_onBits g_i_turn g_i_taken g_i_warmth g_i_kind g_i_figure g_i_airCell g_i_way g_i_seat g_i_shawls g_i_count g_i_steps g_i_numbers g_text_letters g_coats_sorts g_coats_sizes g_places g_coats_carried g_told g_refused g_oneHas g_otherHas g_k_shutBits g_k_airs g_k_crownedBits g_k_sitters g_k_onBits g_k_turn g_k_taken g_k_warmth g_k_kind g_k_figure g_k_airCell g_k_way g_k_seat g_k_shawls g_k_count g_k_steps g_k_numbers r_thrown r_at0 r_isBad r_statements r_stepsMany r_hasImage r_place0 r_isTaking r_keptIn r_seed r_warms r_shutAt r_kinds0 r_figures r_airAt r_ways r_crowned r_sitsAt r_shawls r_isOn r_stepOf r_stepBy r_refusals r_letters r_placeIn r_letterOf r_numbers r_stepsRead r_stepsBy r_kept r_keptWarms r_i_imaged r_imagedWarms r_turns0 r_turnWarms0 r_turnOf r_turnWarms r_row0 r_gains r_pegSort r_pegMany r_pegHolds r_coats r_coatsMoved hE hF hg hpc hpn hK hQ hPg hI hL hT hTl hO hR hG
  show Sim (F6_most _ n0) (F7_most _ b n0)
  rw [F6_most_b, F7_most_b]
  refine sim_o ?_
  unfold f_X6_most f_X7_most
  have hV := hg.1
  obtain ⟨hA5, hS6, hH6, hT20, hK9⟩ := hV.1
  rcases wr_3 n0 0 30 (by omega) (by omega) with ⟨w1, w2⟩ | ⟨w1, w2, w3⟩ | ⟨n, -, hn, hn0, w1⟩
  · refine Ok1 (c_wr w1) (Okn (by decide) (Ok2 (c_refuse 4 (by omega) (by omega) _ (by decide)) (Okv ?_)))
    refine Ok1 (r_wr w1) (Okn (by decide) (Ok1 (r_wr w1) (Ok2 (r_refuse 4 (by omega) (by omega) _ (by decide)) (Okv ?_))))
    exact ⟨rfl, Rel_i H P pc pn I L T ⟨hE, hF, hg, rfl⟩ ⟨⟨hpc, hpn, rfl, rfl, rfl⟩, hK, hQ, hPg⟩ hI ⟨hL, rfl, rfl, hT⟩ ⟨hTl, rfl, rfl, hO⟩ (pRef_u hR) hG⟩
  · refine Ok1 (c_wr w1) (Okn (by decide) (Ok2 (c_refuse 6 (by omega) (by omega) _ (by decide)) (Okv ?_)))
    refine Ok1 (r_wr w1) (Okn (by decide) (Ok1 (r_wr w1) (Ok2 (r_refuse 6 (by omega) (by omega) _ (by decide)) (Okv ?_))))
    exact ⟨rfl, Rel_i H P pc pn I L T ⟨hE, hF, hg, rfl⟩ ⟨⟨hpc, hpn, rfl, rfl, rfl⟩, hK, hQ, hPg⟩ hI ⟨hL, rfl, rfl, hT⟩ ⟨hTl, rfl, rfl, hO⟩ (pRef_u hR) hG⟩
  · obtain ⟨GV, gA, gS, gT⟩ := goS_V n hV (by have := hg.2.2; omega)
    refine Ok1 (c_wr w1) (Okp rfl ?_)
    rw [hn0]
    refine K_thinkOf (by omega) hV (by have := hg.2.2; omega) hE ?_
    intro _ _ _ _ _ _ _ _ _ _ _ _ _ E1
    rw [← hn0]
    refine Ok1 (by rw [E1.2.1.2.1]; exact c_popS GV) ?_
    refine lc_most hn0 hn hV hg.2.2 hE 36 0 4096 (-9) (popS (goS n H)) _ _ _ _ _ _ _ _ _ _ _ _ _ _ _ _ _ (by omega) (by omega) (popS_le GV) ?_
    intro _ _ _ _ _ _ _ _ _ _ _ _ _ _ _ _ _
    refine Ok1 (r_wr w1) (Okp (by decide) ?_)
    refine K_think hV hF ?_
    intro _ _ _ _ _ _ _ _ _ _ _ _ _ _ F1 Q1
    rw [hn0]
    refine K_go (by omega) hV (by have := hg.2.2; omega) F1 ?_
    intro _ _ _ _ _ _ _ _ F2
    rw [← hn0]
    refine Ok1 (r_onBits GV F2) (Ok1 (r_popS GV) ?_)
    refine K_again hV Q1 ?_
    intro _ _ _ _ _ _ _ _ _ _ _ _ _ _ _ _ _ _ _ F3 Q3
    refine lr_most hn0 hn hV hg.2.2 36 0 4096 (-9) (popS (goS n H)) _ _ _ _ _ _ _ _ _ _ _ _ _ _ _ _ _ _ _ _ _ _ (by omega) (by omega) (popS_le GV) F3 Q3 ?_
    intro _ _ _ _ _ _ _ _ _ _ _ _ _ _ _ _ _ _ _ _ _ _ F4 Q4
    exact ⟨rfl, Rel_i H P pc pn I L T ⟨hE, F4, hg, rfl⟩ ⟨⟨hpc, hpn, rfl, rfl, rfl⟩, hK, hQ, hPg⟩ hI ⟨hL, rfl, rfl, hT⟩ ⟨hTl, rfl, rfl, hO⟩ hR hG⟩
theorem s_shut {s : S6} {t : S7} (a b : Nat → Nat) (R : Rel s t) (n0 : Int32) (n1 : Int32) : Sim (F6_shut s n0 n1) (F7_shut t b n0 n1) := by
  refine Rel_o (C := fun s t => Sim (F6_shut s n0 n1) (F7_shut t b n0 n1)) R ?_
  intro H P pc pn I L T g_hasImage g_n_warmth g_n_kind g_n_figure g_n_airCell g_n_way g_n_seat g_n_shawls g_n_steps g_n_numbers g_m_shutBits g_m_airs g_m_crownedBits g_m_sitters g_m_onBits g_m_turn g_m_taken g_m_warmth g_m_kind g_m_figure g_m_airCell g_m_way g_m_seat g_m_shawls g_m_count g_m_steps g_m_numbers g_i_shutBits g_i_airs g_i_crownedBits g_i_sitters g_i_onBits g_i_turn g_i_taken g_i_warmth g_i_kind g_i_figure g_i_airCell g_i_way g_i_seat g_i_shawls g_i_count g_i_steps g_i_numbers g_text_letters g_coats_sorts g_coats_sizes g_places g_coats_carried g_told g_refused g_oneHas g_otherHas g_k_shutBits g_k_airs g_k_crownedBits g_k_sitters g_k_onBits g_k_turn g_k_taken g_k_warmth g_k_kind g_k_figure g_k_airCell g_k_way g_k_seat g_k_shawls g_k_count g_k_steps g_k_numbers r_thrown r_at0 r_isBad r_statements r_stepsMany r_hasImage r_place0 r_isTaking r_keptIn r_seed r_warms r_shutAt r_kinds0 r_figures r_airAt r_ways r_crowned r_sitsAt r_shawls r_isOn r_stepOf r_stepBy r_refusals r_letters r_placeIn r_letterOf r_numbers r_stepsRead r_stepsBy r_kept r_keptWarms r_i_imaged r_imagedWarms r_turns0 r_turnWarms0 r_turnOf r_turnWarms r_row0 r_gains r_pegSort r_pegMany r_pegHolds r_coats r_coatsMoved hE hF hg hpc hpn hK hQ hPg hI hL hT hTl hO hR hG
  show Sim (F6_shut _ n0 n1) (F7_shut _ b n0 n1)
  rw [F6_shut_b, F7_shut_b]
  refine sim_o ?_
  unfold f_X6_shut f_X7_shut f_X7_shut_b46
  have hV := hg.1
  obtain ⟨hA5, hS6, hH6, hT20, hK9⟩ := hV.1
  by_cases q : ixB n0 (aS H) = true
  · obtain ⟨s, hs, hn0⟩ := ixB_t q
    rcases wr_3 n1 0 30 (by omega) (by omega) with ⟨w1, w2⟩ | ⟨w1, w2, w3⟩ | ⟨n, -, hn, hn1, w1⟩
    · refine Okt (c_isSitter _ (by omega)) q (Ok1 (c_wr w1) (Okn (by decide) (Ok2 (c_refuse 4 (by omega) (by omega) _ (by decide)) (Okv ?_))))
      refine Okt (r_isSitter _ (by omega)) q (Ok1 (r_wr w1) (Okn (by decide) (Okn (by decide) (Ok2 (r_refuse 4 (by omega) (by omega) _ (by decide)) (Okv ?_)))))
      exact ⟨rfl, Rel_i H P pc pn I L T ⟨hE, hF, hg, rfl⟩ ⟨⟨hpc, hpn, rfl, rfl, rfl⟩, hK, hQ, hPg⟩ hI ⟨hL, rfl, rfl, hT⟩ ⟨hTl, rfl, rfl, hO⟩ (pRef_u hR) hG⟩
    · refine Okt (c_isSitter _ (by omega)) q (Ok1 (c_wr w1) (Okn (by decide) (Ok2 (c_refuse 6 (by omega) (by omega) _ (by decide)) (Okv ?_))))
      refine Okt (r_isSitter _ (by omega)) q (Ok1 (r_wr w1) (Okn (by decide) (Okn (by decide) (Ok2 (r_refuse 6 (by omega) (by omega) _ (by decide)) (Okv ?_)))))
      exact ⟨rfl, Rel_i H P pc pn I L T ⟨hE, hF, hg, rfl⟩ ⟨⟨hpc, hpn, rfl, rfl, rfl⟩, hK, hQ, hPg⟩ hI ⟨hL, rfl, rfl, hT⟩ ⟨hTl, rfl, rfl, hO⟩ (pRef_u hR) hG⟩
    · have hv : vp_in n0 6 := by rw [hn0]; exact vp_in_nI (by omega) (by omega)
      have hcl : n0.toNatClampNeg = s := by rw [hn0]; exact nI_clamp (by omega)
      have eo := (hF.2.2.1 s hs).2.2
      have ci : f_X2_isOn (nI (bN (aOn H) (aS H))) n0 = some (nB (aOn H s)) := by rw [hn0]; exact c_isO hV hE hs
      by_cases o : aOn H s = true
      · refine Okt (c_isSitter _ (by omega)) q (Ok1 (c_wr w1) (Okp rfl (Okt ci o ?_)))
        refine lc_shut hn0 hs hn1 hn hV hg.2.2 hE ?_ 36 0 4096 _ _ _ _ _ _ _ _ _ _ _ _ _ _ _ _ _ (by omega) (by omega) (fun b hb => absurd hb (by omega))
        intro _ _ _ _ _ _ _ _ _ _ _ _ _ _ _ _ _
        refine Okt (r_isSitter _ (by omega)) q (Ok1 (r_wr w1) (Okp rfl (Okg hv (Okn (by rw [hcl, eo]; exact fun z => nB_0.mp z o) (Okp (by decide) ?_)))))
        refine K_think hV hF ?_
        intro _ _ _ _ _ _ _ _ _ _ _ _ _ _ F1 Q1
        refine lr_shut hn0 hs hn1 hn hV hg.2.2 ?_ 36 0 4096 _ _ _ _ _ _ _ _ _ _ _ _ _ _ _ _ _ _ _ _ _ _ (by omega) (by omega) (fun b hb => absurd hb (by omega)) F1 Q1
        intro _ _ _ _ _ _ _ _ _ _ _ _ _ _ _ _ _ _ _ _ _ _ F3 Q3
        exact ⟨rfl, Rel_i H P pc pn I L T ⟨hE, F3, hg, rfl⟩ ⟨⟨hpc, hpn, rfl, rfl, rfl⟩, hK, hQ, hPg⟩ hI ⟨hL, rfl, rfl, hT⟩ ⟨hTl, rfl, rfl, hO⟩ hR hG⟩
      · refine Okt (c_isSitter _ (by omega)) q (Ok1 (c_wr w1) (Okp rfl (Okf ci o (Ok2 (c_refuse 3 (by omega) (by omega) _ (by decide)) (Okv ?_)))))
        refine Okt (r_isSitter _ (by omega)) q (Ok1 (r_wr w1) (Okp rfl (Okg hv (Okp (by rw [hcl, eo]; exact nB_0.mpr o) (Okn (by decide) (Ok2 (r_refuse 3 (by omega) (by omega) _ (by decide)) (Okv ?_)))))))
        exact ⟨rfl, Rel_i H P pc pn I L T ⟨hE, hF, hg, rfl⟩ ⟨⟨hpc, hpn, rfl, rfl, rfl⟩, hK, hQ, hPg⟩ hI ⟨hL, rfl, rfl, hT⟩ ⟨hTl, rfl, rfl, hO⟩ (pRef_u hR) hG⟩
  · refine Okf (c_isSitter _ (by omega)) q (Ok2 (c_refuse 1 (by omega) (by omega) _ (by decide)) (Okv ?_))
    refine Okf (r_isSitter _ (by omega)) q (Ok2 (r_refuse 1 (by omega) (by omega) _ (by decide)) (Okv ?_))
    exact ⟨rfl, Rel_i H P pc pn I L T ⟨hE, hF, hg, rfl⟩ ⟨⟨hpc, hpn, rfl, rfl, rfl⟩, hK, hQ, hPg⟩ hI ⟨hL, rfl, rfl, hT⟩ ⟨hTl, rfl, rfl, hO⟩ (pRef_u hR) hG⟩
