/-! where he sits longest -/
def seat1 (h : AH) (s c : Nat) : AH := (h.1, h.2.1, (up (aSt h) s c, aSh h, aOn h), h.2.2.2)
theorem seat1_V {h : AH} (V : aV h) {s c : Nat} (hc : c < 36) : aV (seat1 h s c) := by
  obtain ⟨v1, v2, v3, v4, v5⟩ := V
  refine ⟨v1, v2, fun i hi => ⟨?_, (v3 i hi).2⟩, v4, v5⟩
  show up (aSt h) s c i < 36
  by_cases z : i = s
  · subst z
    rw [up_s]
    exact hc
  · rw [up_n z]
    exact (v3 i hi).1
theorem seat1_C {h : AH} {sb : Int64} {ai : Int32} {cb : Int32} {si : Int32} {ob : Int32} {tn : Int32} {tk : Int32} {wm : Nat → UInt32} {ki : Nat → Int32} {fi : Nat → Int32} {ac : Nat → Int32} {wy : Nat → Int32} {se : Nat → Int32} {sl : Nat → Int32} {hc : Int32} {hs : Nat → Int32} {hn : Nat → Int32} (E : HC h sb ai cb si ob tn tk wm ki fi ac wy se sl hc hs hn) {s c : Nat} : HC (seat1 h s c) sb ai cb si ob tn tk wm ki fi ac wy (upd se s (nI c)) sl hc hs hn := by
  refine ⟨E.1, E.2.1, E.2.2.1, fun i hi => ⟨?_, (E.2.2.2.1 i hi).2⟩, E.2.2.2.2⟩
  show upd se s (nI c) i = nI (up (aSt h) s c i)
  by_cases z : i = s
  · subst z
    rw [pk_us, up_s]
  · rw [pk_un z, up_n z]
    exact (E.2.2.2.1 i hi).1
theorem seat1_R {h : AH} {ai : Int32} {si : Int32} {hc : Int32} {tn : Int32} {tk : Int32} {wm : Nat → UInt32} {sh : Nat → Int32} {ki : Nat → Int32} {fi : Nat → Int32} {ac : Nat → Int32} {wy : Nat → Int32} {cr : Nat → Int32} {se : Nat → Int32} {sl : Nat → Int32} {on : Nat → Int32} {hs : Nat → Int32} {hn : Nat → Int32} (E : HR h ai si hc tn tk wm sh ki fi ac wy cr se sl on hs hn) {s c : Nat} : HR (seat1 h s c) ai si hc tn tk wm sh ki fi ac wy cr (upd se s (nI c)) sl on hs hn := by
  refine ⟨E.1, E.2.1, fun i hi => ⟨?_, (E.2.2.1 i hi).2⟩, E.2.2.2⟩
  show upd se s (nI c) i = nI (up (aSt h) s c i)
  by_cases z : i = s
  · subst z
    rw [pk_us, up_s]
  · rw [pk_un z, up_n z]
    exact (E.2.2.1 i hi).1
def sB (d : Int32) : Option (Nat × Nat) → Int32
  | none => d
  | some p => nI p.1
def sL : Option (Nat × Nat) → Int32
  | none => -1
  | some p => nI p.2
def sitN (h : AH) (s c : Nat) (o : Option (Nat × Nat)) : Option (Nat × Nat) := if freeS h c = true ∨ c = aSt h s then (match o with
  | none => some (c, tillR s 61 0 (seat1 h s c))
  | some p => if tillR s 61 0 (seat1 h s c) ≤ p.2 then some p else some (c, tillR s 61 0 (seat1 h s c))) else o
def sitL (h : AH) (s : Nat) : Nat → Nat → Option (Nat × Nat) → Option (Nat × Nat)
  | 0, _, o => o
  | d + 1, c, o => sitL h s d (c + 1) (sitN h s c o)
def sitI (o : Option (Nat × Nat)) : Prop := ∀ p, o = some p → p.2 ≤ 61
theorem sitN_I {h : AH} {s c : Nat} {o : Option (Nat × Nat)} (I : sitI o) : sitI (sitN h s c o) := by
  have l := (tillR_ge (s := s) 61 0 (seat1 h s c) (by omega)).2
  unfold sitN
  split
  · cases o with
    | none =>
      intro p e
      cases e
      exact l
    | some p =>
      simp only
      split
      · exact I
      · intro p e
        cases e
        exact l
  · exact I
theorem sitL_61 {h : AH} {s b : Nat} : ∀ (d c : Nat), sitL h s d c (some (b, 61)) = some (b, 61)
  | 0, _ => rfl
  | d + 1, c => by
    have l := (tillR_ge (s := s) 61 0 (seat1 h s c) (by omega)).2
    have e : sitN h s c (some (b, 61)) = some (b, 61) := by
      unfold sitN
      split
      · simp only
        rw [if_pos l]
      · rfl
    show sitL h s d (c + 1) (sitN h s c (some (b, 61))) = _
    rw [e]
    exact sitL_61 d (c + 1)
theorem sitN_some {h : AH} {s c : Nat} {o : Option (Nat × Nat)} (q : o.isSome = true ∨ c = aSt h s) : (sitN h s c o).isSome = true := by
  unfold sitN
  split
  · cases o with
    | none => rfl
    | some p =>
      simp only
      split <;> rfl
  · rename_i z
    rcases q with q | q
    · exact q
    · exact absurd (Or.inr q) z
theorem sitL_some {h : AH} {s : Nat} : ∀ (d c : Nat) (o : Option (Nat × Nat)), o.isSome = true ∨ (c ≤ aSt h s ∧ aSt h s < c + d) → (sitL h s d c o).isSome = true
  | 0, c, o, q => q.resolve_right (by omega)
  | d + 1, c, o, q => by
    refine sitL_some d (c + 1) (sitN h s c o) ?_
    by_cases z : c = aSt h s
    · exact Or.inl (sitN_some (Or.inr z))
    · rcases q with q | q
      · exact Or.inl (sitN_some (Or.inl q))
      · exact Or.inr (by omega)
theorem lc_sit {H : AH} {n1 : Int32} {g_n_shutBits : Int64} {g_n_airs : Int32} {g_n_crownedBits : Int32} {g_n_sitters : Int32} {g_n_onBits : Int32} {g_n_turn : Int32} {g_n_taken : Int32} {g_n_warmth : (Nat → UInt32)} {g_n_kind : (Nat → Int32)} {g_n_figure : (Nat → Int32)} {g_n_airCell : (Nat → Int32)} {g_n_way : (Nat → Int32)} {g_n_seat : (Nat → Int32)} {g_n_shawls : (Nat → Int32)} {g_n_count : Int32} {g_n_steps : (Nat → Int32)} {g_n_numbers : (Nat → Int32)} {g_refused : (Nat → Int32)} {s : Nat} (hs6 : s < aS H) (V : aV H) (ht : aTn H ≤ 999) (E : HC H g_n_shutBits g_n_airs g_n_crownedBits g_n_sitters g_n_onBits g_n_turn g_n_taken g_n_warmth g_n_kind g_n_figure g_n_airCell g_n_way g_n_seat g_n_shawls g_n_count g_n_steps g_n_numbers) {Q : (Int32 × Int64 × Int32 × Int32 × Int32 × Int32 × Int32 × Int32 × (Nat → UInt32) × (Nat → Int32) × (Nat → Int32) × (Nat → Int32) × (Nat → Int32) × (Nat → Int32) × (Nat → Int32) × Int32 × (Nat → Int32) × (Nat → Int32) × (Nat → Int32)) → Prop} : ∀ (d c m : Nat) (o : Option (Nat × Nat)) (sb : Int64) (ai cb si ob tn tk : Int32) (wm : Nat → UInt32) (ki fi ac wy se sl : Nat → Int32) (hc : Int32) (hs hn : Nat → Int32), c + d = 36 → d < m → sitI o → (∀ (sb' : Int64) (ai' cb' si' ob' tn' tk' : Int32) (wm' : Nat → UInt32) (ki' fi' ac' wy' se' sl' : Nat → Int32) (hc' : Int32) (hs' hn' : Nat → Int32), Q ((if n1 = 0 then sB (-1) (sitL H s d c o) else sL (sitL H s d c o)), sb', ai', cb', si', ob', tn', tk', wm', ki', fi', ac', wy', se', sl', hc', hs', hn', g_refused)) → Ok (f_X6_sit_b56 (nI s) n1 g_n_shutBits g_n_airs g_n_crownedBits g_n_sitters g_n_onBits g_n_turn g_n_taken g_n_warmth g_n_kind g_n_figure g_n_airCell g_n_way g_n_seat g_n_shawls g_n_count g_n_steps g_n_numbers g_refused m (sB (-1) o) (sL o) (nI c) sb ai cb si ob tn tk wm ki fi ac wy se sl hc hs hn) Q
  | d, c, 0, _, _, _, _, _, _, _, _, _, _, _, _, _, _, _, _, _, _, _, q, _, _ => absurd q (by omega)
  | 0, c, m + 1, o, sb, ai, cb, si, ob, tn, tk, wm, ki, fi, ac, wy, se, sl, hc, hs, hn, hk, _, _, K => by
    rw [f_X6_sit_b56]
    refine Okp (nI_le (a := 36) (by omega) (by omega)) ?_
    by_cases z : n1 = 0
    · rw [if_pos z] at K
      exact Okp z (Okv (K sb ai cb si ob tn tk wm ki fi ac wy se sl hc hs hn))
    · rw [if_neg z] at K
      exact Okn z (Okv (K sb ai cb si ob tn tk wm ki fi ac wy se sl hc hs hn))
  | d + 1, c, m + 1, o, sb, ai, cb, si, ob, tn, tk, wm, ki, fi, ac, wy, se, sl, hc, hs, hn, hk, hm, I, K => by
    have hc36 : c < 36 := by omega
    have hS := V.1.2.1
    rw [f_X6_sit_b56]
    refine Okn (nI_ge (b := 36) hc36 (by omega)) ?_
    by_cases big : ∃ b, o = some (b, 61)
    · obtain ⟨b, rfl⟩ := big
      rw [sitL_61] at K
      refine Okp (show (60 : Int32) < nI 61 by decide) ?_
      by_cases z : n1 = 0
      · rw [if_pos z] at K
        exact Okp z (Okv (K sb ai cb si ob tn tk wm ki fi ac wy se sl hc hs hn))
      · rw [if_neg z] at K
        exact Okn z (Okv (K sb ai cb si ob tn tk wm ki fi ac wy se sl hc hs hn))
    have nb : ¬ (60 : Int32) < sL o := by
      cases o with
      | none => decide
      | some p =>
        have := I p rfl
        have : p.2 ≠ 61 := fun z => big ⟨p.1, by rw [← z]⟩
        exact nI_nlt (a := 60) (by omega) (by omega)
    refine Okn nb ?_
    have v6 : vp_in (nI s) 6 := vp_in_nI (by omega) (by omega)
    have cs : (nI s).toNatClampNeg = s := nI_clamp (by omega)
    have l61 := (tillR_ge (s := s) 61 0 (seat1 H s c) (by omega)).2
    have lk : sitL H s (d + 1) c o = sitL H s d (c + 1) (sitN H s c o) := rfl
    rw [lk] at K
    have es := (E.2.2.2.1 s hs6).1
    have v36 := (V.2.2.1 s hs6).1
    refine Okbd (c_isFr V E hc36) (fun f => ?_) (fun f => ?_)
    · have cnd : freeS H c = true ∨ c = aSt H s := Or.inl f
      unfold f_X6_sit_b96
      refine K_take V E ?_
      intro _ _ _ _ _ _ _ _ _ E1
      refine Okg v6 (Okl ?_)
      rw [cs]
      have V1 := seat1_V (s := s) V hc36
      refine K_till (s := s) V1 hs6 (show aTn H + 60 < 2 ^ 20 by omega) (seat1_C E1) ?_
      intro _ _ _ _ _ _ _ _ E2
      rw [till_R (s := s) 60 0 (seat1 H s c) (by omega), show 60 + 1 = 61 from rfl]
      cases o with
      | none =>
        refine Okn (show ¬ nI _ ≤ (-1 : Int32) from fun z => absurd (Int32.le_iff_toInt_le.mp z) (by rw [nI_toInt (by omega), show (-1 : Int32).toInt = -1 from rfl]; omega)) (Okl ?_)
        rw [show nI c + (1 : Int32) = nI (c + 1) from nI_1 c]
        have st : sitN H s c none = some (c, tillR s 61 0 (seat1 H s c)) := if_pos cnd
        rw [st] at K
        exact lc_sit hs6 V ht E d (c + 1) m (some (c, tillR s 61 0 (seat1 H s c))) _ _ _ _ _ _ _ _ _ _ _ _ _ _ _ _ _ (by omega) (by omega) (fun p e => by cases e; exact l61) K
      | some p =>
        have hp := I p rfl
        by_cases y : tillR s 61 0 (seat1 H s c) ≤ p.2
        · refine Okp (show nI _ ≤ nI p.2 from nI_le y (by omega)) (Okl ?_)
          rw [show nI c + (1 : Int32) = nI (c + 1) from nI_1 c]
          have st : sitN H s c (some p) = some p := (if_pos cnd).trans (if_pos y)
          rw [st] at K
          exact lc_sit hs6 V ht E d (c + 1) m (some p) _ _ _ _ _ _ _ _ _ _ _ _ _ _ _ _ _ (by omega) (by omega) I K
        · refine Okn (show ¬ nI _ ≤ nI p.2 from nI_ge (by omega) (by omega)) (Okl ?_)
          rw [show nI c + (1 : Int32) = nI (c + 1) from nI_1 c]
          have st : sitN H s c (some p) = some (c, tillR s 61 0 (seat1 H s c)) := (if_pos cnd).trans (if_neg y)
          rw [st] at K
          exact lc_sit hs6 V ht E d (c + 1) m (some (c, tillR s 61 0 (seat1 H s c))) _ _ _ _ _ _ _ _ _ _ _ _ _ _ _ _ _ (by omega) (by omega) (fun p e => by cases e; exact l61) K
    · refine Okg v6 ?_
      rw [cs, es]
      by_cases w : c = aSt H s
      · refine Okp (by rw [w]) ?_
        have cnd : freeS H c = true ∨ c = aSt H s := Or.inr w
        unfold f_X6_sit_b96
        refine K_take V E ?_
        intro _ _ _ _ _ _ _ _ _ E1
        refine Okg v6 (Okl ?_)
        rw [cs]
        have V1 := seat1_V (s := s) V hc36
        refine K_till (s := s) V1 hs6 (show aTn H + 60 < 2 ^ 20 by omega) (seat1_C E1) ?_
        intro _ _ _ _ _ _ _ _ E2
        rw [till_R (s := s) 60 0 (seat1 H s c) (by omega), show 60 + 1 = 61 from rfl]
        cases o with
        | none =>
          refine Okn (show ¬ nI _ ≤ (-1 : Int32) from fun z => absurd (Int32.le_iff_toInt_le.mp z) (by rw [nI_toInt (by omega), show (-1 : Int32).toInt = -1 from rfl]; omega)) (Okl ?_)
          rw [show nI c + (1 : Int32) = nI (c + 1) from nI_1 c]
          have st : sitN H s c none = some (c, tillR s 61 0 (seat1 H s c)) := if_pos cnd
          rw [st] at K
          exact lc_sit hs6 V ht E d (c + 1) m (some (c, tillR s 61 0 (seat1 H s c))) _ _ _ _ _ _ _ _ _ _ _ _ _ _ _ _ _ (by omega) (by omega) (fun p e => by cases e; exact l61) K
        | some p =>
          have hp := I p rfl
          by_cases y : tillR s 61 0 (seat1 H s c) ≤ p.2
          · refine Okp (show nI _ ≤ nI p.2 from nI_le y (by omega)) (Okl ?_)
            rw [show nI c + (1 : Int32) = nI (c + 1) from nI_1 c]
            have st : sitN H s c (some p) = some p := (if_pos cnd).trans (if_pos y)
            rw [st] at K
            exact lc_sit hs6 V ht E d (c + 1) m (some p) _ _ _ _ _ _ _ _ _ _ _ _ _ _ _ _ _ (by omega) (by omega) I K
          · refine Okn (show ¬ nI _ ≤ nI p.2 from nI_ge (by omega) (by omega)) (Okl ?_)
            rw [show nI c + (1 : Int32) = nI (c + 1) from nI_1 c]
            have st : sitN H s c (some p) = some (c, tillR s 61 0 (seat1 H s c)) := (if_pos cnd).trans (if_neg y)
            rw [st] at K
            exact lc_sit hs6 V ht E d (c + 1) m (some (c, tillR s 61 0 (seat1 H s c))) _ _ _ _ _ _ _ _ _ _ _ _ _ _ _ _ _ (by omega) (by omega) (fun p e => by cases e; exact l61) K
      · refine Okn (fun z => w ((nI_eq (by omega) (by omega)).mp z)) (Okl ?_)
        rw [show nI c + (1 : Int32) = nI (c + 1) from nI_1 c]
        have st : sitN H s c o = o := if_neg (fun z => z.elim (fun y => by rw [f] at y; cases y) w)
        rw [st] at K
        exact lc_sit hs6 V ht E d (c + 1) m o _ _ _ _ _ _ _ _ _ _ _ _ _ _ _ _ _ (by omega) (by omega) I K
theorem lr_sit {H : AH} {a : Nat → Nat} {n1 : Int32} {r_refusals : Nat → Int32} {s : Nat} (hs6 : s < aS H) (V : aV H) (ht : aTn H ≤ 999) {Q : (Int32 × Int32 × Int32 × Int32 × Int32 × Int32 × Int32 × Int32 × Int32 × Value × (Nat → UInt32) × (Nat → Int32) × (Nat → Int32) × (Nat → Int32) × (Nat → Int32) × (Nat → Int32) × (Nat → Int32) × (Nat → Int32) × (Nat → Int32) × (Nat → Int32) × (Nat → Int32) × (Nat → Int32) × (Nat → Int32) × (Nat → Int32) × (Nat → UInt32)) → Prop} : ∀ (d c m : Nat) (o : Option (Nat × Nat)) (ai si hc tn tk pl it : Int32) (ke : Value) (wm : Nat → UInt32) (sh ki fi ac wy cr se sl on hs hn q : Nat → Int32) (qw : Nat → UInt32), c + d = 36 → d < m → sitI o → HR H ai si hc tn tk wm sh ki fi ac wy cr se sl on hs hn → HP H q qw → (∀ (ai' si' hc' tn' tk' pl' it' : Int32) (ke' : Value) (wm' : Nat → UInt32) (sh' ki' fi' ac' wy' cr' se' sl' on' hs' hn' q' : Nat → Int32) (qw' : Nat → UInt32), HR H ai' si' hc' tn' tk' wm' sh' ki' fi' ac' wy' cr' se' sl' on' hs' hn' → HP H q' qw' → Q ((if n1 = 0 then sB (-9) (sitL H s d c o) else sL (sitL H s d c o)), ai', si', hc', tn', tk', 0, pl', it', ke', wm', sh', ki', fi', ac', wy', cr', se', sl', on', hs', hn', r_refusals, q', qw')) → Ok (f_X7_sit_b71 a (nI s) n1 0 r_refusals m (sB (-9) o) (sL o) (nI c) ai si hc tn tk pl it ke wm sh ki fi ac wy cr se sl on hs hn q qw) Q
  | d, c, 0, _, _, _, _, _, _, _, _, _, _, _, _, _, _, _, _, _, _, _, _, _, _, _, _, q, _, _, _, _ => absurd q (by omega)
  | 0, c, m + 1, o, ai, si, hc, tn, tk, pl, it, ke, wm, sh, ki, fi, ac, wy, cr, se, sl, on, hs, hn, q, qw, hk, _, _, F, QH, K => by
    rw [f_X7_sit_b71]
    refine Okp (nI_le (a := 36) (by omega) (by omega)) ?_
    by_cases z : n1 = 0
    · rw [if_pos z] at K
      exact Okp z (Okv (K _ _ _ _ _ _ _ _ _ _ _ _ _ _ _ _ _ _ _ _ _ _ F QH))
    · rw [if_neg z] at K
      exact Okn z (Okv (K _ _ _ _ _ _ _ _ _ _ _ _ _ _ _ _ _ _ _ _ _ _ F QH))
  | d + 1, c, m + 1, o, ai, si, hc, tn, tk, pl, it, ke, wm, sh, ki, fi, ac, wy, cr, se, sl, on, hs, hn, q, qw, hk, hm, I, F, QH, K => by
    have hc36 : c < 36 := by omega
    have hS := V.1.2.1
    rw [f_X7_sit_b71]
    refine Okn (nI_ge (b := 36) hc36 (by omega)) ?_
    have v6 : vp_in (nI s) 6 := vp_in_nI (by omega) (by omega)
    have cs : (nI s).toNatClampNeg = s := nI_clamp (by omega)
    have l61 := (tillR_ge (s := s) 61 0 (seat1 H s c) (by omega)).2
    have lk : sitL H s (d + 1) c o = sitL H s d (c + 1) (sitN H s c o) := rfl
    rw [lk] at K
    have es := (F.2.2.1 s hs6).1
    have v36 := (V.2.2.1 s hs6).1
    refine Okbd (r_isFree V F hc36) (fun f => ?_) (fun f => ?_)
    · have cnd : freeS H c = true ∨ c = aSt H s := Or.inl f
      unfold f_X7_sit_b98 f_X7_sit_b126
      refine Okg v6 (Okl ?_)
      rw [cs]
      have V1 := seat1_V (s := s) V hc36
      refine K_offIn (s := s) V V1 hs6 ht (seat1_R F) QH ?_
      intro _ _ _ _ _ _ _ _ _ _ _ _ _ _ _ _ _ _ _ F3 Q3
      cases o with
      | none =>
        have nn : ¬ nI (tillR s 61 0 (seat1 H s c)) ≤ (-1 : Int32) := fun z => absurd (Int32.le_iff_toInt_le.mp z) (by rw [nI_toInt (by omega), show (-1 : Int32).toInt = -1 from rfl]; omega)
        refine Okn nn (Okn nn (Okl ?_))
        rw [show nI c + (1 : Int32) = nI (c + 1) from nI_1 c]
        have st : sitN H s c none = some (c, tillR s 61 0 (seat1 H s c)) := if_pos cnd
        rw [st] at K
        exact lr_sit hs6 V ht d (c + 1) m (some (c, tillR s 61 0 (seat1 H s c))) _ _ _ _ _ _ _ _ _ _ _ _ _ _ _ _ _ _ _ _ _ _ (by omega) (by omega) (fun p e => by cases e; exact l61) F3 Q3 K
      | some p =>
        have hp := I p rfl
        by_cases y : tillR s 61 0 (seat1 H s c) ≤ p.2
        · have nn : nI (tillR s 61 0 (seat1 H s c)) ≤ nI p.2 := nI_le y (by omega)
          refine Okp nn (Okp nn (Okl ?_))
          rw [show nI c + (1 : Int32) = nI (c + 1) from nI_1 c]
          have st : sitN H s c (some p) = some p := (if_pos cnd).trans (if_pos y)
          rw [st] at K
          exact lr_sit hs6 V ht d (c + 1) m (some p) _ _ _ _ _ _ _ _ _ _ _ _ _ _ _ _ _ _ _ _ _ _ (by omega) (by omega) I F3 Q3 K
        · have nn : ¬ nI (tillR s 61 0 (seat1 H s c)) ≤ nI p.2 := nI_ge (by omega) (by omega)
          refine Okn nn (Okn nn (Okl ?_))
          rw [show nI c + (1 : Int32) = nI (c + 1) from nI_1 c]
          have st : sitN H s c (some p) = some (c, tillR s 61 0 (seat1 H s c)) := (if_pos cnd).trans (if_neg y)
          rw [st] at K
          exact lr_sit hs6 V ht d (c + 1) m (some (c, tillR s 61 0 (seat1 H s c))) _ _ _ _ _ _ _ _ _ _ _ _ _ _ _ _ _ _ _ _ _ _ (by omega) (by omega) (fun p e => by cases e; exact l61) F3 Q3 K
    · refine Okg v6 ?_
      rw [cs, es]
      by_cases w : c = aSt H s
      · refine Okp (by rw [w]) ?_
        have cnd : freeS H c = true ∨ c = aSt H s := Or.inr w
        unfold f_X7_sit_b98 f_X7_sit_b126
        refine Okg v6 (Okl ?_)
        rw [cs]
        have V1 := seat1_V (s := s) V hc36
        refine K_offIn (s := s) V V1 hs6 ht (seat1_R F) QH ?_
        intro _ _ _ _ _ _ _ _ _ _ _ _ _ _ _ _ _ _ _ F3 Q3
        cases o with
        | none =>
          have nn : ¬ nI (tillR s 61 0 (seat1 H s c)) ≤ (-1 : Int32) := fun z => absurd (Int32.le_iff_toInt_le.mp z) (by rw [nI_toInt (by omega), show (-1 : Int32).toInt = -1 from rfl]; omega)
          refine Okn nn (Okn nn (Okl ?_))
          rw [show nI c + (1 : Int32) = nI (c + 1) from nI_1 c]
          have st : sitN H s c none = some (c, tillR s 61 0 (seat1 H s c)) := if_pos cnd
          rw [st] at K
          exact lr_sit hs6 V ht d (c + 1) m (some (c, tillR s 61 0 (seat1 H s c))) _ _ _ _ _ _ _ _ _ _ _ _ _ _ _ _ _ _ _ _ _ _ (by omega) (by omega) (fun p e => by cases e; exact l61) F3 Q3 K
        | some p =>
          have hp := I p rfl
          by_cases y : tillR s 61 0 (seat1 H s c) ≤ p.2
          · have nn : nI (tillR s 61 0 (seat1 H s c)) ≤ nI p.2 := nI_le y (by omega)
            refine Okp nn (Okp nn (Okl ?_))
            rw [show nI c + (1 : Int32) = nI (c + 1) from nI_1 c]
            have st : sitN H s c (some p) = some p := (if_pos cnd).trans (if_pos y)
            rw [st] at K
            exact lr_sit hs6 V ht d (c + 1) m (some p) _ _ _ _ _ _ _ _ _ _ _ _ _ _ _ _ _ _ _ _ _ _ (by omega) (by omega) I F3 Q3 K
          · have nn : ¬ nI (tillR s 61 0 (seat1 H s c)) ≤ nI p.2 := nI_ge (by omega) (by omega)
            refine Okn nn (Okn nn (Okl ?_))
            rw [show nI c + (1 : Int32) = nI (c + 1) from nI_1 c]
            have st : sitN H s c (some p) = some (c, tillR s 61 0 (seat1 H s c)) := (if_pos cnd).trans (if_neg y)
            rw [st] at K
            exact lr_sit hs6 V ht d (c + 1) m (some (c, tillR s 61 0 (seat1 H s c))) _ _ _ _ _ _ _ _ _ _ _ _ _ _ _ _ _ _ _ _ _ _ (by omega) (by omega) (fun p e => by cases e; exact l61) F3 Q3 K
      · refine Okn (fun z => w ((nI_eq (by omega) (by omega)).mp z)) (Okl ?_)
        rw [show nI c + (1 : Int32) = nI (c + 1) from nI_1 c]
        have st : sitN H s c o = o := if_neg (fun z => z.elim (fun y => by rw [f] at y; cases y) w)
        rw [st] at K
        exact lr_sit hs6 V ht d (c + 1) m o _ _ _ _ _ _ _ _ _ _ _ _ _ _ _ _ _ _ _ _ _ _ (by omega) (by omega) I F QH K
theorem s_sit {s : S6} {t : S7} (a b : Nat → Nat) (R : Rel s t) (n0 : Int32) (n1 : Int32) : Sim (F6_sit s n0 n1) (F7_sit t b n0 n1) := by
  refine Rel_o (C := fun s t => Sim (F6_sit s n0 n1) (F7_sit t b n0 n1)) R ?_
  intro H P pc pn I L T g_hasImage g_n_warmth g_n_kind g_n_figure g_n_airCell g_n_way g_n_seat g_n_shawls g_n_steps g_n_numbers g_m_shutBits g_m_airs g_m_crownedBits g_m_sitters g_m_onBits g_m_turn g_m_taken g_m_warmth g_m_kind g_m_figure g_m_airCell g_m_way g_m_seat g_m_shawls g_m_count g_m_steps g_m_numbers g_i_shutBits g_i_airs g_i_crownedBits g_i_sitters g_i_onBits g_i_turn g_i_taken g_i_warmth g_i_kind g_i_figure g_i_airCell g_i_way g_i_seat g_i_shawls g_i_count g_i_steps g_i_numbers g_text_letters g_coats_sorts g_coats_sizes g_places g_coats_carried g_told g_refused g_oneHas g_otherHas g_k_shutBits g_k_airs g_k_crownedBits g_k_sitters g_k_onBits g_k_turn g_k_taken g_k_warmth g_k_kind g_k_figure g_k_airCell g_k_way g_k_seat g_k_shawls g_k_count g_k_steps g_k_numbers r_thrown r_at0 r_isBad r_statements r_stepsMany r_hasImage r_place0 r_isTaking r_keptIn r_seed r_warms r_shutAt r_kinds0 r_figures r_airAt r_ways r_crowned r_sitsAt r_shawls r_isOn r_stepOf r_stepBy r_refusals r_letters r_placeIn r_letterOf r_numbers r_stepsRead r_stepsBy r_kept r_keptWarms r_i_imaged r_imagedWarms r_turns0 r_turnWarms0 r_turnOf r_turnWarms r_row0 r_gains r_pegSort r_pegMany r_pegHolds r_coats r_coatsMoved hE hF hg hpc hpn hK hQ hPg hI hL hT hTl hO hR hG
  show Sim (F6_sit _ n0 n1) (F7_sit _ b n0 n1)
  rw [F6_sit_b, F7_sit_b]
  refine sim_o ?_
  unfold f_X6_sit f_X7_sit f_X7_sit_b23
  have hV := hg.1
  obtain ⟨hA5, hS6, hH6, hT20, hK9⟩ := hV.1
  by_cases q : ixB n0 (aS H) = true
  · obtain ⟨s, hs, rfl⟩ := ixB_t q
    by_cases q1 : ixB n1 2 = true
    · obtain ⟨j, hj, hn1⟩ := ixB_t q1
      have b0 : ¬ n1 < 0 := by rw [hn1]; exact nI_pos (by omega)
      have b1 : n1 ≤ 1 := by rw [hn1]; exact nI_le (b := 1) (by omega) (by omega)
      have hv : vp_in (nI s) 6 := vp_in_nI (by omega) (by omega)
      have hcl : (nI s).toNatClampNeg = s := nI_clamp (by omega)
      have eo := (hF.2.2.1 s hs).2.2
      have ci : f_X2_isOn (nI (bN (aOn H) (aS H))) (nI s) = some (nB (aOn H s)) := c_isO hV hE hs
      by_cases o : aOn H s = true
      · refine Okt (c_isSitter _ (by omega)) q (Okn b0 (Okp b1 (Okt ci o ?_)))
        refine lc_sit hs hV hg.2.2 hE 36 0 4096 none _ _ _ _ _ _ _ _ _ _ _ _ _ _ _ _ _ (by omega) (by omega) (fun p e => by cases e) ?_
        intro _ _ _ _ _ _ _ _ _ _ _ _ _ _ _ _ _
        refine Okt (r_isSitter _ (by omega)) q (Okt (in_ix 2 (by decide)) q1 (Okg hv (Okn (by rw [hcl, eo]; exact fun z => nB_0.mp z o) ?_)))
        refine K_think hV hF ?_
        intro _ _ _ _ _ _ _ _ _ _ _ _ _ _ F1 Q1
        refine lr_sit hs hV hg.2.2 36 0 4096 none _ _ _ _ _ _ _ _ _ _ _ _ _ _ _ _ _ _ _ _ _ _ (by omega) (by omega) (fun p e => by cases e) F1 Q1 ?_
        intro _ _ _ _ _ _ _ _ _ _ _ _ _ _ _ _ _ _ _ _ _ _ F3 Q3
        have sm := sitL_some (h := H) (s := s) 36 0 none (Or.inr ⟨by omega, by have := (hV.2.2.1 s hs).1; omega⟩)
        have e9 : sB (-1) (sitL H s 36 0 none) = sB (-9) (sitL H s 36 0 none) := by
          cases z : sitL H s 36 0 none with
          | none =>
            rw [z] at sm
            cases sm
          | some p => rfl
        exact ⟨(by show (if n1 = 0 then _ else _) = (if n1 = 0 then _ else _); rw [e9]), Rel_i H P pc pn I L T ⟨hE, F3, hg, rfl⟩ ⟨⟨hpc, hpn, rfl, rfl, rfl⟩, hK, hQ, hPg⟩ hI ⟨hL, rfl, rfl, hT⟩ ⟨hTl, rfl, rfl, hO⟩ hR hG⟩
      · refine Okt (c_isSitter _ (by omega)) q (Okn b0 (Okp b1 (Okf ci o (Ok2 (c_refuse 3 (by omega) (by omega) _ (by decide)) (Okv ?_)))))
        refine Okt (r_isSitter _ (by omega)) q (Okt (in_ix 2 (by decide)) q1 (Okg hv (Okp (by rw [hcl, eo]; exact nB_0.mpr o) (Ok2 (r_refuse 3 (by omega) (by omega) _ (by decide)) (Okv ?_)))))
        exact ⟨rfl, Rel_i H P pc pn I L T ⟨hE, hF, hg, rfl⟩ ⟨⟨hpc, hpn, rfl, rfl, rfl⟩, hK, hQ, hPg⟩ hI ⟨hL, rfl, rfl, hT⟩ ⟨hTl, rfl, rfl, hO⟩ (pRef_u hR) hG⟩
    · rcases ix2 (by omega) q1 with w | ⟨w, w2⟩
      · refine Okt (c_isSitter _ (by omega)) q (Okp w (Ok2 (c_refuse 2 (by omega) (by omega) _ (by decide)) (Okv ?_)))
        refine Okt (r_isSitter _ (by omega)) q (Okf (in_ix 2 (by decide)) q1 (Okt (r_isSitter _ (by omega)) q (Ok2 (r_refuse 2 (by omega) (by omega) _ (by decide)) (Okv ?_))))
        exact ⟨rfl, Rel_i H P pc pn I L T ⟨hE, hF, hg, rfl⟩ ⟨⟨hpc, hpn, rfl, rfl, rfl⟩, hK, hQ, hPg⟩ hI ⟨hL, rfl, rfl, hT⟩ ⟨hTl, rfl, rfl, hO⟩ (pRef_u hR) hG⟩
      · refine Okt (c_isSitter _ (by omega)) q (Okn w (Okn (fun z => absurd (Int32.le_iff_toInt_le.mp (Int32.le_trans w2 z)) (by decide)) (Ok2 (c_refuse 2 (by omega) (by omega) _ (by decide)) (Okv ?_))))
        refine Okt (r_isSitter _ (by omega)) q (Okf (in_ix 2 (by decide)) q1 (Okt (r_isSitter _ (by omega)) q (Ok2 (r_refuse 2 (by omega) (by omega) _ (by decide)) (Okv ?_))))
        exact ⟨rfl, Rel_i H P pc pn I L T ⟨hE, hF, hg, rfl⟩ ⟨⟨hpc, hpn, rfl, rfl, rfl⟩, hK, hQ, hPg⟩ hI ⟨hL, rfl, rfl, hT⟩ ⟨hTl, rfl, rfl, hO⟩ (pRef_u hR) hG⟩
  · refine Okf (c_isSitter _ (by omega)) q (Ok2 (c_refuse 1 (by omega) (by omega) _ (by decide)) (Okv ?_))
    refine Okf (r_isSitter _ (by omega)) q (Okf (r_isSitter _ (by omega)) q (Ok2 (r_refuse 1 (by omega) (by omega) _ (by decide)) (Okv ?_)))
    exact ⟨rfl, Rel_i H P pc pn I L T ⟨hE, hF, hg, rfl⟩ ⟨⟨hpc, hpn, rfl, rfl, rfl⟩, hK, hQ, hPg⟩ hI ⟨hL, rfl, rfl, hT⟩ ⟨hTl, rfl, rfl, hO⟩ (pRef_u hR) hG⟩
