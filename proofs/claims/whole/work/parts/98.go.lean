/-! a turn: the hearth, the airs, who is too cold -/
def beginS (h : AH) : AH := ((aA h, aS h, aHc h, aTn h + 1, aTk h), h.2.1, h.2.2.1, h.2.2.2.1, (aSd h, fun c => warmF (aHc h) (aHs h) (aHn h) (aWm h c)))
def coldS (h : AH) (s : Nat) : Bool := decide (¬ 0 ≤ Op.cmpValue (FP.fcmp (aWm h (aSt h s)) (FP.i2f (8 - nI (aSh h s)))) .g)
def freezeS (h : AH) : AH := setSit h (aTk h) (aSh h) (fun s => aOn h s && !coldS h s)
def blowsS : Nat → AH → AH
  | 0, h => h
  | k + 1, h => blowS (blowsS k h) k
def turnS (h : AH) : AH := freezeS (blowsS (aA h) (beginS h))
def stillS (h : AH) : AH := freezeS (beginS h)
def goS : Nat → AH → AH
  | 0, h => h
  | n + 1, h => goS n (turnS h)
theorem beginS_V {h : AH} (V : aV h) (ht : aTn h + 1 < 2 ^ 20) : aV (beginS h) := by
  obtain ⟨v1, v2, v3, v4, v5⟩ := V
  exact ⟨⟨v1.1, v1.2.1, v1.2.2.1, ht, v1.2.2.2.2⟩, v2, v3, v4, fun c hc => warmF_H ((v5 c hc).b.mono (by omega)) v1.2.2.1 v4⟩
theorem freezeS_V {h : AH} (V : aV h) : aV (freezeS h) := V
theorem blowS_tn (h : AH) (a : Nat) : aTn (blowS h a) = aTn h := by
  have l1 : ∀ (h h' : AH), leapOnce h a = some h' → aTn h' = aTn h := by
    intro h h' q
    unfold leapOnce at q
    split at q
    · cases q
    · split at q
      · cases q
      · cases q
        rfl
  have l2 : ∀ (n : Nat) (h : AH), aTn (leapsIter a n h).2 = aTn h := by
    intro n
    induction n with
    | zero => intro h; rfl
    | succ n ih =>
      intro h
      unfold leapsIter
      cases q : leapOnce h a with
      | none => rfl
      | some h' => exact (ih h').trans (l1 h h' q)
  have l3 : ∀ h : AH, aTn (walkS h a) = aTn h := by
    intro h
    unfold walkS
    split
    · rfl
    · split
      · rfl
      · rfl
  have l4 : ∀ h : AH, aTn (crownS h a) = aTn h := by
    intro h
    unfold crownS
    split <;> rfl
  unfold blowS
  rw [l4]
  split
  · rw [l3, l2]
  · rw [l2]
theorem blowsS_V {h : AH} (V : aV h) : ∀ k : Nat, k ≤ aA h → aV (blowsS k h) ∧ aA (blowsS k h) = aA h ∧ aS (blowsS k h) = aS h ∧ aTn (blowsS k h) = aTn h
  | 0, _ => ⟨V, rfl, rfl, rfl⟩
  | k + 1, hk => by
    obtain ⟨g1, g2, g3, g4⟩ := blowsS_V V k (by omega)
    obtain ⟨k1, k2, k3⟩ := blowS_V g1 (a := k) (by omega)
    exact ⟨k1, k2.trans g2, k3.trans g3, (blowS_tn _ _).trans g4⟩
theorem turnS_V {h : AH} (V : aV h) (ht : aTn h + 1 < 2 ^ 20) : aV (turnS h) ∧ aA (turnS h) = aA h ∧ aS (turnS h) = aS h ∧ aTn (turnS h) = aTn h + 1 := by
  obtain ⟨g1, g2, g3, g4⟩ := blowsS_V (beginS_V V ht) (aA h) (Nat.le_refl _)
  exact ⟨freezeS_V g1, g2, g3, g4⟩
theorem goS_V : ∀ (n : Nat) {h : AH}, aV h → aTn h + n < 2 ^ 20 → aV (goS n h) ∧ aA (goS n h) = aA h ∧ aS (goS n h) = aS h ∧ aTn (goS n h) = aTn h + n
  | 0, h, V, _ => ⟨V, rfl, rfl, rfl⟩
  | n + 1, h, V, ht => by
    obtain ⟨g1, g2, g3, g4⟩ := turnS_V V (by omega)
    obtain ⟨k1, k2, k3, k4⟩ := goS_V n g1 (by omega)
    exact ⟨k1, k2.trans g2, k3.trans g3, by rw [show goS (n + 1) h = goS n (turnS h) from rfl, k4, g4]; omega⟩
section PU
variable {h : AH} {sb : Int64} {ai cb si ob tn tk hc : Int32} {wm : Nat → UInt32} {ki fi ac wy se sl hs hn : Nat → Int32}
theorem c_begin_loop (V : aV h) (he : ∀ i, i < aHc h → hs i = nI (aHs h i) ∧ hn i = nI (aHn h i)) (x1 : Int32) : ∀ (d k m : Nat) (w : Nat → UInt32), k + d = 36 → d < m → (∀ c, c < 36 → w c = if c < k then warmF (aHc h) (aHs h) (aHn h) (aWm h c) else aWm h c) → ∃ w' : Nat → UInt32, f_X2_begin_b22 (nI (aHc h)) hs hn x1 m (nI k) w = some (x1, w') ∧ ∀ c, c < 36 → w' c = warmF (aHc h) (aHs h) (aHn h) (aWm h c)
  | d, k, 0, _, _, q, _ => absurd q (by omega)
  | 0, k, m + 1, w, hk, _, hw => by
    have : k = 36 := by omega
    subst this
    refine ⟨w, ?_, fun c hc => by rw [hw c hc, if_pos hc]⟩
    unfold f_X2_begin_b22
    rw [dq_if_pos (by decide)]
  | d + 1, k, m + 1, w, hk, hm, hw => by
    have hkl : k < 36 := by omega
    have hi : vp_in (nI k) 36 := vp_in_nI hkl (by omega)
    have e0 : w k = aWm h k := by rw [hw k hkl, if_neg (by omega)]
    unfold f_X2_begin_b22
    rw [show (36 : Int32) = nI 36 from rfl, dq_if_neg (nI_ge hkl (by omega)), dq_gd_pos hi, nI_clamp (by omega), e0, dq_bd_s (warmed_ok ((V.2.2.2.2 k hkl).b.mono (by omega)) V.1.2.2.1 V.2.2.2.1 he), dq_gd_pos hi]
    simp only [dq_let]
    rw [show nI k + (1 : Int32) = nI (k + 1) from nI_1 k]
    refine c_begin_loop V he x1 d (k + 1) m _ (by omega) (by omega) (fun c hc => ?_)
    by_cases q : c = k
    · subst q
      rw [vf_s, if_pos (by omega)]
    · rw [vf_n q, hw c hc]
      by_cases q2 : c < k
      · rw [if_pos q2, if_pos (by omega)]
      · rw [if_neg q2, if_neg (by omega)]
theorem c_begin (V : aV h) (E : HC h sb ai cb si ob tn tk wm ki fi ac wy se sl hc hs hn) : ∃ wm' : Nat → UInt32, f_X2_begin tn wm hc hs hn = some (nI (aTn h + 1), wm') ∧ HC (beginS h) sb ai cb si ob (nI (aTn h + 1)) tk wm' ki fi ac wy se sl hc hs hn := by
  have key : ∃ wm' : Nat → UInt32, f_X2_begin tn wm hc hs hn = some (nI (aTn h + 1), wm') ∧ ∀ c, c < 36 → wm' c = warmF (aHc h) (aHs h) (aHn h) (aWm h c) := by
    unfold f_X2_begin
    rw [E.1.2.2.2.1, E.1.2.2.1]
    simp only [dq_let]
    rw [show nI (aTn h) + (1 : Int32) = nI (aTn h + 1) from nI_1 _]
    have hc6 := V.1.2.2.1
    by_cases q : aHc h = 0
    · refine ⟨wm, ?_, fun c hc => ?_⟩
      · rw [dq_if_pos (by rw [q, nI_0]; decide)]
      · rw [q, E.2.2.2.2.2 c hc]
        exact (heldF_id (V.2.2.2.2 c hc)).symm
    · rw [dq_if_neg (nI_nle (by omega) (by omega)), show (0 : Int32) = nI 0 from nI_0.symm]
      exact c_begin_loop V E.2.2.2.2.1 _ 36 0 4096 wm (by omega) (by omega) (fun c hc => by rw [if_neg (by omega)]; exact E.2.2.2.2.2 c hc)
  obtain ⟨wm', f1, f2⟩ := key
  exact ⟨wm', f1, ⟨⟨E.1.1, E.1.2.1, E.1.2.2.1, rfl, E.1.2.2.2.2⟩, E.2.1, E.2.2.1, E.2.2.2.1, E.2.2.2.2.1, f2⟩⟩
theorem c_freeze_loop (V : aV h) (E : HC h sb ai cb si ob tn tk wm ki fi ac wy se sl hc hs hn) : ∀ (d k m : Nat) (p : Nat → Bool), k + d = aS h → d < m → (∀ i, i < aS h → p i = if i < k then aOn h i && !coldS h i else aOn h i) → f_X2_freeze_b2 (nI (aS h)) wm se sl m (nI k) (nI (bN p (aS h))) = some (nI (bN (fun s => aOn h s && !coldS h s) (aS h)))
  | d, k, 0, _, _, q, _ => absurd q (by omega)
  | 0, k, m + 1, p, hk, _, hp => by
    have hS := V.1.2.1
    have : k = aS h := by omega
    unfold f_X2_freeze_b2
    rw [dq_if_pos (nI_le (by omega) (by omega))]
    rw [bN_ext (fun i hi => by rw [hp i hi, if_pos (by omega)])]
  | d + 1, k, m + 1, p, hk, hm, hp => by
    have hS := V.1.2.1
    have hkl : k < aS h := by omega
    have hi6 : vp_in (nI k) 6 := vp_in_nI (by omega) (by omega)
    obtain ⟨e1, e2⟩ := E.2.2.2.1 k hkl
    obtain ⟨v1, v2⟩ := V.2.2.1 k hkl
    have pk : p k = aOn h k := by rw [hp k hkl, if_neg (by omega)]
    unfold f_X2_freeze_b2
    rw [dq_if_neg (nI_ge hkl (by omega))]
    have go : ∀ p' : Nat → Bool, p' k = (aOn h k && !coldS h k) → (∀ i, i ≠ k → p' i = p i) → f_X2_freeze_b2 (nI (aS h)) wm se sl m (nI k + 1) (nI (bN p' (aS h))) = some (nI (bN (fun s => aOn h s && !coldS h s) (aS h))) := by
      intro p' h1 h2
      rw [show nI k + (1 : Int32) = nI (k + 1) from nI_1 k]
      refine c_freeze_loop V E d (k + 1) m p' (by omega) (by omega) (fun i hi => ?_)
      by_cases q : i = k
      · subst q
        rw [h1, if_pos (by omega)]
      · rw [h2 i q, hp i hi]
        by_cases q2 : i < k
        · rw [if_pos q2, if_pos (by omega)]
        · rw [if_neg q2, if_neg (by omega)]
    have hon : f_X2_isOn (nI (bN p (aS h))) (nI k) = some (if aOn h k = true then 1 else 0) := by
      unfold f_X2_isOn
      rw [← pk]
      by_cases q : p k = true
      · rw [dq_if_pos ((bits_get hS hkl).mpr q), if_pos q]
      · rw [dq_if_neg (fun z => q ((bits_get hS hkl).mp z)), if_neg q]
    rw [dq_bd_s hon]
    by_cases q : aOn h k = true
    · rw [if_pos q, dq_if_neg (by decide), dq_gd_pos hi6, nI_clamp (by omega), e1, dq_gd_pos (vp_in_nI v1 (by omega)), dq_gd_pos hi6, nI_clamp (by omega), e2, E.2.2.2.2.2 _ v1]
      by_cases z : 0 ≤ Op.cmpValue (FP.fcmp (aWm h (aSt h k)) (FP.i2f (8 - nI (aSh h k)))) .g
      · rw [dq_if_pos z]
        refine go p ?_ (fun _ _ => rfl)
        rw [pk, q]
        simp [coldS, z]
      · rw [dq_if_neg z]
        simp only [dq_let]
        rw [bits_clr hS hkl]
        refine go (up p k false) ?_ (fun i hi => up_n hi)
        rw [up_s, q]
        simp [coldS, z]
    · rw [if_neg q, dq_if_pos rfl]
      refine go p ?_ (fun _ _ => rfl)
      rw [pk]
      simp only [Bool.not_eq_true] at q
      rw [q]
      rfl
theorem c_freeze (V : aV h) (E : HC h sb ai cb si ob tn tk wm ki fi ac wy se sl hc hs hn) : ∃ ob' : Int32, f_X2_freeze si ob wm se sl = some ob' ∧ HC (freezeS h) sb ai cb si ob' tn tk wm ki fi ac wy se sl hc hs hn := by
  refine ⟨nI (bN (fun s => aOn h s && !coldS h s) (aS h)), ?_, ⟨E.1, ⟨E.2.1.1, rfl, E.2.1.2.2⟩, E.2.2⟩⟩
  unfold f_X2_freeze
  rw [E.1.2.1, E.2.1.2.1, show (0 : Int32) = nI 0 from nI_0.symm]
  exact c_freeze_loop V E (aS h) 0 4096 (aOn h) (by omega) (by have := V.1.2.1; omega) (fun i hi => by rw [if_neg (by omega)])
theorem c_still (V : aV h) (ht : aTn h + 1 < 2 ^ 20) (E : HC h sb ai cb si ob tn tk wm ki fi ac wy se sl hc hs hn) : ∃ (ob' tn' : Int32) (wm' : Nat → UInt32), f_X2_goOnStill si ob tn wm se sl hc hs hn = some (ob', tn', wm') ∧ HC (stillS h) sb ai cb si ob' tn' tk wm' ki fi ac wy se sl hc hs hn := by
  obtain ⟨wm1, f1, E1⟩ := c_begin V E
  obtain ⟨ob2, f2, E2⟩ := c_freeze (beginS_V V ht) E1
  refine ⟨ob2, _, wm1, ?_, E2⟩
  unfold f_X2_goOnStill
  rw [f1]
  simp only [dq_bd2, Option.bind_some]
  rw [dq_bd_s f2]
end PU
