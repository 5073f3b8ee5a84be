/-! the class's blow, freeze, begin, goOn -/
section PT
variable {sb : Int64} {ai cb si tn hc : Int32} {ki fi se hs hn : Nat → Int32}
theorem c_leaps_loop {a most : Nat} (hm30 : most ≤ 30) : ∀ (d k m : Nat) (h : AH) (ob tk : Int32) (wm : Nat → UInt32) (ac wy sl : Nat → Int32), aV h → HC h sb ai cb si ob tn tk wm ki fi ac wy se sl hc hs hn → a < aA h → k + d = most → d < m → ∃ (ob' tk' : Int32) (wm' : Nat → UInt32) (ac' wy' sl' : Nat → Int32), aV (leapsIter a d h).2 ∧ a < aA (leapsIter a d h).2 ∧ HC (leapsIter a d h).2 sb ai cb si ob' tn tk' wm' ki fi ac' wy' se sl' hc hs hn ∧ f_X2_blow_b21 (nI a) sb ai cb si tn ki fi se (nI most) m (nI k) (nI k) ob tk wm ac wy sl = f_X2_blow_b88 (nI a) sb ai cb si tn ki fi se (nI (k + (leapsIter a d h).1)) ob' tk' wm' ac' wy' sl'
  | d, k, 0, _, _, _, _, _, _, _, _, _, _, _, q => absurd q (by omega)
  | 0, k, m + 1, h, ob, tk, wm, ac, wy, sl, V, E, ha, hk, _ => by
    have : k = most := by omega
    subst this
    refine ⟨ob, tk, wm, ac, wy, sl, V, ha, E, ?_⟩
    conv => lhs; unfold f_X2_blow_b21
    rw [dq_if_pos (nI_le (Nat.le_refl _) (by omega))]
    rfl
  | d + 1, k, m + 1, h, ob, tk, wm, ac, wy, sl, V, E, ha, hk, hm => by
    have hkl : k < most := by omega
    have hA := V.1.1
    have hi5 : vp_in (nI a) 5 := vp_in_nI (by omega) (by omega)
    conv => enter [1, ob', 1, tk', 1, wm', 1, ac', 1, wy', 1, sl', 2, 2, 2, 1]; unfold f_X2_blow_b21
    rw [dq_if_neg (nI_ge hkl (by omega)), dq_bd_s (c_wayToLeap V E ha)]
    cases hw : leapWay h a with
    | none =>
      have hi : leapsIter a (d + 1) h = (0, h) := by
        show (match leapOnce h a with | none => (0, h) | some h' => ((leapsIter a d h').1 + 1, (leapsIter a d h').2)) = (0, h)
        unfold leapOnce
        rw [hw]
      rw [hi]
      simp only [eW]
      rw [dq_if_neg nI_m1_ge]
      exact ⟨ob, tk, wm, ac, wy, sl, V, ha, E, rfl⟩
    | some w =>
      simp only [eW]
      have hwl := wayOf_lt h a w
      have hsome : (leapTo h (aAc h a) (wayOf h a w)).isSome = true := (fM_some.mp hw).2.1
      obtain ⟨⟨s, b⟩, hlt⟩ := Option.isSome_iff_exists.mp hsome
      obtain ⟨o, n1, n2, s1, s2, o3, b3⟩ := leapTo_spec V (V.2.1 a ha).2.2.1 hlt
      obtain ⟨e1, e2, e3, e4⟩ := E.2.2.1 a ha
      rw [dq_if_pos (nI_pos' (by omega)), dq_gd_pos hi5, nI_clamp (by omega), e3, dq_bd_s (nextCell_ok (V.2.1 a ha).2.2.1 hwl), n1]
      simp only [eN]
      rw [dq_bd_s (c_sitterOn V E o3), s1]
      simp only [eN]
      obtain ⟨ob1, tk1, sl1, f1, E1⟩ := c_leapOver V E s2
      have V1 := leapOverS_V V (s := s)
      have ha1 : a < aA (leapOverS h s) := ha
      obtain ⟨wm2, ac2, wy2, f2, E2⟩ := c_arrive V1 E1 ha1 b3 hwl
      have V2 := arriveS_V V1 b3 hwl ha1
      rw [f1]
      simp only [dq_bd3, Option.bind_some]
      rw [dq_bd_s (nextCell_ok o3 hwl), n2]
      simp only [eN]
      rw [f2]
      simp only [Option.bind_some, dq_let]
      rw [show nI k + (1 : Int32) = nI (k + 1) from nI_1 k]
      obtain ⟨ob', tk', wm', ac', wy', sl', g1, g2, g3, g4⟩ := c_leaps_loop hm30 d (k + 1) m _ ob1 tk1 wm2 ac2 wy2 sl1 V2 E2 (show a < aA (arriveS (leapOverS h s) a b (wayOf h a w)) from ha) (by omega) (by omega)
      have hi : leapsIter a (d + 1) h = ((leapsIter a d (arriveS (leapOverS h s) a b (wayOf h a w))).1 + 1, (leapsIter a d (arriveS (leapOverS h s) a b (wayOf h a w))).2) := by
        show (match leapOnce h a with | none => (0, h) | some h' => ((leapsIter a d h').1 + 1, (leapsIter a d h').2)) = _
        unfold leapOnce
        rw [hw]
        simp only
        rw [hlt]
      rw [hi]
      refine ⟨ob', tk', wm', ac', wy', sl', g1, g2, g3, ?_⟩
      rw [g4]
      rw [show k + 1 + (leapsIter a d (arriveS (leapOverS h s) a b (wayOf h a w))).1 = k + ((leapsIter a d (arriveS (leapOverS h s) a b (wayOf h a w))).1 + 1) by omega]
end PT
