/-! what an air does in a turn -/
def setAir (h : AH) (ac wy : Nat → Nat) (wm : Nat → UInt32) : AH := (h.1, (aKd h, aFg h, ac, wy, aCr h), h.2.2.1, h.2.2.2.1, (aSd h, wm))
def setSit (h : AH) (tk : Nat) (sh : Nat → Nat) (on : Nat → Bool) : AH := ((aA h, aS h, aHc h, aTn h, tk), h.2.1, (aSt h, sh, on), h.2.2.2.1, h.2.2.2.2)
def setCr (h : AH) (cr : Nat → Bool) : AH := (h.1, (aKd h, aFg h, aAc h, aWy h, cr), h.2.2)
def arriveS (h : AH) (a c w : Nat) : AH := setAir h (up (aAc h) a c) (up (aWy h) a w) (up (aWm h) c (heldF (chillF (aKd h a) (aFg h a) (aTn h) (aWm h c))))
def leapOverS (h : AH) (s : Nat) : AH := setSit h (min (aTk h + 1) 9999) (if 0 < aSh h s then up (aSh h) s (aSh h s - 1) else aSh h) (if 0 < aSh h s then aOn h else up (aOn h) s false)
theorem vf_s {f : Nat → UInt32} {k : Nat} {x : UInt32} : vf_upd f k x k = x := if_pos rfl
theorem vf_n {f : Nat → UInt32} {k j : Nat} {x : UInt32} (h : j ≠ k) : vf_upd f k x j = f j := if_neg h
theorem arriveS_V {h : AH} (V : aV h) {a c w : Nat} (hc : c < 36) (hw : w < 4) (ha : a < aA h) : aV (arriveS h a c w) := by
  obtain ⟨v1, v2, v3, v4, v5⟩ := V
  refine ⟨v1, fun i hi => ?_, v3, v4, fun d hd => ?_⟩
  · obtain ⟨g1, g2, g3, g4⟩ := v2 i hi
    refine ⟨g1, g2, ?_, ?_⟩
    · show up (aAc h) a c i < 36
      by_cases q : i = a
      · subst q; rw [up_s]; exact hc
      · rw [up_n q]; exact g3
    · show up (aWy h) a w i < 4
      by_cases q : i = a
      · subst q; rw [up_s]; exact hw
      · rw [up_n q]; exact g4
  · show fH (up (aWm h) c _ d)
    by_cases q : d = c
    · subst q
      rw [up_s]
      have g := v2 a ha
      exact heldF_H ((chill_ok (v5 d hd).b g.1 g.2.1 (by have := v1.2.2.2.1; omega)).2.nan (by omega))
    · rw [up_n q]; exact v5 d hd
theorem leapOverS_V {h : AH} (V : aV h) {s : Nat} : aV (leapOverS h s) := by
  obtain ⟨v1, v2, v3, v4, v5⟩ := V
  refine ⟨⟨v1.1, v1.2.1, v1.2.2.1, v1.2.2.2.1, Nat.min_le_right _ _⟩, v2, fun i hi => ⟨(v3 i hi).1, ?_⟩, v4, v5⟩
  show (if 0 < aSh h s then up (aSh h) s (aSh h s - 1) else aSh h) i ≤ 9
  have g := (v3 i hi).2
  split
  · by_cases q : i = s
    · subst q; rw [up_s]; omega
    · rw [up_n q]; exact g
  · exact g
section PB
variable {h : AH} {sb : Int64} {ai cb si ob tn tk hc : Int32} {wm : Nat → UInt32} {ki fi ac wy se sl hs hn : Nat → Int32}
theorem c_arrive (V : aV h) (E : HC h sb ai cb si ob tn tk wm ki fi ac wy se sl hc hs hn) {a c w : Nat} (ha : a < aA h) (hc36 : c < 36) (hw : w < 4) : ∃ (wm' : Nat → UInt32) (ac' wy' : Nat → Int32), f_X2_arrive tn wm ki fi ac wy (nI a) (nI c) (nI w) = some (wm', ac', wy') ∧ HC (arriveS h a c w) sb ai cb si ob tn tk wm' ki fi ac' wy' se sl hc hs hn := by
  have hA := V.1.1
  have hi5 : vp_in (nI a) 5 := vp_in_nI (by omega) (by omega)
  have hi36 : vp_in (nI c) 36 := vp_in_nI hc36 (by omega)
  obtain ⟨v1, v2, v3, v4⟩ := V.2.1 a ha
  obtain ⟨e1, e2, e3, e4⟩ := E.2.2.1 a ha
  have hch := (chill_ok (tn := aTn h) (V.2.2.2.2 c hc36).b v1 v2 (by have := V.1.2.2.2.1; omega)).1
  (apply Exists.intro; apply Exists.intro; apply Exists.intro; apply And.intro)
  · unfold f_X2_arrive
    rw [dq_if_neg (nI_pos (by omega)), show (36 : Int32) = nI 36 from rfl, dq_if_pos (nI_lt hc36 (by omega)), dq_gd_pos hi5]
    simp only [dq_let]
    rw [dq_gd_pos hi5, dq_gd_pos hi5, dq_gd_pos hi5, dq_gd_pos hi36, nI_clamp (by omega), nI_clamp (by omega), e1, e2, E.1.2.2.2.1, E.2.2.2.2.2 c hc36, dq_bd_s hch, dq_bd_s (heldF_ok _), dq_gd_pos hi36]
  · refine ⟨E.1, E.2.1, fun i hi => ?_, E.2.2.2.1, E.2.2.2.2.1, fun d hd => ?_⟩
    · obtain ⟨g1, g2, g3, g4⟩ := E.2.2.1 i hi
      refine ⟨g1, g2, ?_, ?_⟩
      · show upd ac a (nI c) i = nI (up (aAc h) a c i)
        by_cases q : i = a
        · subst q; rw [pk_us, up_s]
        · rw [pk_un q, up_n q]; exact g3
      · show upd wy a (nI w) i = nI (up (aWy h) a w i)
        by_cases q : i = a
        · subst q; rw [pk_us, up_s]
        · rw [pk_un q, up_n q]; exact g4
    · show vf_upd wm c _ d = up (aWm h) c _ d
      by_cases q : d = c
      · subst q; rw [vf_s, up_s]
      · rw [vf_n q, up_n q]; exact E.2.2.2.2.2 d hd
theorem c_leapOver (V : aV h) (E : HC h sb ai cb si ob tn tk wm ki fi ac wy se sl hc hs hn) {s : Nat} (hsl : s < aS h) : ∃ (ob' tk' : Int32) (sl' : Nat → Int32), f_X2_leapOver si ob tk sl (nI s) = some (ob', tk', sl') ∧ HC (leapOverS h s) sb ai cb si ob' tn tk' wm ki fi ac wy se sl' hc hs hn := by
  have hS := V.1.2.1
  have hi6 : vp_in (nI s) 6 := vp_in_nI (by omega) (by omega)
  obtain ⟨e1, e2⟩ := E.2.2.2.1 s hsl
  have v2 := (V.2.2.1 s hsl).2
  have htk := V.1.2.2.2.2
  have hmin : (if (9999 : Int32) < (tk + (1 : Int32)) then (9999 : Int32) else (tk + (1 : Int32))) = nI (min (aTk h + 1) 9999) := by
    rw [E.1.2.2.2.2, show nI (aTk h) + (1 : Int32) = nI (aTk h + 1) from nI_1 _, show (9999 : Int32) = nI 9999 from rfl]
    by_cases q : 9999 < aTk h + 1
    · rw [if_pos (nI_lt q (by omega)), Nat.min_eq_right (by omega)]
    · rw [if_neg (nI_nlt (by omega) (by omega)), Nat.min_eq_left (by omega)]
  by_cases q : 0 < aSh h s
  · (apply Exists.intro; apply Exists.intro; apply Exists.intro; apply And.intro)
    · unfold f_X2_leapOver
      rw [dq_if_neg (nI_pos (by omega)), E.1.2.1, dq_if_pos (nI_lt hsl (by omega)), hmin]
      simp only [dq_let]
      rw [dq_gd_pos hi6, nI_clamp (by omega), e2, dq_if_neg (nI_nle q (by omega)), dq_gd_pos hi6, dq_gd_pos hi6]
    · refine ⟨⟨E.1.1, E.1.2.1, E.1.2.2.1, E.1.2.2.2.1, rfl⟩, ⟨E.2.1.1, ?_, E.2.1.2.2⟩, E.2.2.1, fun i hi => ?_, E.2.2.2.2.1, E.2.2.2.2.2⟩
      · rw [E.2.1.2.1]
        show nI (bN (aOn h) (aS h)) = nI (bN (if 0 < aSh h s then aOn h else up (aOn h) s false) (aS h))
        rw [if_pos q]
      · obtain ⟨g1, g2⟩ := E.2.2.2.1 i hi
        refine ⟨g1, ?_⟩
        show upd sl s (nI (aSh h s) - 1) i = nI ((if 0 < aSh h s then up (aSh h) s (aSh h s - 1) else aSh h) i)
        rw [if_pos q]
        by_cases z : i = s
        · subst z
          rw [pk_us, up_s, show (1 : Int32) = nI 1 from rfl, pk_sub (by omega)]
        · rw [pk_un z, up_n z]; exact g2
  · (apply Exists.intro; apply Exists.intro; apply Exists.intro; apply And.intro)
    · unfold f_X2_leapOver
      rw [dq_if_neg (nI_pos (by omega)), E.1.2.1, dq_if_pos (nI_lt hsl (by omega)), hmin]
      simp only [dq_let]
      rw [dq_gd_pos hi6, nI_clamp (by omega), e2, dq_if_pos (by rw [show aSh h s = 0 by omega, nI_0]; decide), E.2.1.2.1, bits_clr hS hsl]
    · refine ⟨⟨E.1.1, E.1.2.1, E.1.2.2.1, E.1.2.2.2.1, rfl⟩, ⟨E.2.1.1, ?_, E.2.1.2.2⟩, E.2.2.1, fun i hi => ?_, E.2.2.2.2.1, E.2.2.2.2.2⟩
      · show nI (bN (up (aOn h) s false) (aS h)) = nI (bN (if 0 < aSh h s then aOn h else up (aOn h) s false) (aS h))
        rw [if_neg q]
      · obtain ⟨g1, g2⟩ := E.2.2.2.1 i hi
        refine ⟨g1, ?_⟩
        show sl i = nI ((if 0 < aSh h s then up (aSh h) s (aSh h s - 1) else aSh h) i)
        rw [if_neg q]
        exact g2
end PB
/-- one leap, if one goes -/
def leapOnce (h : AH) (a : Nat) : Option AH := match leapWay h a with
  | none => none
  | some k => match leapTo h (aAc h a) (wayOf h a k) with
    | none => none
    | some sb => some (arriveS (leapOverS h sb.1) a sb.2 (wayOf h a k))
/-- at most n leaps: how many, and the house then -/
def leapsIter (a : Nat) : Nat → AH → Nat × AH
  | 0, h => (0, h)
  | n + 1, h => match leapOnce h a with
    | none => (0, h)
    | some h' => ((leapsIter a n h').1 + 1, (leapsIter a n h').2)
def walkS (h : AH) (a : Nat) : AH := match walkWay h a with
  | none => setAir h (aAc h) (up (aWy h) a ((aWy h a + 2) % 4)) (aWm h)
  | some k => match walkTo h (aAc h a) (wayOf h a k) with
    | none => h
    | some n => arriveS h a n (wayOf h a k)
def crownS (h : AH) (a : Nat) : AH := if aAc h a / 6 = 0 ∨ aAc h a / 6 = 5 then setCr h (up (aCr h) a true) else h
def blowS (h : AH) (a : Nat) : AH := crownS (if (leapsIter a (leapsS (aKd h a) (aFg h a)) h).1 = 0 then walkS (leapsIter a (leapsS (aKd h a) (aFg h a)) h).2 a else (leapsIter a (leapsS (aKd h a) (aFg h a)) h).2) a
theorem leapTo_spec {h : AH} (V : aV h) {c w s b : Nat} (hc : c < 36) (q : leapTo h c w = some (s, b)) : ∃ o, nxt c w = some o ∧ nxt o w = some b ∧ sitAt h o = some s ∧ s < aS h ∧ o < 36 ∧ b < 36 := by
  unfold leapTo at q
  cases h1 : nxt c w with
  | none => rw [h1] at q; cases q
  | some o =>
    rw [h1] at q
    simp only at q
    cases h2 : nxt o w with
    | none => rw [h2] at q; cases q
    | some b' =>
      rw [h2] at q
      simp only at q
      cases h3 : sitAt h o with
      | none => rw [h3] at q; cases q
      | some s' =>
        rw [h3] at q
        simp only at q
        split at q
        · cases q
          have ho := nxt_lt h1 hc
          exact ⟨o, rfl, h2, h3, fM_lt h3, ho, nxt_lt h2 ho⟩
        · cases q
theorem walkTo_spec {h : AH} {c w n : Nat} (hc : c < 36) (q : walkTo h c w = some n) : nxt c w = some n ∧ n < 36 := by
  unfold walkTo at q
  cases h1 : nxt c w with
  | none => rw [h1] at q; cases q
  | some o =>
    rw [h1] at q
    simp only at q
    split at q
    · cases q
      exact ⟨rfl, nxt_lt h1 hc⟩
    · cases q
theorem leapOnce_V {h h' : AH} (V : aV h) {a : Nat} (ha : a < aA h) (q : leapOnce h a = some h') : aV h' ∧ aA h' = aA h ∧ aKd h' = aKd h ∧ aFg h' = aFg h := by
  unfold leapOnce at q
  cases h1 : leapWay h a with
  | none => rw [h1] at q; cases q
  | some k =>
    rw [h1] at q
    simp only at q
    cases h2 : leapTo h (aAc h a) (wayOf h a k) with
    | none => rw [h2] at q; cases q
    | some sb =>
      rw [h2] at q
      simp only at q
      cases q
      obtain ⟨o, -, -, -, -, -, hb⟩ := leapTo_spec V (V.2.1 a ha).2.2.1 (show leapTo h (aAc h a) (wayOf h a k) = some (sb.1, sb.2) from h2)
      exact ⟨arriveS_V (leapOverS_V V) hb (wayOf_lt _ _ _) ha, rfl, rfl, rfl⟩
