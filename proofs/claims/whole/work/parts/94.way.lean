/-! the class's house, in the abstract house's words -/
/-- the class's components hold the abstract house -/
def HC (h : AH) (sb : Int64) (ai cb si ob tn tk : Int32) (wm : Nat → UInt32) (ki fi ac wy se sl : Nat → Int32) (hc : Int32) (hs hn : Nat → Int32) : Prop :=
  (ai = nI (aA h) ∧ si = nI (aS h) ∧ hc = nI (aHc h) ∧ tn = nI (aTn h) ∧ tk = nI (aTk h)) ∧ (cb = nI (bN (aCr h) (aA h)) ∧ ob = nI (bN (aOn h) (aS h)) ∧ sb = lN (bN (aSd h) 36)) ∧
  (∀ i, i < aA h → ki i = nI (aKd h i) ∧ fi i = nI (aFg h i) ∧ ac i = nI (aAc h i) ∧ wy i = nI (aWy h i)) ∧ (∀ i, i < aS h → se i = nI (aSt h i) ∧ sl i = nI (aSh h i)) ∧ (∀ i, i < aHc h → hs i = nI (aHs h i) ∧ hn i = nI (aHn h i)) ∧ (∀ c, c < 36 → wm c = aWm h c)
section PW
variable {h : AH} {sb : Int64} {ai cb si ob tn tk hc : Int32} {wm : Nat → UInt32} {ki fi ac wy se sl hs hn : Nat → Int32}
theorem c_airOn (V : aV h) (E : HC h sb ai cb si ob tn tk wm ki fi ac wy se sl hc hs hn) {c : Nat} (hc36 : c < 36) : f_X2_airOn ai ac (nI c) = some (eN (-9) (airAt h c)) := by
  rw [E.1.1]
  exact airOn_ok V.1.1 (fun i hi => (E.2.2.1 i hi).2.2.1) (fun i hi => (V.2.1 i hi).2.2.1) hc36
theorem c_sitterOn (V : aV h) (E : HC h sb ai cb si ob tn tk wm ki fi ac wy se sl hc hs hn) {c : Nat} (hc36 : c < 36) : f_X2_sitterOn si ob se (nI c) = some (eN (-9) (sitAt h c)) := by
  rw [E.1.2.1, E.2.1.2.1]
  exact sitterOn_ok V.1.2.1 (fun i hi => (E.2.2.2.1 i hi).1) (fun i hi => (V.2.2.1 i hi).1) hc36
theorem c_isShut (E : HC h sb ai cb si ob tn tk wm ki fi ac wy se sl hc hs hn) {c : Nat} (hc36 : c < 36) : f_X2_isShut sb (nI c) = some (if aSd h c = true then 1 else 0) := by
  rw [E.2.1.2.2]
  exact isShut_ok hc36
theorem airAt_lt (V : aV h) {c a : Nat} (q : airAt h c = some a) : a < 36 := by
  have := fM_lt q
  have := V.1.1
  omega
theorem sitAt_lt (V : aV h) {c a : Nat} (q : sitAt h c = some a) : a < 36 := by
  have := fM_lt q
  have := V.1.2.1
  omega
theorem c_isFree (V : aV h) (E : HC h sb ai cb si ob tn tk wm ki fi ac wy se sl hc hs hn) {c : Nat} (hc36 : c < 36) : f_X2_isFree sb ai si ob ac se (nI c) = some (if freeS h c = true then 1 else 0) := by
  unfold f_X2_isFree
  rw [dq_bd_s (c_isShut E hc36)]
  unfold freeS
  by_cases h1 : aSd h c = true
  · rw [if_pos h1, dq_if_neg (by decide), h1]
    rfl
  · rw [if_neg h1, dq_if_pos rfl, dq_bd_s (c_airOn V E hc36)]
    simp only [Bool.not_eq_true] at h1
    rw [h1]
    by_cases h2 : (airAt h c).isNone = true
    · rw [dq_if_pos ((eN_9 (fun a q => airAt_lt V q)).mpr h2), dq_bd_s (c_sitterOn V E hc36), h2]
      by_cases h3 : (sitAt h c).isNone = true
      · rw [dq_if_pos ((eN_9 (fun a q => sitAt_lt V q)).mpr h3), h3]
        rfl
      · rw [dq_if_neg (fun q => h3 ((eN_9 (fun a q => sitAt_lt V q)).mp q))]
        simp only [Bool.not_eq_true] at h3
        rw [h3]
        rfl
    · rw [dq_if_neg (fun q => h2 ((eN_9 (fun a q => airAt_lt V q)).mp q))]
      simp only [Bool.not_eq_true] at h2
      rw [h2]
      rfl
theorem c_isCrowned (V : aV h) (E : HC h sb ai cb si ob tn tk wm ki fi ac wy se sl hc hs hn) {a : Nat} (ha : a < aA h) : f_X2_isCrowned cb (nI a) = some (if aCr h a = true then 1 else 0) := by
  unfold f_X2_isCrowned
  rw [E.2.1.1]
  have hA := V.1.1
  by_cases h1 : aCr h a = true
  · rw [dq_if_pos ((bits_get (by omega) ha).mpr h1), if_pos h1]
  · rw [dq_if_neg (fun q => h1 ((bits_get (by omega) ha).mp q)), if_neg h1]
theorem c_isOn (V : aV h) (E : HC h sb ai cb si ob tn tk wm ki fi ac wy se sl hc hs hn) {a : Nat} (ha : a < aS h) : f_X2_isOn ob (nI a) = some (if aOn h a = true then 1 else 0) := by
  unfold f_X2_isOn
  rw [E.2.1.2.1]
  have hA := V.1.2.1
  by_cases h1 : aOn h a = true
  · rw [dq_if_pos ((bits_get (by omega) ha).mpr h1), if_pos h1]
  · rw [dq_if_neg (fun q => h1 ((bits_get (by omega) ha).mp q)), if_neg h1]
end PW
/-! the way of a leap, of a walk -/
def triesS (h : AH) (a : Nat) : Nat := if aCr h a = true then 4 else 2
def wayOf (h : AH) (a k : Nat) : Nat := (aWy h a + k) % 4
/-- a leap by the way: over whom, and where to -/
def leapTo (h : AH) (c w : Nat) : Option (Nat × Nat) := match nxt c w with
  | none => none
  | some o => match nxt o w with
    | none => none
    | some b => match sitAt h o with
      | none => none
      | some s => if freeS h b = true then some (s, b) else none
def walkTo (h : AH) (c w : Nat) : Option Nat := match nxt c w with
  | none => none
  | some n => if freeS h n = true then some n else none
/-- the first of the tries that goes -/
def leapWay (h : AH) (a : Nat) : Option Nat := fM (fun k => (leapTo h (aAc h a) (wayOf h a k)).isSome) (triesS h a)
def walkWay (h : AH) (a : Nat) : Option Nat := fM (fun k => (walkTo h (aAc h a) (wayOf h a k)).isSome) (triesS h a)
theorem wayOf_lt (h : AH) (a k : Nat) : wayOf h a k < 4 := Nat.mod_lt _ (by decide)
theorem triesS_le (h : AH) (a : Nat) : triesS h a ≤ 4 := by
  unfold triesS
  split <;> omega
theorem way_nI {x k : Nat} (hx : x < 4) (hk : k ≤ 4) : ((nI x + nI k) - (nI x + nI k) / (4 : Int32) * (4 : Int32)) = nI ((x + k) % 4) := by
  rw [nI_add]
  exact pk_rem (d := 4) (by omega) (by omega) (by omega)
/-- the way, or -1 -/
def eW (h : AH) (a : Nat) (o : Option Nat) : Int32 := match o with
  | none => -1
  | some k => nI (wayOf h a k)
section PW2
variable {h : AH} {sb : Int64} {ai cb si ob tn tk hc : Int32} {wm : Nat → UInt32} {ki fi ac wy se sl hs hn : Nat → Int32}
theorem nI_m1_lt : ((-1 : Int32) < 0) := by decide
theorem nI_m1_ge : ¬ (0 ≤ (-1 : Int32)) := by decide
theorem c_leap_loop (V : aV h) (E : HC h sb ai cb si ob tn tk wm ki fi ac wy se sl hc hs hn) {a : Nat} (ha : a < aA h) {T : Nat} (hT : T ≤ 4) : ∀ (d k m : Nat), k + d = T → d < m → (∀ b, b < k → (leapTo h (aAc h a) (wayOf h a b)).isSome = false) → f_X2_wayToLeap_b16 (nI a) sb ai si ob ac wy se (nI T) m (nI k) = some (eW h a (fM (fun k => (leapTo h (aAc h a) (wayOf h a k)).isSome) T))
  | d, k, 0, _, q, _ => absurd q (by omega)
  | 0, k, m + 1, hk, _, hb => by
    have : k = T := by omega
    subst this
    unfold f_X2_wayToLeap_b16
    rw [dq_if_pos (nI_le (Nat.le_refl _) (by omega)), fM_none.mpr hb]
    rfl
  | d + 1, k, m + 1, hk, hm, hb => by
    have hkl : k < T := by omega
    have hA := V.1.1
    obtain ⟨v1, v2, v3, v4⟩ := V.2.1 a ha
    obtain ⟨e1, e2, e3, e4⟩ := E.2.2.1 a ha
    have go : (leapTo h (aAc h a) (wayOf h a k)).isSome = false → f_X2_wayToLeap_b16 (nI a) sb ai si ob ac wy se (nI T) m (nI k + 1) = some (eW h a (fM (fun k => (leapTo h (aAc h a) (wayOf h a k)).isSome) T)) := by
      intro q
      rw [show nI k + (1 : Int32) = nI (k + 1) from nI_1 k]
      refine c_leap_loop V E ha hT d (k + 1) m (by omega) (by omega) (fun b hb2 => ?_)
      by_cases hbk : b = k
      · subst hbk
        exact q
      · exact hb b (by omega)
    unfold f_X2_wayToLeap_b16
    rw [dq_if_neg (nI_ge hkl (by omega)), dq_gd_pos (vp_in_nI (by omega) (by omega)), nI_clamp (by omega), e4, e3]
    simp only [dq_let]
    rw [way_nI v4 (by omega), dq_gd_pos (vp_in_nI (by omega) (by omega)), show (aWy h a + k) % 4 = wayOf h a k from rfl]
    rw [dq_bd_s (nextCell_ok v3 (wayOf_lt h a k))]
    cases hn1 : nxt (aAc h a) (wayOf h a k) with
    | none =>
      have hl : leapTo h (aAc h a) (wayOf h a k) = none := by unfold leapTo; rw [hn1]
      simp only [eN]
      rw [dq_if_neg nI_m1_ge]
      unfold f_X2_wayToLeap_b62
      rw [dq_if_pos nI_m1_lt]
      exact go (by rw [hl]; rfl)
    | some o =>
      have ho := nxt_lt hn1 v3
      simp only [eN]
      rw [dq_if_pos (nI_pos' (by omega)), dq_bd_s (nextCell_ok ho (wayOf_lt h a k))]
      cases hn2 : nxt o (wayOf h a k) with
      | none =>
        have hl : leapTo h (aAc h a) (wayOf h a k) = none := by unfold leapTo; rw [hn1]; simp only; rw [hn2]
        simp only [eN]
        unfold f_X2_wayToLeap_b62
        rw [dq_if_pos nI_m1_lt]
        exact go (by rw [hl]; rfl)
      | some b =>
        have hbl := nxt_lt hn2 ho
        simp only [eN]
        unfold f_X2_wayToLeap_b62
        rw [dq_if_neg (nI_pos (by omega)), dq_bd_s (c_sitterOn V E ho)]
        cases hs1 : sitAt h o with
        | none =>
          have hl : leapTo h (aAc h a) (wayOf h a k) = none := by unfold leapTo; rw [hn1]; simp only; rw [hn2]; simp only; rw [hs1]
          rw [dq_if_pos (by rfl)]
          exact go (by rw [hl]; rfl)
        | some s =>
          have hsl := sitAt_lt V hs1
          rw [dq_if_neg (fun q => by have := (eN_9 (o := some s) (fun a q => by cases q; exact hsl)).mp q; cases this), dq_bd_s (c_isFree V E hbl)]
          by_cases hf : freeS h b = true
          · have hl : leapTo h (aAc h a) (wayOf h a k) = some (s, b) := by unfold leapTo; rw [hn1]; simp only; rw [hn2]; simp only; rw [hs1]; simp only; rw [if_pos hf]
            rw [if_pos hf, dq_if_neg (by decide), fM_some.mpr ⟨hkl, by rw [hl]; rfl, hb⟩]
            rfl
          · have hl : leapTo h (aAc h a) (wayOf h a k) = none := by unfold leapTo; rw [hn1]; simp only; rw [hn2]; simp only; rw [hs1]; simp only; rw [if_neg hf]
            rw [if_neg hf, dq_if_pos rfl]
            exact go (by rw [hl]; rfl)
theorem c_wayToLeap (V : aV h) (E : HC h sb ai cb si ob tn tk wm ki fi ac wy se sl hc hs hn) {a : Nat} (ha : a < aA h) : f_X2_wayToLeap sb ai cb si ob ac wy se (nI a) = some (eW h a (leapWay h a)) := by
  unfold f_X2_wayToLeap leapWay triesS
  rw [dq_bd_s (c_isCrowned V E ha)]
  by_cases hcr : aCr h a = true
  · rw [if_pos hcr, if_pos hcr, dq_if_neg (by decide)]
    unfold f_X2_wayToLeap_b13
    rw [show (0 : Int32) = nI 0 from nI_0.symm, show (4 : Int32) = nI 4 from rfl]
    exact c_leap_loop V E ha (by omega) 4 0 4096 (by omega) (by omega) (fun b hb => absurd hb (by omega))
  · rw [if_neg hcr, if_neg hcr, dq_if_pos rfl]
    unfold f_X2_wayToLeap_b13
    rw [show (0 : Int32) = nI 0 from nI_0.symm, show (2 : Int32) = nI 2 from rfl]
    exact c_leap_loop V E ha (by omega) 2 0 4096 (by omega) (by omega) (fun b hb => absurd hb (by omega))
theorem c_walk_loop (V : aV h) (E : HC h sb ai cb si ob tn tk wm ki fi ac wy se sl hc hs hn) {a : Nat} (ha : a < aA h) {T : Nat} (hT : T ≤ 4) : ∀ (d k m : Nat), k + d = T → d < m → (∀ b, b < k → (walkTo h (aAc h a) (wayOf h a b)).isSome = false) → f_X2_wayToWalk_b16 (nI a) sb ai si ob ac wy se (nI T) m (nI k) = some (eW h a (fM (fun k => (walkTo h (aAc h a) (wayOf h a k)).isSome) T))
  | d, k, 0, _, q, _ => absurd q (by omega)
  | 0, k, m + 1, hk, _, hb => by
    have : k = T := by omega
    subst this
    unfold f_X2_wayToWalk_b16
    rw [dq_if_pos (nI_le (Nat.le_refl _) (by omega)), fM_none.mpr hb]
    rfl
  | d + 1, k, m + 1, hk, hm, hb => by
    have hkl : k < T := by omega
    have hA := V.1.1
    obtain ⟨v1, v2, v3, v4⟩ := V.2.1 a ha
    obtain ⟨e1, e2, e3, e4⟩ := E.2.2.1 a ha
    have go : (walkTo h (aAc h a) (wayOf h a k)).isSome = false → f_X2_wayToWalk_b16 (nI a) sb ai si ob ac wy se (nI T) m (nI k + 1) = some (eW h a (fM (fun k => (walkTo h (aAc h a) (wayOf h a k)).isSome) T)) := by
      intro q
      rw [show nI k + (1 : Int32) = nI (k + 1) from nI_1 k]
      refine c_walk_loop V E ha hT d (k + 1) m (by omega) (by omega) (fun b hb2 => ?_)
      by_cases hbk : b = k
      · subst hbk
        exact q
      · exact hb b (by omega)
    unfold f_X2_wayToWalk_b16
    rw [dq_if_neg (nI_ge hkl (by omega)), dq_gd_pos (vp_in_nI (by omega) (by omega)), nI_clamp (by omega), e4, e3]
    simp only [dq_let]
    rw [way_nI v4 (by omega), dq_gd_pos (vp_in_nI (by omega) (by omega)), show (aWy h a + k) % 4 = wayOf h a k from rfl]
    rw [dq_bd_s (nextCell_ok v3 (wayOf_lt h a k))]
    cases hn1 : nxt (aAc h a) (wayOf h a k) with
    | none =>
      have hl : walkTo h (aAc h a) (wayOf h a k) = none := by unfold walkTo; rw [hn1]
      simp only [eN]
      rw [dq_if_pos nI_m1_lt]
      exact go (by rw [hl]; rfl)
    | some o =>
      have ho := nxt_lt hn1 v3
      simp only [eN]
      rw [dq_if_neg (nI_pos (by omega)), dq_bd_s (c_isFree V E ho)]
      by_cases hf : freeS h o = true
      · have hl : walkTo h (aAc h a) (wayOf h a k) = some o := by unfold walkTo; rw [hn1]; simp only; rw [if_pos hf]
        rw [if_pos hf, dq_if_neg (by decide), fM_some.mpr ⟨hkl, by rw [hl]; rfl, hb⟩]
        rfl
      · have hl : walkTo h (aAc h a) (wayOf h a k) = none := by unfold walkTo; rw [hn1]; simp only; rw [if_neg hf]
        rw [if_neg hf, dq_if_pos rfl]
        exact go (by rw [hl]; rfl)
theorem c_wayToWalk (V : aV h) (E : HC h sb ai cb si ob tn tk wm ki fi ac wy se sl hc hs hn) {a : Nat} (ha : a < aA h) : f_X2_wayToWalk sb ai cb si ob ac wy se (nI a) = some (eW h a (walkWay h a)) := by
  unfold f_X2_wayToWalk walkWay triesS
  rw [dq_bd_s (c_isCrowned V E ha)]
  by_cases hcr : aCr h a = true
  · rw [if_pos hcr, if_pos hcr, dq_if_neg (by decide)]
    unfold f_X2_wayToWalk_b13
    rw [show (0 : Int32) = nI 0 from nI_0.symm, show (4 : Int32) = nI 4 from rfl]
    exact c_walk_loop V E ha (by omega) 4 0 4096 (by omega) (by omega) (fun b hb => absurd hb (by omega))
  · rw [if_neg hcr, if_neg hcr, dq_if_pos rfl]
    unfold f_X2_wayToWalk_b13
    rw [show (0 : Int32) = nI 0 from nI_0.symm, show (2 : Int32) = nI 2 from rfl]
    exact c_walk_loop V E ha (by omega) 2 0 4096 (by omega) (by omega) (fun b hb => absurd hb (by omega))
end PW2
