/-! the abstract house: what its changes keep -/
theorem fM_is {p : Nat → Bool} {n : Nat} : (fM p n).isSome = true ↔ ∃ i, i < n ∧ p i = true := by
  constructor
  · intro h
    obtain ⟨a, e⟩ := Option.isSome_iff_exists.mp h
    exact ⟨a, (fM_some.mp e).1, (fM_some.mp e).2.1⟩
  · rintro ⟨i, hi, hp⟩
    cases e : fM p n with
    | some a => rfl
    | none =>
      have := fM_none.mp e i hi
      rw [hp] at this
      cases this
theorem taken_iff {h : AH} {c : Nat} : takenS h c = true ↔ (∃ i, i < aA h ∧ aAc h i = c) ∨ ∃ i, i < aS h ∧ aSt h i = c ∧ aOn h i = true := by
  unfold takenS airAt sitAt
  rw [Bool.or_eq_true, fM_is, fM_is]
  constructor
  · rintro (⟨i, hi, e⟩ | ⟨i, hi, e⟩)
    · exact Or.inl ⟨i, hi, by simpa using e⟩
    · simp only [Bool.and_eq_true, beq_iff_eq] at e
      exact Or.inr ⟨i, hi, e.1, e.2⟩
  · rintro (⟨i, hi, e⟩ | ⟨i, hi, e1, e2⟩)
    · exact Or.inl ⟨i, hi, by simpa using e⟩
    · exact Or.inr ⟨i, hi, by simp [e1, e2]⟩
/-- no air and nobody that is on is on a cell that is shut -/
def aJ (h : AH) : Prop := (∀ i, i < aA h → aSd h (aAc h i) = false) ∧ ∀ i, i < aS h → aOn h i = true → aSd h (aSt h i) = false
theorem aJ_of {h : AH} (V : aV h) (q : aI h) : aJ h := by
  refine ⟨fun i hi => ?_, fun i hi ho => ?_⟩
  · cases e : aSd h (aAc h i) with
    | false => rfl
    | true =>
      have := q _ (V.2.1 i hi).2.2.1 e
      rw [taken_iff.mpr (Or.inl ⟨i, hi, rfl⟩)] at this
      cases this
  · cases e : aSd h (aSt h i) with
    | false => rfl
    | true =>
      have := q _ (V.2.2.1 i hi).1 e
      rw [taken_iff.mpr (Or.inr ⟨i, hi, rfl, ho⟩)] at this
      cases this
theorem aI_of {h : AH} (q : aJ h) : aI h := by
  intro c _ e
  cases t : takenS h c with
  | false => rfl
  | true =>
    rcases taken_iff.mp t with ⟨i, hi, e2⟩ | ⟨i, hi, e2, e3⟩
    · subst e2
      rw [q.1 i hi] at e
      cases e
    · subst e2
      rw [q.2 i hi e3] at e
      cases e
theorem free_sd {h : AH} {c : Nat} (q : freeS h c = true) : aSd h c = false := by
  unfold freeS at q
  simp only [Bool.and_eq_true, Bool.not_eq_true'] at q
  exact q.1
theorem free_tk {h : AH} {c : Nat} (q : freeS h c = true) : takenS h c = false := by
  rw [freeS_eq] at q
  simp only [Bool.and_eq_true, Bool.not_eq_true'] at q
  exact q.2
theorem aJ_arrive {h : AH} (J : aJ h) {a c w : Nat} (q : aSd h c = false) : aJ (arriveS h a c w) := by
  refine ⟨fun i hi => ?_, J.2⟩
  show aSd h (up (aAc h) a c i) = false
  by_cases z : i = a
  · subst z
    rw [up_s]
    exact q
  · rw [up_n z]
    exact J.1 i hi
theorem on_leapOver {h : AH} {s i : Nat} (q : aOn (leapOverS h s) i = true) : aOn h i = true := by
  have q : (if 0 < aSh h s then aOn h else up (aOn h) s false) i = true := q
  by_cases z : 0 < aSh h s
  · rw [if_pos z] at q
    exact q
  · rw [if_neg z] at q
    by_cases y : i = s
    · subst y
      rw [up_s] at q
      cases q
    · rw [up_n y] at q
      exact q
theorem aJ_leapOver {h : AH} (J : aJ h) {s : Nat} : aJ (leapOverS h s) := ⟨J.1, fun i hi ho => J.2 i hi (on_leapOver ho)⟩
theorem leapTo_free {h : AH} {c w s b : Nat} (q : leapTo h c w = some (s, b)) : freeS h b = true := by
  unfold leapTo at q
  split at q
  · cases q
  · split at q
    · cases q
    · split at q
      · cases q
      · split at q
        · rename_i z
          cases q
          exact z
        · cases q
theorem walkTo_free {h : AH} {c w b : Nat} (q : walkTo h c w = some b) : freeS h b = true := by
  unfold walkTo at q
  split at q
  · cases q
  · split at q
    · rename_i z
      cases q
      exact z
    · cases q
/-- what a turn keeps: P, where it is kept by its parts -/
theorem leapOnce_e {h h' : AH} {a : Nat} (q : leapOnce h a = some h') : ∃ s b w, freeS h b = true ∧ h' = arriveS (leapOverS h s) a b w := by
  unfold leapOnce at q
  split at q
  · cases q
  · split at q
    · cases q
    · rename_i k _ sb e
      cases q
      exact ⟨sb.1, sb.2, _, leapTo_free (s := sb.1) e, rfl⟩
theorem walkS_e (h : AH) (a : Nat) : walkS h a = h ∨ (∃ w, walkS h a = setAir h (aAc h) (up (aWy h) a w) (aWm h)) ∨ ∃ b w, freeS h b = true ∧ walkS h a = arriveS h a b w := by
  unfold walkS
  split
  · exact Or.inr (Or.inl ⟨_, rfl⟩)
  · split
    · exact Or.inl rfl
    · rename_i n e
      exact Or.inr (Or.inr ⟨n, _, walkTo_free e, rfl⟩)
theorem crownS_e (h : AH) (a : Nat) : ∃ cr, crownS h a = setCr h cr := by
  unfold crownS
  split
  · exact ⟨_, rfl⟩
  · exact ⟨aCr h, rfl⟩
theorem aJ_leaps {a : Nat} : ∀ (n : Nat) (h : AH), aJ h → aJ (leapsIter a n h).2
  | 0, _, J => J
  | n + 1, h, J => by
    unfold leapsIter
    cases q : leapOnce h a with
    | none => exact J
    | some h' =>
      obtain ⟨s, b, w, e1, e2⟩ := leapOnce_e q
      subst e2
      exact aJ_leaps n _ (aJ_arrive (aJ_leapOver J) (show aSd (leapOverS h s) b = false from (free_sd e1 : aSd h b = false)))
theorem aJ_walk {h : AH} (J : aJ h) (a : Nat) : aJ (walkS h a) := by
  rcases walkS_e h a with e | ⟨w, e⟩ | ⟨b, w, e1, e⟩
  · rw [e]
    exact J
  · rw [e]
    exact J
  · rw [e]
    exact aJ_arrive J (free_sd e1)
theorem aJ_blow {h : AH} (J : aJ h) (a : Nat) : aJ (blowS h a) := by
  unfold blowS
  obtain ⟨cr, e⟩ := crownS_e (if (leapsIter a (leapsS (aKd h a) (aFg h a)) h).1 = 0 then walkS (leapsIter a (leapsS (aKd h a) (aFg h a)) h).2 a else (leapsIter a (leapsS (aKd h a) (aFg h a)) h).2) a
  rw [e]
  have : aJ (if (leapsIter a (leapsS (aKd h a) (aFg h a)) h).1 = 0 then walkS (leapsIter a (leapsS (aKd h a) (aFg h a)) h).2 a else (leapsIter a (leapsS (aKd h a) (aFg h a)) h).2) := by
    split
    · exact aJ_walk (aJ_leaps _ _ J) a
    · exact aJ_leaps _ _ J
  exact this
theorem aJ_blows {h : AH} (J : aJ h) : ∀ k : Nat, aJ (blowsS k h)
  | 0 => J
  | k + 1 => aJ_blow (aJ_blows J k) k
theorem aJ_freeze {h : AH} (J : aJ h) : aJ (freezeS h) := by
  refine ⟨J.1, fun i hi ho => J.2 i hi ?_⟩
  have ho : (aOn h i && !coldS h i) = true := ho
  rw [Bool.and_eq_true] at ho
  exact ho.1
theorem aJ_turn {h : AH} (J : aJ h) : aJ (turnS h) := aJ_freeze (aJ_blows (h := beginS h) J _)
theorem aJ_go : ∀ (n : Nat) {h : AH}, aJ h → aJ (goS n h)
  | 0, _, J => J
  | n + 1, _, J => aJ_go n (aJ_turn J)
/-! who is off stays off; the cells that are shut stay so -/
theorem on_leaps {a i : Nat} : ∀ (n : Nat) (h : AH), aOn (leapsIter a n h).2 i = true → aOn h i = true
  | 0, _, q => q
  | n + 1, h, q => by
    unfold leapsIter at q
    cases e : leapOnce h a with
    | none =>
      rw [e] at q
      exact q
    | some h' =>
      rw [e] at q
      obtain ⟨s, b, w, e1, e2⟩ := leapOnce_e e
      subst e2
      have q : aOn (leapsIter a n (arriveS (leapOverS h s) a b w)).2 i = true := q
      have q2 := on_leaps n _ q
      exact on_leapOver (s := s) q2
theorem on_walk {h : AH} {a : Nat} : aOn (walkS h a) = aOn h := by
  rcases walkS_e h a with e | ⟨w, e⟩ | ⟨b, w, e1, e⟩
  · rw [e]
  · rw [e]
    rfl
  · rw [e]
    rfl
theorem on_blow {h : AH} {a i : Nat} (q : aOn (blowS h a) i = true) : aOn h i = true := by
  unfold blowS at q
  obtain ⟨cr, e⟩ := crownS_e (if (leapsIter a (leapsS (aKd h a) (aFg h a)) h).1 = 0 then walkS (leapsIter a (leapsS (aKd h a) (aFg h a)) h).2 a else (leapsIter a (leapsS (aKd h a) (aFg h a)) h).2) a
  rw [e] at q
  have q : aOn (if (leapsIter a (leapsS (aKd h a) (aFg h a)) h).1 = 0 then walkS (leapsIter a (leapsS (aKd h a) (aFg h a)) h).2 a else (leapsIter a (leapsS (aKd h a) (aFg h a)) h).2) i = true := q
  split at q
  · rw [on_walk] at q
    exact on_leaps _ _ q
  · exact on_leaps _ _ q
theorem on_blows {h : AH} {i : Nat} : ∀ k : Nat, aOn (blowsS k h) i = true → aOn h i = true
  | 0, q => q
  | k + 1, q => on_blows k (on_blow q)
theorem on_freeze {h : AH} {i : Nat} (q : aOn (freezeS h) i = true) : aOn h i = true := by
  have q : (aOn h i && !coldS h i) = true := q
  rw [Bool.and_eq_true] at q
  exact q.1
theorem on_turn {h : AH} {i : Nat} (q : aOn (turnS h) i = true) : aOn h i = true := on_blows (h := beginS h) _ (on_freeze q)
theorem on_still {h : AH} {i : Nat} (q : aOn (stillS h) i = true) : aOn h i = true := on_freeze (h := beginS h) q
theorem on_go {i : Nat} : ∀ (n : Nat) {h : AH}, aOn (goS n h) i = true → aOn h i = true
  | 0, _, q => q
  | n + 1, _, q => on_turn (on_go n q)
theorem goS_s (n : Nat) (h : AH) : goS (n + 1) h = turnS (goS n h) := by
  induction n generalizing h with
  | zero => rfl
  | succ n ih => exact ih (turnS h)
/-! the changes of the calls -/
def warmS (h : AH) (c : Nat) (w : UInt32) : AH := (h.1, h.2.1, h.2.2.1, h.2.2.2.1, (aSd h, up (aWm h) c w))
def seatS (h : AH) (s c : Nat) : AH := (h.1, h.2.1, (up (aSt h) s c, aSh h, up (aOn h) s true), h.2.2.2)
def wayS (h : AH) (a w : Nat) : AH := setAir h (aAc h) (up (aWy h) a w) (aWm h)
def wrapS (h : AH) (s n : Nat) : AH := (h.1, h.2.1, (aSt h, up (aSh h) s n, aOn h), h.2.2.2)
def clearS (h : AH) : AH := ((aA h, aS h, 0, aTn h, aTk h), h.2)
def hearthS (h : AH) (k : Nat) (hs hn : Nat → Nat) : AH := ((aA h, aS h, k, aTn h, aTk h), h.2.1, h.2.2.1, (hs, hn), h.2.2.2.2)
theorem i2f_H : ∀ n : Fin 201, fH (FP.i2f (nI n.val - nI 100)) := by
  unfold fH
  decide +kernel
theorem warmS_V {h : AH} (V : aV h) {c : Nat} {w : UInt32} (hw : fH w) : aV (warmS h c w) := by
  obtain ⟨v1, v2, v3, v4, v5⟩ := V
  refine ⟨v1, v2, v3, v4, fun d hd => ?_⟩
  show fH (up (aWm h) c w d)
  by_cases z : d = c
  · subst z
    rw [up_s]
    exact hw
  · rw [up_n z]
    exact v5 d hd
theorem seatS_V {h : AH} (V : aV h) {s c : Nat} (hc : c < 36) : aV (seatS h s c) := by
  obtain ⟨v1, v2, v3, v4, v5⟩ := V
  refine ⟨v1, v2, fun i hi => ⟨?_, (v3 i hi).2⟩, v4, v5⟩
  show up (aSt h) s c i < 36
  by_cases z : i = s
  · subst z
    rw [up_s]
    exact hc
  · rw [up_n z]
    exact (v3 i hi).1
theorem wayS_V {h : AH} (V : aV h) {a w : Nat} (hw : w < 4) : aV (wayS h a w) := by
  obtain ⟨v1, v2, v3, v4, v5⟩ := V
  refine ⟨v1, fun i hi => ⟨(v2 i hi).1, (v2 i hi).2.1, (v2 i hi).2.2.1, ?_⟩, v3, v4, v5⟩
  show up (aWy h) a w i < 4
  by_cases z : i = a
  · subst z
    rw [up_s]
    exact hw
  · rw [up_n z]
    exact (v2 i hi).2.2.2
theorem wrapS_V {h : AH} (V : aV h) {s n : Nat} (hn : n ≤ 9) : aV (wrapS h s n) := by
  obtain ⟨v1, v2, v3, v4, v5⟩ := V
  refine ⟨v1, v2, fun i hi => ⟨(v3 i hi).1, ?_⟩, v4, v5⟩
  show up (aSh h) s n i ≤ 9
  by_cases z : i = s
  · subst z
    rw [up_s]
    exact hn
  · rw [up_n z]
    exact (v3 i hi).2
theorem clearS_V {h : AH} (V : aV h) : aV (clearS h) := ⟨⟨V.1.1, V.1.2.1, Nat.zero_le _, V.1.2.2.2⟩, V.2.1, V.2.2.1, fun i hi => absurd hi (Nat.not_lt_zero _), V.2.2.2.2⟩
theorem aJ_seat {h : AH} (J : aJ h) {s c : Nat} (q : aSd h c = false) : aJ (seatS h s c) := by
  refine ⟨J.1, fun i hi ho => ?_⟩
  show aSd h (up (aSt h) s c i) = false
  have ho : up (aOn h) s true i = true := ho
  by_cases z : i = s
  · subst z
    rw [up_s]
    exact q
  · rw [up_n z] at ho ⊢
    exact J.2 i hi ho
theorem aJ_toggle {h : AH} (V : aV h) (J : aJ h) {c : Nat} (q : takenS h c = false) : aJ (toggleS h c) := by
  have nt := mt taken_iff.mpr (by rw [q]; decide)
  refine ⟨fun i hi => ?_, fun i hi ho => ?_⟩
  · show up (aSd h) c (!aSd h c) (aAc h i) = false
    rw [up_n (fun z => nt (Or.inl ⟨i, hi, z⟩))]
    exact J.1 i hi
  · show up (aSd h) c (!aSd h c) (aSt h i) = false
    rw [up_n (fun z => nt (Or.inr ⟨i, hi, z, ho⟩))]
    exact J.2 i hi ho
theorem aJ_addAir {h : AH} (J : aJ h) {kd fg c w : Nat} (q : aSd h c = false) : aJ (addAirS h kd fg c w) := by
  refine ⟨fun i hi => ?_, J.2⟩
  have hi : i < aA h + 1 := hi
  show aSd h (up (aAc h) (aA h) c i) = false
  by_cases z : i = aA h
  · subst z
    rw [up_s]
    exact q
  · rw [up_n z]
    exact J.1 i (by omega)
theorem aJ_addSit {h : AH} (J : aJ h) {c n : Nat} (q : aSd h c = false) : aJ (addSitS h c n) := by
  refine ⟨J.1, fun i hi ho => ?_⟩
  have hi : i < aS h + 1 := hi
  have ho : up (aOn h) (aS h) true i = true := ho
  show aSd h (up (aSt h) (aS h) c i) = false
  by_cases z : i = aS h
  · subst z
    rw [up_s]
    exact q
  · rw [up_n z] at ho ⊢
    exact J.2 i (by omega) ho
/-! the class's row and the reference's after a change -/
section PH
variable {h : AH} {sb : Int64} {ai cb si ob tn tk hc : Int32} {wm : Nat → UInt32} {sh ki fi ac wy cr se sl on hs hn : Nat → Int32}
theorem warmS_C (E : HC h sb ai cb si ob tn tk wm ki fi ac wy se sl hc hs hn) {c : Nat} {w : UInt32} : HC (warmS h c w) sb ai cb si ob tn tk (vf_upd wm c w) ki fi ac wy se sl hc hs hn := by
  refine ⟨E.1, E.2.1, E.2.2.1, E.2.2.2.1, E.2.2.2.2.1, fun d hd => ?_⟩
  show vf_upd wm c w d = up (aWm h) c w d
  by_cases z : d = c
  · subst z
    rw [vf_s, up_s]
  · rw [vf_n z, up_n z]
    exact E.2.2.2.2.2 d hd
theorem warmS_R (E : HR h ai si hc tn tk wm sh ki fi ac wy cr se sl on hs hn) {c : Nat} {w : UInt32} : HR (warmS h c w) ai si hc tn tk (vf_upd wm c w) sh ki fi ac wy cr se sl on hs hn := by
  refine ⟨E.1, E.2.1, E.2.2.1, E.2.2.2.1, E.2.2.2.2.1, fun d hd => ?_⟩
  show vf_upd wm c w d = up (aWm h) c w d
  by_cases z : d = c
  · subst z
    rw [vf_s, up_s]
  · rw [vf_n z, up_n z]
    exact E.2.2.2.2.2 d hd
theorem seatS_C (V : aV h) (E : HC h sb ai cb si ob tn tk wm ki fi ac wy se sl hc hs hn) {s c : Nat} (hs' : s < aS h) : HC (seatS h s c) sb ai cb si (ob ||| ((1 : Int32) <<< (nI s &&& 31))) tn tk wm ki fi ac wy (upd se s (nI c)) sl hc hs hn := by
  refine ⟨E.1, ⟨E.2.1.1, ?_, E.2.1.2.2⟩, E.2.2.1, fun i hi => ⟨?_, (E.2.2.2.1 i hi).2⟩, E.2.2.2.2⟩
  · rw [E.2.1.2.1, bits_set V.1.2.1 hs']
    rfl
  · show upd se s (nI c) i = nI (up (aSt h) s c i)
    by_cases z : i = s
    · subst z
      rw [pk_us, up_s]
    · rw [pk_un z, up_n z]
      exact (E.2.2.2.1 i hi).1
theorem seatS_R (E : HR h ai si hc tn tk wm sh ki fi ac wy cr se sl on hs hn) {s c : Nat} : HR (seatS h s c) ai si hc tn tk wm sh ki fi ac wy cr (upd se s (nI c)) sl (upd on s 1) hs hn := by
  refine ⟨E.1, E.2.1, fun i hi => ⟨?_, (E.2.2.1 i hi).2.1, ?_⟩, E.2.2.2⟩
  · show upd se s (nI c) i = nI (up (aSt h) s c i)
    by_cases z : i = s
    · subst z
      rw [pk_us, up_s]
    · rw [pk_un z, up_n z]
      exact (E.2.2.1 i hi).1
  · show upd on s 1 i = nB (up (aOn h) s true i)
    by_cases z : i = s
    · subst z
      rw [pk_us, up_s]
      rfl
    · rw [pk_un z, up_n z]
      exact (E.2.2.1 i hi).2.2
theorem wayS_C (E : HC h sb ai cb si ob tn tk wm ki fi ac wy se sl hc hs hn) {a w : Nat} : HC (wayS h a w) sb ai cb si ob tn tk wm ki fi ac (upd wy a (nI w)) se sl hc hs hn := setWy_E E
theorem wayS_R (E : HR h ai si hc tn tk wm sh ki fi ac wy cr se sl on hs hn) {a w : Nat} : HR (wayS h a w) ai si hc tn tk wm sh ki fi ac (upd wy a (nI w)) cr se sl on hs hn := by
  refine ⟨E.1, fun i hi => ?_, E.2.2⟩
  obtain ⟨g1, g2, g3, g4, g5⟩ := E.2.1 i hi
  refine ⟨g1, g2, g3, ?_, g5⟩
  show upd wy a (nI w) i = nI (up (aWy h) a w i)
  by_cases z : i = a
  · subst z
    rw [pk_us, up_s]
  · rw [pk_un z, up_n z]
    exact g4
theorem wrapS_C (E : HC h sb ai cb si ob tn tk wm ki fi ac wy se sl hc hs hn) {s n : Nat} : HC (wrapS h s n) sb ai cb si ob tn tk wm ki fi ac wy se (upd sl s (nI n)) hc hs hn := by
  refine ⟨E.1, E.2.1, E.2.2.1, fun i hi => ⟨(E.2.2.2.1 i hi).1, ?_⟩, E.2.2.2.2⟩
  show upd sl s (nI n) i = nI (up (aSh h) s n i)
  by_cases z : i = s
  · subst z
    rw [pk_us, up_s]
  · rw [pk_un z, up_n z]
    exact (E.2.2.2.1 i hi).2
theorem wrapS_R (E : HR h ai si hc tn tk wm sh ki fi ac wy cr se sl on hs hn) {s n : Nat} : HR (wrapS h s n) ai si hc tn tk wm sh ki fi ac wy cr se (upd sl s (nI n)) on hs hn := by
  refine ⟨E.1, E.2.1, fun i hi => ⟨(E.2.2.1 i hi).1, ?_, (E.2.2.1 i hi).2.2⟩, E.2.2.2⟩
  show upd sl s (nI n) i = nI (up (aSh h) s n i)
  by_cases z : i = s
  · subst z
    rw [pk_us, up_s]
  · rw [pk_un z, up_n z]
    exact (E.2.2.1 i hi).2.1
theorem clearS_C (E : HC h sb ai cb si ob tn tk wm ki fi ac wy se sl hc hs hn) : HC (clearS h) sb ai cb si ob tn tk wm ki fi ac wy se sl 0 hs hn := ⟨⟨E.1.1, E.1.2.1, nI_0.symm, E.1.2.2.2⟩, E.2.1, E.2.2.1, E.2.2.2.1, fun i hi => absurd hi (Nat.not_lt_zero _), E.2.2.2.2.2⟩
theorem clearS_R (E : HR h ai si hc tn tk wm sh ki fi ac wy cr se sl on hs hn) : HR (clearS h) ai si 0 tn tk wm sh ki fi ac wy cr se sl on hs hn := ⟨⟨E.1.1, E.1.2.1, nI_0.symm, E.1.2.2.2⟩, E.2.1, E.2.2.1, fun i hi => absurd hi (Nat.not_lt_zero _), E.2.2.2.2.1, E.2.2.2.2.2⟩
theorem toggle_R (E : HR h ai si hc tn tk wm sh ki fi ac wy cr se sl on hs hn) {c : Nat} (hc36 : c < 36) : HR (toggleS h c) ai si hc tn tk wm (upd sh c ((1 : Int32) - sh c)) ki fi ac wy cr se sl on hs hn := by
  refine ⟨E.1, E.2.1, E.2.2.1, E.2.2.2.1, fun d hd => ?_, E.2.2.2.2.2⟩
  show upd sh c ((1 : Int32) - sh c) d = nB (up (aSd h) c (!aSd h c) d)
  by_cases z : d = c
  · subst z
    rw [pk_us, up_s, E.2.2.2.2.1 d hd]
    cases aSd h d <;> decide
  · rw [pk_un z, up_n z]
    exact E.2.2.2.2.1 d hd
theorem addStep_R (E : HR h ai si hc tn tk wm sh ki fi ac wy cr se sl on hs hn) {st n : Nat} (hst : st < 7) {v : Int32} (hv : v = nI (if st = 6 then 0 else n)) : HR (addStepS h st n) ai si (nI (aHc h + 1)) tn tk wm sh ki fi ac wy cr se sl on (upd hs (aHc h) (nI st)) (upd hn (aHc h) v) := by
  refine ⟨⟨E.1.1, E.1.2.1, rfl, E.1.2.2.2⟩, E.2.1, E.2.2.1, fun i hi => ?_, E.2.2.2.2⟩
  have hi : i < aHc h + 1 := hi
  show upd hs (aHc h) (nI st) i = nI (up (aHs h) (aHc h) st i) ∧ upd hn (aHc h) v i = nI (if up (aHs h) (aHc h) st i = 6 then 0 else up (aHn h) (aHc h) n i)
  by_cases z : i = aHc h
  · subst z
    rw [pk_us, pk_us, up_s, up_s]
    exact ⟨rfl, hv⟩
  · rw [pk_un z, pk_un z, up_n z, up_n z]
    exact E.2.2.2.1 i (by omega)
theorem addAir_R (E : HR h ai si hc tn tk wm sh ki fi ac wy cr se sl on hs hn) {kd fg c w : Nat} : HR (addAirS h kd fg c w) (nI (aA h + 1)) si hc tn tk wm sh (upd ki (aA h) (nI kd)) (upd fi (aA h) (nI fg)) (upd ac (aA h) (nI c)) (upd wy (aA h) (nI w)) (upd cr (aA h) 0) se sl on hs hn := by
  refine ⟨⟨rfl, E.1.2⟩, fun i hi => ?_, E.2.2⟩
  have hi : i < aA h + 1 := hi
  show upd ki (aA h) (nI kd) i = nI (up (aKd h) (aA h) kd i) ∧ upd fi (aA h) (nI fg) i = nI (up (aFg h) (aA h) fg i) ∧ upd ac (aA h) (nI c) i = nI (up (aAc h) (aA h) c i) ∧ upd wy (aA h) (nI w) i = nI (up (aWy h) (aA h) w i) ∧ upd cr (aA h) 0 i = nB (up (aCr h) (aA h) false i)
  by_cases z : i = aA h
  · subst z
    rw [pk_us, pk_us, pk_us, pk_us, pk_us, up_s, up_s, up_s, up_s, up_s]
    exact ⟨rfl, rfl, rfl, rfl, rfl⟩
  · rw [pk_un z, pk_un z, pk_un z, pk_un z, pk_un z, up_n z, up_n z, up_n z, up_n z, up_n z]
    exact E.2.1 i (by omega)
theorem addSit_R (E : HR h ai si hc tn tk wm sh ki fi ac wy cr se sl on hs hn) {c n : Nat} : HR (addSitS h c n) ai (nI (aS h + 1)) hc tn tk wm sh ki fi ac wy cr (upd se (aS h) (nI c)) (upd sl (aS h) (nI n)) (upd on (aS h) 1) hs hn := by
  refine ⟨⟨E.1.1, rfl, E.1.2.2⟩, E.2.1, fun i hi => ?_, E.2.2.2⟩
  have hi : i < aS h + 1 := hi
  show upd se (aS h) (nI c) i = nI (up (aSt h) (aS h) c i) ∧ upd sl (aS h) (nI n) i = nI (up (aSh h) (aS h) n i) ∧ upd on (aS h) 1 i = nB (up (aOn h) (aS h) true i)
  by_cases z : i = aS h
  · subst z
    rw [pk_us, pk_us, pk_us, up_s, up_s, up_s]
    exact ⟨rfl, rfl, rfl⟩
  · rw [pk_un z, pk_un z, pk_un z, up_n z, up_n z, up_n z]
    exact E.2.2.1 i (by omega)
theorem addStep_C (V : aV h) (E : HC h sb ai cb si ob tn tk wm ki fi ac wy se sl hc hs hn) (hH : aHc h < 6) {st n : Nat} : f_X1_add hc hs hn (nI st) (nI n) = some (nI (aHc h + 1), upd hs (aHc h) (nI st), upd hn (aHc h) (nI n)) ∧ HC (addStepS h st n) sb ai cb si ob tn tk wm ki fi ac wy se sl (nI (aHc h + 1)) (upd hs (aHc h) (nI st)) (upd hn (aHc h) (nI n)) := by
  refine ⟨?_, ⟨E.1.1, E.1.2.1, rfl, E.1.2.2.2⟩, E.2.1, E.2.2.1, E.2.2.2.1, fun i hi => ?_, E.2.2.2.2.2⟩
  · unfold f_X1_add
    rw [E.1.2.2.1, show (6 : Int32) = nI 6 from rfl, dq_if_neg (nI_ge hH (by omega)), dq_gd_pos (vp_in_nI hH (by omega)), nI_clamp (by omega)]
    simp only [dq_let]
    rw [dq_gd_pos (vp_in_nI hH (by omega)), show nI (aHc h) + (1 : Int32) = nI (aHc h + 1) from nI_1 _]
  · have hi : i < aHc h + 1 := hi
    show upd hs (aHc h) (nI st) i = nI (up (aHs h) (aHc h) st i) ∧ upd hn (aHc h) (nI n) i = nI (up (aHn h) (aHc h) n i)
    by_cases z : i = aHc h
    · subst z
      rw [pk_us, pk_us, up_s, up_s]
      exact ⟨rfl, rfl⟩
    · rw [pk_un z, pk_un z, up_n z, up_n z]
      exact E.2.2.2.2.1 i (by omega)
end PH
theorem keepP_G {pc : Nat} {h : AH} {P : Nat → AH} (hg : aG h) (hP : ∀ i, i < pc → aG (P i)) : ∀ i, i < min (pc + 1) 8 → aG (keepP pc h P i) := by
  intro i hi
  unfold keepP
  by_cases p : pc = 8
  · rw [if_pos p]
    by_cases q : i = 7
    · rw [if_pos q]
      exact hg
    · rw [if_neg q]
      exact hP _ (by omega)
  · rw [if_neg p]
    by_cases q : i = pc
    · subst q
      rw [up_s]
      exact hg
    · rw [up_n q]
      exact hP i (by omega)
