section PG
variable {h : AH} {sb : Int64} {ai cb si ob tn tk hc : Int32} {wm : Nat → UInt32} {ki fi ac wy se sl hs hn : Nat → Int32}
/-- an air on the first or the last line is crowned -/
theorem c_crown (V : aV h) (E : HC h sb ai cb si ob tn tk wm ki fi ac wy se sl hc hs hn) {a : Nat} (ha : a < aA h) : ∃ cb' : Int32, f_X2_blow_b141 (nI a) cb ob tk sl wm ac wy = some (cb', ob, tk, wm, ac, wy, sl) ∧ HC (crownS h a) sb ai cb' si ob tn tk wm ki fi ac wy se sl hc hs hn := by
  have hA := V.1.1
  have hi5 : vp_in (nI a) 5 := vp_in_nI (by omega) (by omega)
  obtain ⟨v1, v2, v3, v4⟩ := V.2.1 a ha
  obtain ⟨e1, e2, e3, e4⟩ := E.2.2.1 a ha
  have hd : nI (aAc h a) / (6 : Int32) = nI (aAc h a / 6) := pk_div (d := 6) (by omega) (by omega) (by omega)
  unfold f_X2_blow_b141
  rw [dq_gd_pos hi5, nI_clamp (by omega), e3]
  simp only [dq_let]
  rw [hd]
  have set : f_X2_blow_b163 (nI a) cb ob tk sl wm ac wy = some (nI (bN (up (aCr h) a true) (aA h)), ob, tk, wm, ac, wy, sl) := by
    unfold f_X2_blow_b163
    simp only [dq_let]
    rw [E.2.1.1, bits_set (by omega) ha]
  have good : HC (setCr h (up (aCr h) a true)) sb ai (nI (bN (up (aCr h) a true) (aA h))) si ob tn tk wm ki fi ac wy se sl hc hs hn := ⟨E.1, ⟨rfl, E.2.1.2⟩, E.2.2⟩
  by_cases q0 : aAc h a / 6 = 0
  · (apply Exists.intro; apply And.intro)
    · rw [q0, dq_if_pos (by rfl)]
      exact set
    · unfold crownS
      rw [if_pos (Or.inl q0)]
      exact good
  · by_cases q5 : aAc h a / 6 = 5
    · (apply Exists.intro; apply And.intro)
      · rw [dq_if_neg (nI_ne0 (by omega) (by omega)), q5, dq_if_pos (by rfl)]
        exact set
      · unfold crownS
        rw [if_pos (Or.inr q5)]
        exact good
    · refine ⟨cb, ?_, ?_⟩
      · rw [dq_if_neg (nI_ne0 (by omega) (by omega)), show (5 : Int32) = nI 5 from rfl, dq_if_neg (fun q => q5 ((nI_eq (by omega) (by omega)).mp q))]
      · unfold crownS
        rw [if_neg (by omega)]
        exact E
theorem setWy_E (E : HC h sb ai cb si ob tn tk wm ki fi ac wy se sl hc hs hn) {a w : Nat} : HC (setAir h (aAc h) (up (aWy h) a w) (aWm h)) sb ai cb si ob tn tk wm ki fi ac (upd wy a (nI w)) se sl hc hs hn := by
  refine ⟨E.1, E.2.1, fun i hi => ?_, E.2.2.2.1, E.2.2.2.2.1, E.2.2.2.2.2⟩
  obtain ⟨g1, g2, g3, g4⟩ := E.2.2.1 i hi
  refine ⟨g1, g2, g3, ?_⟩
  show upd wy a (nI w) i = nI (up (aWy h) a w i)
  by_cases q : i = a
  · subst q; rw [pk_us, up_s]
  · rw [pk_un q, up_n q]; exact g4
theorem walkS_V (V : aV h) {a : Nat} (ha : a < aA h) : aV (walkS h a) ∧ aA (walkS h a) = aA h ∧ aS (walkS h a) = aS h := by
  unfold walkS
  cases hw : walkWay h a with
  | none =>
    obtain ⟨v1, v2, v3, v4, v5⟩ := V
    refine ⟨⟨v1, fun i hi => ?_, v3, v4, v5⟩, rfl, rfl⟩
    obtain ⟨g1, g2, g3, g4⟩ := v2 i hi
    refine ⟨g1, g2, g3, ?_⟩
    show up (aWy h) a ((aWy h a + 2) % 4) i < 4
    by_cases q : i = a
    · subst q; rw [up_s]; exact Nat.mod_lt _ (by decide)
    · rw [up_n q]; exact g4
  | some k =>
    simp only
    cases hl : walkTo h (aAc h a) (wayOf h a k) with
    | none => exact ⟨V, rfl, rfl⟩
    | some n =>
      obtain ⟨-, hn⟩ := walkTo_spec (V.2.1 a ha).2.2.1 hl
      exact ⟨arriveS_V V hn (wayOf_lt _ _ _) ha, rfl, rfl⟩
theorem crownS_V (V : aV h) {a : Nat} : aV (crownS h a) ∧ aA (crownS h a) = aA h ∧ aS (crownS h a) = aS h := by
  unfold crownS
  split
  · exact ⟨V, rfl, rfl⟩
  · exact ⟨V, rfl, rfl⟩
theorem c_walk (V : aV h) (E : HC h sb ai cb si ob tn tk wm ki fi ac wy se sl hc hs hn) {a : Nat} (ha : a < aA h) : ∃ (wm' : Nat → UInt32) (ac' wy' : Nat → Int32), f_X2_blow_b88 (nI a) sb ai cb si tn ki fi se (nI 0) ob tk wm ac wy sl = f_X2_blow_b141 (nI a) cb ob tk sl wm' ac' wy' ∧ HC (walkS h a) sb ai cb si ob tn tk wm' ki fi ac' wy' se sl hc hs hn := by
  have hA := V.1.1
  have hi5 : vp_in (nI a) 5 := vp_in_nI (by omega) (by omega)
  obtain ⟨v1, v2, v3, v4⟩ := V.2.1 a ha
  obtain ⟨e1, e2, e3, e4⟩ := E.2.2.1 a ha
  unfold f_X2_blow_b88
  rw [dq_if_pos (by rfl), dq_bd_s (c_wayToWalk V E ha)]
  unfold walkS
  cases hw : walkWay h a with
  | none =>
    simp only [eW]
    rw [dq_if_neg nI_m1_ge, dq_gd_pos hi5, dq_gd_pos hi5]
    simp only [dq_let]
    rw [nI_clamp (by omega), e4, show (2 : Int32) = nI 2 from rfl, way_nI v4 (by omega)]
    exact ⟨_, _, _, rfl, setWy_E E⟩
  | some k =>
    simp only [eW]
    have hwl := wayOf_lt h a k
    have hsome : (walkTo h (aAc h a) (wayOf h a k)).isSome = true := (fM_some.mp hw).2.1
    obtain ⟨n, hlt⟩ := Option.isSome_iff_exists.mp hsome
    obtain ⟨n1, n2⟩ := walkTo_spec v3 hlt
    rw [hlt]
    simp only
    rw [dq_if_pos (nI_pos' (by omega)), dq_gd_pos hi5, nI_clamp (by omega), e3, dq_bd_s (nextCell_ok v3 hwl), n1]
    simp only [eN]
    obtain ⟨wm2, ac2, wy2, f2, E2⟩ := c_arrive V E ha n2 hwl
    rw [f2]
    exact ⟨wm2, ac2, wy2, rfl, E2⟩
theorem leapsIter_V {a : Nat} : ∀ (n : Nat) (h : AH), aV h → a < aA h → aV (leapsIter a n h).2 ∧ aA (leapsIter a n h).2 = aA h ∧ aS (leapsIter a n h).2 = aS h
  | 0, h, V, ha => ⟨V, rfl, rfl⟩
  | n + 1, h, V, ha => by
    unfold leapsIter
    cases q : leapOnce h a with
    | none => exact ⟨V, rfl, rfl⟩
    | some h' =>
      simp only
      obtain ⟨V', hA', -, -⟩ := leapOnce_V V ha q
      have hS' : aS h' = aS h := by
        unfold leapOnce at q
        split at q
        · cases q
        · split at q
          · cases q
          · cases q
            rfl
      obtain ⟨g1, g2, g3⟩ := leapsIter_V n h' V' (by rw [hA']; exact ha)
      exact ⟨g1, g2.trans hA', g3.trans hS'⟩
theorem leapsS_le {k f : Nat} (hf : f ≤ 9) : leapsS k f ≤ 30 := by
  unfold leapsS
  repeat' split
  all_goals omega
theorem blowS_V (V : aV h) {a : Nat} (ha : a < aA h) : aV (blowS h a) ∧ aA (blowS h a) = aA h ∧ aS (blowS h a) = aS h := by
  unfold blowS
  obtain ⟨g1, g2, g3⟩ := leapsIter_V (leapsS (aKd h a) (aFg h a)) h V ha
  split
  · obtain ⟨k1, k2, k3⟩ := walkS_V g1 (a := a) (by rw [g2]; exact ha)
    obtain ⟨l1, l2, l3⟩ := crownS_V k1 (a := a)
    exact ⟨l1, l2.trans (k2.trans g2), l3.trans (k3.trans g3)⟩
  · obtain ⟨l1, l2, l3⟩ := crownS_V g1 (a := a)
    exact ⟨l1, l2.trans g2, l3.trans g3⟩
theorem c_blow (V : aV h) (E : HC h sb ai cb si ob tn tk wm ki fi ac wy se sl hc hs hn) {a : Nat} (ha : a < aA h) : ∃ (cb' ob' tk' : Int32) (wm' : Nat → UInt32) (ac' wy' sl' : Nat → Int32), f_X2_blow sb ai cb si ob tn tk wm ki fi ac wy se sl (nI a) = some (cb', ob', tk', wm', ac', wy', sl') ∧ HC (blowS h a) sb ai cb' si ob' tn tk' wm' ki fi ac' wy' se sl' hc hs hn := by
  have hA := V.1.1
  have hi5 : vp_in (nI a) 5 := vp_in_nI (by omega) (by omega)
  obtain ⟨v1, v2, v3, v4⟩ := V.2.1 a ha
  obtain ⟨e1, e2, e3, e4⟩ := E.2.2.1 a ha
  have hL := leapsS_le (k := aKd h a) v2
  unfold f_X2_blow
  rw [dq_gd_pos hi5, dq_gd_pos hi5, nI_clamp (by omega), e1, e2, dq_bd_s (leaps_ok v1 v2)]
  rw [show (0 : Int32) = nI 0 from nI_0.symm]
  obtain ⟨ob1, tk1, wm1, ac1, wy1, sl1, V1, ha1, E1, f1⟩ := c_leaps_loop hL (leapsS (aKd h a) (aFg h a)) 0 4096 h ob tk wm ac wy sl V E ha (by omega) (by omega)
  rw [f1, Nat.zero_add]
  unfold blowS
  by_cases q : (leapsIter a (leapsS (aKd h a) (aFg h a)) h).1 = 0
  · rw [if_pos q, q]
    obtain ⟨wm2, ac2, wy2, f2, E2⟩ := c_walk V1 E1 ha1
    obtain ⟨V2, hA2, -⟩ := walkS_V V1 ha1
    obtain ⟨cb3, f3, E3⟩ := c_crown V2 E2 (a := a) (by rw [hA2]; exact ha1)
    rw [f2, f3]
    exact ⟨cb3, ob1, tk1, wm2, ac2, wy2, sl1, rfl, E3⟩
  · rw [if_neg q]
    have hle : (leapsIter a (leapsS (aKd h a) (aFg h a)) h).1 < 2 ^ 31 := by
      have : ∀ (n : Nat) (h : AH), (leapsIter a n h).1 ≤ n := by
        intro n
        induction n with
        | zero => intro h; exact Nat.le_refl _
        | succ n ih =>
          intro h
          unfold leapsIter
          split
          · exact Nat.zero_le _
          · exact Nat.succ_le_succ (ih _)
      have := this (leapsS (aKd h a) (aFg h a)) h
      omega
    unfold f_X2_blow_b88
    rw [dq_if_neg (nI_ne0 (by omega) hle)]
    obtain ⟨cb3, f3, E3⟩ := c_crown V1 E1 ha1
    rw [f3]
    exact ⟨cb3, ob1, tk1, wm1, ac1, wy1, sl1, rfl, E3⟩
end PG
