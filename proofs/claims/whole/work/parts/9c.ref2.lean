/-! the reference's leaps, walks -/
section PS
variable {h : AH} {ai si hc tn tk : Int32} {wm : Nat → UInt32} {sh ki fi ac wy cr se sl on hs hn : Nat → Int32}
theorem r_arrive (V : aV h) (E : HR h ai si hc tn tk wm sh ki fi ac wy cr se sl on hs hn) {a c w : Nat} (ha : a < aA h) (hc36 : c < 36) (hw : w < 4) : ∃ (wm' : Nat → UInt32) (ac' wy' : Nat → Int32), f_X7_airComes tn wm ki fi ac wy (nI a) (nI c) (nI w) = some (wm', ac', wy') ∧ HR (arriveS h a c w) ai si hc tn tk wm' sh ki fi ac' wy' cr se sl on hs hn := by
  have hA := V.1.1
  have hi5 : vp_in (nI a) 5 := vp_in_nI (by omega) (by omega)
  have hi36 : vp_in (nI c) 36 := vp_in_nI hc36 (by omega)
  obtain ⟨v1, v2, v3, v4⟩ := V.2.1 a ha
  obtain ⟨e1, e2, e3, e4, e5⟩ := E.2.1 a ha
  have hch := r_chilled (t := aTn h) (V.2.2.2.2 c hc36).b v1 v2 (by have := V.1.2.2.2.1; omega)
  have hhe : ∀ x, f_X7_heldWarm x = some (heldF x) := fun x => by rw [r_held]; exact heldF_ok x
  (apply Exists.intro; apply Exists.intro; apply Exists.intro; apply And.intro)
  · unfold f_X7_airComes
    rw [dq_gd_pos hi5]
    simp only [dq_let]
    rw [dq_gd_pos hi5, dq_gd_pos hi5, dq_gd_pos hi5, dq_gd_pos hi36, nI_clamp (by omega), nI_clamp (by omega), e1, e2, E.1.2.2.2.1, E.2.2.2.2.2 c hc36, dq_bd_s hch, dq_bd_s (hhe _), dq_gd_pos hi36]
  · refine ⟨E.1, fun i hi => ?_, E.2.2.1, E.2.2.2.1, E.2.2.2.2.1, fun d hd => ?_⟩
    · obtain ⟨g1, g2, g3, g4, g5⟩ := E.2.1 i hi
      refine ⟨g1, g2, ?_, ?_, g5⟩
      · show upd ac a (nI c) i = nI (up (aAc h) a c i)
        by_cases q : i = a
        · subst q; rw [pk_us, up_s]
        · rw [pk_un q, up_n q]; exact g3
      · show upd wy a (nI w) i = nI (up (aWy h) a w i)
        by_cases q : i = a
        · subst q; rw [pk_us, up_s]
        · rw [pk_un q, up_n q]; exact g4
    · show vf_upd wm c _ d = up (aWm h) c _ d
      by_cases q : d = c
      · subst q; rw [vf_s, up_s]
      · rw [vf_n q, up_n q]; exact E.2.2.2.2.2 d hd
theorem r_heldN {v hi : Nat} (hv : v < 2 ^ 20) (hh : hi < 2 ^ 20) : f_X7_held (nI v) (nI hi) = some (nI (min v hi)) := by
  unfold f_X7_held
  rw [dq_if_pos (nI_pos' (by omega))]
  by_cases q : v ≤ hi
  · rw [dq_if_pos (nI_le q (by omega)), Nat.min_eq_left q]
  · rw [dq_if_neg (nI_ge (show hi < v by omega) (by omega)), Nat.min_eq_right (by omega)]
theorem r_heldM {v hi : Nat} (hv : v < 2 ^ 20) (hh : hi < 2 ^ 20) : f_X7_held (nI v - 1) (nI hi) = some (nI (min (v - 1) hi)) := by
  by_cases q : v = 0
  · subst q
    unfold f_X7_held
    rw [dq_if_neg (by rw [nI_0]; decide)]
    rw [Nat.zero_sub, Nat.min_eq_left (Nat.zero_le _), nI_0]
  · rw [show (1 : Int32) = nI 1 from rfl, pk_sub (by omega)]
    exact r_heldN (by omega) hh
theorem r_leap_hit (V : aV h) (E : HR h ai si hc tn tk wm sh ki fi ac wy cr se sl on hs hn) {a s b w : Nat} (ha : a < aA h) (hsS : s < aS h) (hon : aOn h s = true) (hb : b < 36) (hw : w < 4) : ∃ (wm' : Nat → UInt32) (ac' wy' sl' on' : Nat → Int32), (dq_gd (vp_in (nI s) 6) (dq_if ((sl (nI s).toNatClampNeg) = 0) (f_X7_leapsOnce_b121 (nI a) tn wm ki fi ac wy sl on (nI w) (nI b) (nI s) (nI (min (aTk h + 1) 9999)) (nI s) (0 : Int32)) (f_X7_leapsOnce_b121 (nI a) tn wm ki fi ac wy sl on (nI w) (nI b) (nI s) (nI (min (aTk h + 1) 9999)) (nI s) (1 : Int32)))) = some (1, nI (min (aTk h + 1) 9999), wm', ac', wy', sl', on') ∧ HR (arriveS (leapOverS h s) a b w) ai si hc tn (nI (min (aTk h + 1) 9999)) wm' sh ki fi ac' wy' cr se sl' on' hs hn := by
  have hS := V.1.2.1
  have hi6 : vp_in (nI s) 6 := vp_in_nI (by omega) (by omega)
  obtain ⟨e1, e2, e3⟩ := E.2.2.1 s hsS
  have v9 := (V.2.2.1 s hsS).2
  have hd : f_X7_held (nI (aSh h s) - 1) 9 = some (nI (min (aSh h s - 1) 9)) := r_heldM (hi := 9) (by omega) (by omega)
  rw [Nat.min_eq_left (by omega)] at hd
  have E1 : HR (leapOverS h s) ai si hc tn (nI (min (aTk h + 1) 9999)) wm sh ki fi ac wy cr se (upd sl s (nI (aSh h s - 1))) (upd on s (nB (decide (0 < aSh h s)))) hs hn := by
    refine ⟨⟨E.1.1, E.1.2.1, E.1.2.2.1, E.1.2.2.2.1, rfl⟩, E.2.1, fun i hi => ?_, E.2.2.2.1, E.2.2.2.2.1, E.2.2.2.2.2⟩
    obtain ⟨g1, g2, g3⟩ := E.2.2.1 i hi
    refine ⟨g1, ?_, ?_⟩
    · show upd sl s (nI (aSh h s - 1)) i = nI ((if 0 < aSh h s then up (aSh h) s (aSh h s - 1) else aSh h) i)
      by_cases z : i = s
      · subst z
        rw [pk_us]
        by_cases q : 0 < aSh h i
        · rw [if_pos q, up_s]
        · rw [if_neg q, show aSh h i = 0 by omega]
      · rw [pk_un z, g2]
        by_cases q : 0 < aSh h s
        · rw [if_pos q, up_n z]
        · rw [if_neg q]
    · show upd on s _ i = nB ((if 0 < aSh h s then aOn h else up (aOn h) s false) i)
      by_cases z : i = s
      · subst z
        rw [pk_us]
        by_cases q : 0 < aSh h i
        · rw [if_pos q, hon, decide_eq_true q]
        · rw [if_neg q, up_s, decide_eq_false q]
      · rw [pk_un z, g3]
        by_cases q : 0 < aSh h s
        · rw [if_pos q]
        · rw [if_neg q, up_n z]
  obtain ⟨wm', ac', wy', f, E2⟩ := r_arrive (leapOverS_V V (s := s)) E1 (a := a) (c := b) (w := w) ha hb hw
  refine ⟨wm', ac', wy', upd sl s (nI (aSh h s - 1)), upd on s (nB (decide (0 < aSh h s))), ?_, E2⟩
  rw [dq_gd_pos hi6, nI_clamp (by omega), e2]
  have fin : ∀ v : Int32, v = nB (decide (0 < aSh h s)) → f_X7_leapsOnce_b121 (nI a) tn wm ki fi ac wy sl on (nI w) (nI b) (nI s) (nI (min (aTk h + 1) 9999)) (nI s) v = some (1, nI (min (aTk h + 1) 9999), wm', ac', wy', upd sl s (nI (aSh h s - 1)), upd on s (nB (decide (0 < aSh h s)))) := by
    rintro v rfl
    unfold f_X7_leapsOnce_b121
    rw [dq_gd_pos hi6]
    simp only [dq_let]
    rw [dq_gd_pos hi6, nI_clamp (by omega), e2, dq_bd_s hd, dq_gd_pos hi6, dq_bd3_s f]
  by_cases q : aSh h s = 0
  · rw [dq_if_pos (by rw [q, nI_0])]
    exact fin 0 (by rw [q]; rfl)
  · rw [dq_if_neg (nI_ne0 (by omega) (by omega))]
    exact fin 1 (by rw [decide_eq_true (by omega)]; rfl)
theorem leapTo_nx2 {h : AH} {c w : Nat} : leapTo h c w = (match nx2 c w with | none => none | some b => match nxt c w with | none => none | some o => match sitAt h o with | none => none | some s => if freeS h b = true then some (s, b) else none) := by
  unfold leapTo nx2
  cases nxt c w with
  | none => rfl
  | some o => cases nxt o w <;> rfl
theorem r_leap_loop (V : aV h) (E : HR h ai si hc tn tk wm sh ki fi ac wy cr se sl on hs hn) {a : Nat} (ha : a < aA h) : ∀ (d k m : Nat), k + d = triesS h a → d < m → (∀ b, b < k → (leapTo h (aAc h a) (wayOf h a b)).isSome = false) → ∃ (tk' : Int32) (wm' : Nat → UInt32) (ac' wy' sl' on' : Nat → Int32), f_X7_leapsOnce_b2 (nI a) ai si tn tk wm sh ki fi ac wy cr se sl on m (nI k) = some (nB (leapOnce h a).isSome, tk', wm', ac', wy', sl', on') ∧ HR ((leapOnce h a).getD h) ai si hc tn tk' wm' sh ki fi ac' wy' cr se sl' on' hs hn
  | d, k, 0, _, q, _ => absurd q (by omega)
  | d, k, m + 1, hk, hm, hb => by
    have hA := V.1.1
    have h4 := triesS_le h a
    have hi5 : vp_in (nI a) 5 := vp_in_nI (by omega) (by omega)
    obtain ⟨v1, v2, v3, v4⟩ := V.2.1 a ha
    obtain ⟨e1, e2, e3, e4, e5⟩ := E.2.1 a ha
    have ht : f_X7_triesOf (cr a) = some (nI (triesS h a)) := by
      unfold f_X7_triesOf triesS
      rw [e5]
      by_cases q : aCr h a = true
      · rw [dq_if_pos (nB_1.mpr q), if_pos q]; rfl
      · rw [dq_if_neg (fun z => q (nB_1.mp z)), if_neg q]; rfl
    rw [f_X7_leapsOnce_b2, dq_gd_pos hi5, nI_clamp (by omega), dq_bd_s ht]
    cases d with
    | zero =>
      have hw : leapWay h a = none := by
        unfold leapWay
        exact fM_none.mpr (fun b hb2 => hb b (by omega))
      have hl : leapOnce h a = none := by unfold leapOnce; rw [hw]
      rw [dq_if_pos (nI_le (by omega) (by omega)), hl]
      exact ⟨tk, wm, ac, wy, sl, on, rfl, E⟩
    | succ d =>
      have hwl := wayOf_lt h a k
      have go : (leapTo h (aAc h a) (wayOf h a k)).isSome = false → ∃ (tk' : Int32) (wm' : Nat → UInt32) (ac' wy' sl' on' : Nat → Int32), f_X7_leapsOnce_b2 (nI a) ai si tn tk wm sh ki fi ac wy cr se sl on m (nI k + 1) = some (nB (leapOnce h a).isSome, tk', wm', ac', wy', sl', on') ∧ HR ((leapOnce h a).getD h) ai si hc tn tk' wm' sh ki fi ac' wy' cr se sl' on' hs hn := by
        intro q
        rw [show nI k + (1 : Int32) = nI (k + 1) from nI_1 k]
        refine r_leap_loop V E ha d (k + 1) m (by omega) (by omega) (fun b hb2 => ?_)
        by_cases hbk : b = k
        · subst hbk
          exact q
        · exact hb b (by omega)
      rw [dq_if_neg (nI_ge (by omega) (by omega)), dq_gd_pos hi5]
      simp only [dq_let]
      rw [e4, way_nI v4 (by omega), show (aWy h a + k) % 4 = wayOf h a k from rfl, dq_gd_pos hi5, e3, dq_bd_s (away1 v3 hwl), dq_gd_pos hi5, dq_bd_s (away2 v3 hwl)]
      cases h2 : nx2 (aAc h a) (wayOf h a k) with
      | none =>
        have hl : leapTo h (aAc h a) (wayOf h a k) = none := by rw [leapTo_nx2, h2]
        simp only [eN]
        rw [dq_if_neg nI_m1_ge]
        unfold f_X7_leapsOnce_b68
        rw [dq_if_pos (by decide)]
        exact go (by rw [hl]; rfl)
      | some b =>
        have h2' := h2
        unfold nx2 at h2
        cases h1 : nxt (aAc h a) (wayOf h a k) with
        | none => rw [h1] at h2; cases h2
        | some o =>
          rw [h1] at h2
          simp only at h2
          have ho := nxt_lt h1 v3
          have hbl := nxt_lt h2 ho
          simp only [eN]
          rw [dq_if_pos (nI_pos' (by omega)), dq_bd_s (r_sitterOn V E ho)]
          cases hs1 : sitAt h o with
          | none =>
            have hl : leapTo h (aAc h a) (wayOf h a k) = none := by rw [leapTo_nx2, h2']; simp only; rw [h1]; simp only; rw [hs1]
            simp only [eN]
            unfold f_X7_leapsOnce_b68
            rw [dq_if_pos (by decide)]
            exact go (by rw [hl]; rfl)
          | some s =>
            have hsl := sitAt_lt V hs1
            have hsp := fM_some.mp hs1
            simp only [Bool.and_eq_true] at hsp
            simp only [eN]
            unfold f_X7_leapsOnce_b68
            rw [dq_if_neg (nI_pos (by omega)), dq_bd_s (r_isFree V E hbl)]
            by_cases hf : freeS h b = true
            · have hl : leapTo h (aAc h a) (wayOf h a k) = some (s, b) := by rw [leapTo_nx2, h2']; simp only; rw [h1]; simp only; rw [hs1]; simp only; rw [if_pos hf]
              have hw : leapWay h a = some k := by
                unfold leapWay
                exact fM_some.mpr ⟨by omega, by rw [hl]; rfl, hb⟩
              have hlo : leapOnce h a = some (arriveS (leapOverS h s) a b (wayOf h a k)) := by
                unfold leapOnce
                rw [hw]
                simp only
                rw [hl]
              have htk : f_X7_held (tk + 1) 9999 = some (nI (min (aTk h + 1) 9999)) := by
                rw [E.1.2.2.2.2, show nI (aTk h) + (1 : Int32) = nI (aTk h + 1) from nI_1 _]
                exact r_heldN (hi := 9999) (by have := V.1.2.2.2.2; omega) (by omega)
              obtain ⟨wm', ac', wy', sl', on', f, E'⟩ := r_leap_hit V E (a := a) (s := s) (b := b) (w := wayOf h a k) ha hsp.1 hsp.2.1.2 hbl hwl
              rw [dq_if_neg (fun z => nB_0.mp z hf), dq_bd_s htk, f, hlo]
              exact ⟨_, wm', ac', wy', sl', on', rfl, E'⟩
            · have hl : leapTo h (aAc h a) (wayOf h a k) = none := by rw [leapTo_nx2, h2']; simp only; rw [h1]; simp only; rw [hs1]; simp only; rw [if_neg hf]
              rw [dq_if_pos (nB_0.mpr hf)]
              exact go (by rw [hl]; rfl)
theorem r_leapsOnce (V : aV h) (E : HR h ai si hc tn tk wm sh ki fi ac wy cr se sl on hs hn) {a : Nat} (ha : a < aA h) : ∃ (tk' : Int32) (wm' : Nat → UInt32) (ac' wy' sl' on' : Nat → Int32), f_X7_leapsOnce ai si tn tk wm sh ki fi ac wy cr se sl on (nI a) = some (nB (leapOnce h a).isSome, tk', wm', ac', wy', sl', on') ∧ HR ((leapOnce h a).getD h) ai si hc tn tk' wm' sh ki fi ac' wy' cr se sl' on' hs hn := by
  unfold f_X7_leapsOnce
  rw [show (0 : Int32) = nI 0 from nI_0.symm]
  exact r_leap_loop V E ha (triesS h a) 0 4096 (by omega) (by have := triesS_le h a; omega) (fun b hb => absurd hb (by omega))
theorem r_walk_loop (V : aV h) (E : HR h ai si hc tn tk wm sh ki fi ac wy cr se sl on hs hn) {a : Nat} (ha : a < aA h) : ∀ (d k m : Nat), k + d = triesS h a → d < m → (∀ b, b < k → (walkTo h (aAc h a) (wayOf h a b)).isSome = false) → ∃ (wm' : Nat → UInt32) (ac' wy' : Nat → Int32), f_X7_walks_b2 (nI a) ai si tn wm sh ki fi ac wy cr se on m (nI k) = some (wm', ac', wy') ∧ HR (walkS h a) ai si hc tn tk wm' sh ki fi ac' wy' cr se sl on hs hn
  | d, k, 0, _, q, _ => absurd q (by omega)
  | d, k, m + 1, hk, hm, hb => by
    have hA := V.1.1
    have h4 := triesS_le h a
    have hi5 : vp_in (nI a) 5 := vp_in_nI (by omega) (by omega)
    obtain ⟨v1, v2, v3, v4⟩ := V.2.1 a ha
    obtain ⟨e1, e2, e3, e4, e5⟩ := E.2.1 a ha
    have ht : f_X7_triesOf (cr a) = some (nI (triesS h a)) := by
      unfold f_X7_triesOf triesS
      rw [e5]
      by_cases q : aCr h a = true
      · rw [dq_if_pos (nB_1.mpr q), if_pos q]; rfl
      · rw [dq_if_neg (fun z => q (nB_1.mp z)), if_neg q]; rfl
    rw [f_X7_walks_b2, dq_gd_pos hi5, nI_clamp (by omega), dq_bd_s ht]
    cases d with
    | zero =>
      have hw : walkWay h a = none := by
        unfold walkWay
        exact fM_none.mpr (fun b hb2 => hb b (by omega))
      have hl : walkS h a = setAir h (aAc h) (up (aWy h) a ((aWy h a + 2) % 4)) (aWm h) := by unfold walkS; rw [hw]
      rw [dq_if_pos (nI_le (by omega) (by omega)), dq_gd_pos hi5, dq_gd_pos hi5, hl]
      simp only [dq_let]
      rw [e4, show (2 : Int32) = nI 2 from rfl, way_nI v4 (by omega)]
      refine ⟨wm, ac, _, rfl, E.1, fun i hi => ?_, E.2.2⟩
      obtain ⟨g1, g2, g3, g4, g5⟩ := E.2.1 i hi
      refine ⟨g1, g2, g3, ?_, g5⟩
      show upd wy a _ i = nI (up (aWy h) a ((aWy h a + 2) % 4) i)
      by_cases q : i = a
      · subst q; rw [pk_us, up_s]
      · rw [pk_un q, up_n q]; exact g4
    | succ d =>
      have hwl := wayOf_lt h a k
      have go : (walkTo h (aAc h a) (wayOf h a k)).isSome = false → ∃ (wm' : Nat → UInt32) (ac' wy' : Nat → Int32), f_X7_walks_b2 (nI a) ai si tn wm sh ki fi ac wy cr se on m (nI k + 1) = some (wm', ac', wy') ∧ HR (walkS h a) ai si hc tn tk wm' sh ki fi ac' wy' cr se sl on hs hn := by
        intro q
        rw [show nI k + (1 : Int32) = nI (k + 1) from nI_1 k]
        refine r_walk_loop V E ha d (k + 1) m (by omega) (by omega) (fun b hb2 => ?_)
        by_cases hbk : b = k
        · subst hbk
          exact q
        · exact hb b (by omega)
      rw [dq_if_neg (nI_ge (by omega) (by omega)), dq_gd_pos hi5]
      simp only [dq_let]
      rw [e4, way_nI v4 (by omega), show (aWy h a + k) % 4 = wayOf h a k from rfl, dq_gd_pos hi5, e3, dq_bd_s (away1 v3 hwl)]
      cases h1 : nxt (aAc h a) (wayOf h a k) with
      | none =>
        have hl : walkTo h (aAc h a) (wayOf h a k) = none := by unfold walkTo; rw [h1]
        simp only [eN]
        rw [dq_if_pos nI_m1_lt]
        exact go (by rw [hl]; rfl)
      | some o =>
        have ho := nxt_lt h1 v3
        simp only [eN]
        rw [dq_if_neg (nI_pos (by omega)), dq_bd_s (r_isFree V E ho)]
        by_cases hf : freeS h o = true
        · have hl : walkTo h (aAc h a) (wayOf h a k) = some o := by unfold walkTo; rw [h1]; simp only; rw [if_pos hf]
          have hw : walkWay h a = some k := by
            unfold walkWay
            exact fM_some.mpr ⟨by omega, by rw [hl]; rfl, hb⟩
          have hlo : walkS h a = arriveS h a o (wayOf h a k) := by
            unfold walkS
            rw [hw]
            simp only
            rw [hl]
          obtain ⟨wm', ac', wy', f, E'⟩ := r_arrive V E (a := a) (c := o) (w := wayOf h a k) ha ho hwl
          rw [dq_if_neg (fun z => nB_0.mp z hf), dq_bd3_s f, hlo]
          exact ⟨wm', ac', wy', rfl, E'⟩
        · have hl : walkTo h (aAc h a) (wayOf h a k) = none := by unfold walkTo; rw [h1]; simp only; rw [if_neg hf]
          rw [dq_if_pos (nB_0.mpr hf)]
          exact go (by rw [hl]; rfl)
theorem r_walks (V : aV h) (E : HR h ai si hc tn tk wm sh ki fi ac wy cr se sl on hs hn) {a : Nat} (ha : a < aA h) : ∃ (wm' : Nat → UInt32) (ac' wy' : Nat → Int32), f_X7_walks ai si tn wm sh ki fi ac wy cr se on (nI a) = some (wm', ac', wy') ∧ HR (walkS h a) ai si hc tn tk wm' sh ki fi ac' wy' cr se sl on hs hn := by
  unfold f_X7_walks
  rw [show (0 : Int32) = nI 0 from nI_0.symm]
  exact r_walk_loop V E ha (triesS h a) 0 4096 (by omega) (by have := triesS_le h a; omega) (fun b hb => absurd hb (by omega))
end PS
