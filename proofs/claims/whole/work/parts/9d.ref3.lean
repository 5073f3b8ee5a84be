/-! the reference's turn -/
section PQ
variable {h : AH} {ai si hc tn tk : Int32} {wm : Nat → UInt32} {sh ki fi ac wy cr se sl on hs hn : Nat → Int32}
theorem r_leaps_loop {a most : Nat} (hm30 : most ≤ 30) : ∀ (d k m : Nat) (h : AH) (tk : Int32) (wm : Nat → UInt32) (ac wy sl on : Nat → Int32), aV h → HR h ai si hc tn tk wm sh ki fi ac wy cr se sl on hs hn → a < aA h → k + d = most → d < m → ∃ (tk' : Int32) (wm' : Nat → UInt32) (ac' wy' sl' on' : Nat → Int32), f_X7_airGoes_b8 (nI a) ai si tn sh ki fi cr se (nI most) m (nI k) tk wm ac wy sl on = f_X7_airGoes_b27 (nI a) ai si tn sh ki fi cr se (nI (k + (leapsIter a d h).1)) tk' wm' ac' wy' sl' on' ∧ HR (leapsIter a d h).2 ai si hc tn tk' wm' sh ki fi ac' wy' cr se sl' on' hs hn
  | d, k, 0, _, _, _, _, _, _, _, _, _, _, _, q => absurd q (by omega)
  | 0, k, m + 1, h, tk, wm, ac, wy, sl, on, V, E, ha, hk, _ => by
    refine ⟨tk, wm, ac, wy, sl, on, ?_, E⟩
    rw [f_X7_airGoes_b8, dq_if_pos (nI_le (by omega) (by omega))]
    rfl
  | d + 1, k, m + 1, h, tk, wm, ac, wy, sl, on, V, E, ha, hk, hm => by
    obtain ⟨tk1, wm1, ac1, wy1, sl1, on1, f1, E1⟩ := r_leapsOnce V E ha
    rw [f_X7_airGoes_b8, dq_if_neg (nI_ge (by omega) (by omega)), dq_bd7_s f1]
    cases hl : leapOnce h a with
    | none =>
      rw [hl] at E1
      have hi : leapsIter a (d + 1) h = (0, h) := by
        show (match leapOnce h a with | none => (0, h) | some h' => ((leapsIter a d h').1 + 1, (leapsIter a d h').2)) = (0, h)
        rw [hl]
      rw [hi, dq_if_pos (by rfl)]
      exact ⟨tk1, wm1, ac1, wy1, sl1, on1, rfl, E1⟩
    | some h' =>
      rw [hl] at E1
      obtain ⟨V', hA', -, -⟩ := leapOnce_V V ha hl
      obtain ⟨tk2, wm2, ac2, wy2, sl2, on2, f2, E2⟩ := r_leaps_loop hm30 d (k + 1) m h' tk1 wm1 ac1 wy1 sl1 on1 V' E1 (by rw [hA']; exact ha) (by omega) (by omega)
      have hi : leapsIter a (d + 1) h = ((leapsIter a d h').1 + 1, (leapsIter a d h').2) := by
        show (match leapOnce h a with | none => (0, h) | some h' => ((leapsIter a d h').1 + 1, (leapsIter a d h').2)) = _
        rw [hl]
      rw [hi, dq_if_neg (show ¬ nB (some h').isSome = 0 from fun z => nB_0.mp z rfl)]
      simp only [dq_let]
      rw [show nI k + (1 : Int32) = nI (k + 1) from nI_1 k, f2]
      exact ⟨tk2, wm2, ac2, wy2, sl2, on2, by rw [show k + 1 + (leapsIter a d h').1 = k + ((leapsIter a d h').1 + 1) by omega], E2⟩
theorem r_crown (V : aV h) (E : HR h ai si hc tn tk wm sh ki fi ac wy cr se sl on hs hn) {a : Nat} (ha : a < aA h) : ∃ cr' : Nat → Int32, f_X7_airGoes_b36 (nI a) cr tk sl on wm ac wy = some (tk, wm, ac, wy, cr', sl, on) ∧ HR (crownS h a) ai si hc tn tk wm sh ki fi ac wy cr' se sl on hs hn := by
  have hA := V.1.1
  have hi5 : vp_in (nI a) 5 := vp_in_nI (by omega) (by omega)
  obtain ⟨v1, v2, v3, v4⟩ := V.2.1 a ha
  obtain ⟨e1, e2, e3, e4, e5⟩ := E.2.1 a ha
  have hd : nI (aAc h a) / (6 : Int32) = nI (aAc h a / 6) := pk_div (d := 6) (by omega) (by omega) (by omega)
  have good : HR (setCr h (up (aCr h) a true)) ai si hc tn tk wm sh ki fi ac wy (upd cr a 1) se sl on hs hn := by
    refine ⟨E.1, fun i hi => ?_, E.2.2⟩
    obtain ⟨g1, g2, g3, g4, g5⟩ := E.2.1 i hi
    refine ⟨g1, g2, g3, g4, ?_⟩
    show upd cr a 1 i = nB (up (aCr h) a true i)
    by_cases q : i = a
    · subst q; rw [pk_us, up_s]; rfl
    · rw [pk_un q, up_n q]; exact g5
  unfold f_X7_airGoes_b36
  rw [dq_gd_pos hi5, nI_clamp (by omega), e3]
  simp only [dq_let]
  rw [hd]
  by_cases q0 : aAc h a / 6 = 0
  · rw [q0, dq_if_pos (by rfl), dq_gd_pos hi5]
    refine ⟨_, rfl, ?_⟩
    unfold crownS
    rw [if_pos (Or.inl q0)]
    exact good
  · rw [dq_if_neg (nI_ne0 (by omega) (by omega))]
    by_cases q5 : aAc h a / 6 = 5
    · rw [q5, dq_if_pos (by rfl), dq_gd_pos hi5]
      refine ⟨_, rfl, ?_⟩
      unfold crownS
      rw [if_pos (Or.inr q5)]
      exact good
    · rw [show (5 : Int32) = nI 5 from rfl, dq_if_neg (fun q => q5 ((nI_eq (by omega) (by omega)).mp q)), dq_gd_pos hi5, dq_gd_pos hi5]
      refine ⟨_, rfl, ?_⟩
      unfold crownS
      rw [if_neg (by omega)]
      refine ⟨E.1, fun i hi => ?_, E.2.2⟩
      obtain ⟨g1, g2, g3, g4, g5⟩ := E.2.1 i hi
      refine ⟨g1, g2, g3, g4, ?_⟩
      by_cases q : i = a
      · subst q; rw [pk_us]; exact g5
      · rw [pk_un q]; exact g5
theorem r_airGoes (V : aV h) (E : HR h ai si hc tn tk wm sh ki fi ac wy cr se sl on hs hn) {a : Nat} (ha : a < aA h) : ∃ (tk' : Int32) (wm' : Nat → UInt32) (ac' wy' cr' sl' on' : Nat → Int32), f_X7_airGoes ai si tn tk wm sh ki fi ac wy cr se sl on (nI a) = some (tk', wm', ac', wy', cr', sl', on') ∧ HR (blowS h a) ai si hc tn tk' wm' sh ki fi ac' wy' cr' se sl' on' hs hn := by
  have hA := V.1.1
  obtain ⟨v1, v2, v3, v4⟩ := V.2.1 a ha
  obtain ⟨e1, e2, e3, e4, e5⟩ := E.2.1 a ha
  have hL := leapsS_le (k := aKd h a) v2
  unfold f_X7_airGoes
  rw [dq_bd_s (r_leapsOf (by omega) e1 e2 v1 v2), show (0 : Int32) = nI 0 from nI_0.symm]
  obtain ⟨tk1, wm1, ac1, wy1, sl1, on1, f1, E1⟩ := r_leaps_loop hL (leapsS (aKd h a) (aFg h a)) 0 4096 h tk wm ac wy sl on V E ha (by omega) (by omega)
  obtain ⟨V1, hA1, hS1⟩ := leapsIter_V (leapsS (aKd h a) (aFg h a)) h V ha
  rw [f1, Nat.zero_add]
  unfold blowS f_X7_airGoes_b27
  by_cases q : (leapsIter a (leapsS (aKd h a) (aFg h a)) h).1 = 0
  · rw [if_pos q, q, dq_if_pos (by rfl)]
    obtain ⟨wm2, ac2, wy2, f2, E2⟩ := r_walks V1 E1 (a := a) (by rw [hA1]; exact ha)
    obtain ⟨V2, hA2, -⟩ := walkS_V V1 (a := a) (by rw [hA1]; exact ha)
    obtain ⟨cr3, f3, E3⟩ := r_crown V2 E2 (a := a) (by rw [hA2, hA1]; exact ha)
    rw [dq_bd3_s f2, f3]
    exact ⟨tk1, wm2, ac2, wy2, cr3, sl1, on1, rfl, E3⟩
  · have hle : (leapsIter a (leapsS (aKd h a) (aFg h a)) h).1 < 2 ^ 31 := by
      have : ∀ (n : Nat) (h : AH), (leapsIter a n h).1 ≤ n := by
        intro n
        induction n with
        | zero => intro h; exact Nat.le_refl _
        | succ n ih =>
          intro h
          unfold leapsIter
          split
          · exact Nat.zero_le _
          · exact Nat.succ_le_succ (ih _)
      have := this (leapsS (aKd h a) (aFg h a)) h
      omega
    rw [if_neg q, dq_if_neg (nI_ne0 (by omega) hle)]
    obtain ⟨cr3, f3, E3⟩ := r_crown V1 E1 (a := a) (by rw [hA1]; exact ha)
    rw [f3]
    exact ⟨tk1, wm1, ac1, wy1, cr3, sl1, on1, rfl, E3⟩
theorem stepF_hN (h : AH) (k : Nat) (w : UInt32) : stepF (aHs h k) (FP.i2f (nI (hN h k))) w = stepF (aHs h k) (FP.i2f (nI (aHn h k))) w := by
  unfold hN
  by_cases q : aHs h k = 6
  · rw [q]
    unfold stepF
    simp
  · rw [if_neg q]
theorem r_steps_loop (V : aV h) (he : ∀ i, i < aHc h → hs i = nI (aHs h i) ∧ hn i = nI (hN h i)) {c : Nat} (hc36 : c < 36) {w : Nat → UInt32} {w0 : UInt32} (hw : fB 160 w0) {k12 : Int32 → (Nat → UInt32) → Option (Int32 × Int32 × (Nat → UInt32) × (Nat → Int32) × (Nat → Int32) × (Nat → Int32) × (Nat → Int32) × (Nat → Int32))} : ∀ (d k m : Nat), k + d = aHc h → d < m → f_X7_turnOn_b27 (nI (aHc h)) hs hn (nI c) w k12 m (wlF (aHs h) (aHn h) k w0) (nI k) = k12 (nI (c + 1)) (vf_upd w c (warmF (aHc h) (aHs h) (aHn h) w0))
  | d, k, 0, _, q => absurd q (by omega)
  | 0, k, m + 1, hk, _ => by
    have h6 := V.1.2.2.1
    have : k = aHc h := by omega
    subst this
    rw [f_X7_turnOn_b27, dq_if_pos (nI_le (Nat.le_refl _) (by omega)), r_held, dq_bd_s (heldF_ok _), dq_gd_pos (vp_in_nI hc36 (by omega)), nI_clamp (by omega)]
    simp only [dq_let]
    rw [show nI c + (1 : Int32) = nI (c + 1) from nI_1 c]
    rfl
  | d + 1, k, m + 1, hk, hm => by
    have h6 := V.1.2.2.1
    have hkl : k < aHc h := by omega
    have h1 := V.2.2.2.1 k hkl
    have h2 := (stepF_ok (n := FP.i2f (nI (aHn h k))) (wlF_b hw (k := k) (by omega) (fun i hi => V.2.2.2.1 i (by omega))) (fB_nI (n := aHn h k) (by omega)) (by omega) (by omega) h1.1).1
    have h3 : f_X7_stepped (nI (aHs h k)) (FP.i2f (nI (hN h k))) (wlF (aHs h) (aHn h) k w0) = some (wlF (aHs h) (aHn h) (k + 1) w0) := by
      rw [r_stepped]
      by_cases q : aHs h k = 6
      · have h4 := (stepF_ok (n := FP.i2f (nI (hN h k))) (wlF_b hw (k := k) (by omega) (fun i hi => V.2.2.2.1 i (by omega))) (fB_nI (n := hN h k) (by unfold hN; rw [if_pos q]; omega)) (by omega) (by omega) h1.1).1
        rw [h4, stepF_hN]
        rfl
      · rw [show hN h k = aHn h k from if_neg q]
        exact h2
    rw [f_X7_turnOn_b27, dq_if_neg (nI_ge hkl (by omega)), dq_gd_pos (vp_in_nI (by omega) (by omega)), dq_gd_pos (vp_in_nI (by omega) (by omega)), nI_clamp (by omega), (he k hkl).1, (he k hkl).2, dq_bd_s h3]
    simp only [dq_let]
    rw [show nI k + (1 : Int32) = nI (k + 1) from nI_1 k]
    exact r_steps_loop V he hc36 hw d (k + 1) m (by omega) (by omega)
theorem r_cells_loop (V : aV h) (he : ∀ i, i < aHc h → hs i = nI (aHs h i) ∧ hn i = nI (hN h i)) {st t1 : Int32} : ∀ (d k m : Nat) (w : Nat → UInt32), k + d = 36 → d < m → (∀ c, c < 36 → w c = if c < k then warmF (aHc h) (aHs h) (aHn h) (aWm h c) else aWm h c) → ∃ w' : Nat → UInt32, f_X7_turnOn_b12 ai si (nI (aHc h)) tk st sh ki fi ac wy cr se sl on hs hn t1 m (nI k) w = f_X7_turnOn_b77 ai si st sh ki fi se t1 4096 (0 : Int32) tk w' ac wy cr sl on ∧ ∀ c, c < 36 → w' c = warmF (aHc h) (aHs h) (aHn h) (aWm h c)
  | d, k, 0, _, _, q, _ => absurd q (by omega)
  | 0, k, m + 1, w, hk, _, hw => by
    have : k = 36 := by omega
    subst this
    refine ⟨w, ?_, fun c hc => by rw [hw c hc, if_pos hc]⟩
    rw [f_X7_turnOn_b12, dq_if_pos (by decide)]
  | d + 1, k, m + 1, w, hk, hm, hw => by
    have hkl : k < 36 := by omega
    have h6 := V.1.2.2.1
    have e0 : w k = aWm h k := by rw [hw k hkl, if_neg (by omega)]
    have hst := r_steps_loop V he hkl (w := w) (w0 := aWm h k) ((V.2.2.2.2 k hkl).b.mono (by omega)) (k12 := f_X7_turnOn_b12 ai si (nI (aHc h)) tk st sh ki fi ac wy cr se sl on hs hn t1 m) (aHc h) 0 4096 (Nat.zero_add _) (by omega)
    rw [f_X7_turnOn_b12, show (36 : Int32) = nI 36 from rfl, dq_if_neg (nI_ge hkl (by omega)), dq_gd_pos (vp_in_nI hkl (by omega)), nI_clamp (by omega), e0]
    simp only [dq_let]
    have hst' : f_X7_turnOn_b27 (nI (aHc h)) hs hn (nI k) w (f_X7_turnOn_b12 ai si (nI (aHc h)) tk st sh ki fi ac wy cr se sl on hs hn t1 m) 4096 (aWm h k) (0 : Int32) = _ := hst
    rw [hst']
    refine r_cells_loop V he d (k + 1) m _ (by omega) (by omega) (fun c hc => ?_)
    by_cases q : c = k
    · subst q
      rw [vf_s, if_pos (by omega)]
    · rw [vf_n q, hw c hc]
      by_cases q2 : c < k
      · rw [if_pos q2, if_pos (by omega)]
      · rw [if_neg q2, if_neg (by omega)]
theorem r_airs_loop (V : aV h) : ∀ (d k m : Nat) (tk : Int32) (wm : Nat → UInt32) (ac wy cr sl on : Nat → Int32), k + d = aA h → d < m → HR (blowsS k h) ai si hc tn tk wm sh ki fi ac wy cr se sl on hs hn → ∃ (tk' : Int32) (wm' : Nat → UInt32) (ac' wy' cr' sl' on' : Nat → Int32), f_X7_turnOn_b77 ai si 0 sh ki fi se tn m (nI k) tk wm ac wy cr sl on = f_X7_turnOn_b103 si se tn tk' wm' ac' wy' cr' sl' on' ∧ HR (blowsS (aA h) h) ai si hc tn tk' wm' sh ki fi ac' wy' cr' se sl' on' hs hn
  | d, k, 0, _, _, _, _, _, _, _, _, q, _ => absurd q (by omega)
  | 0, k, m + 1, tk, wm, ac, wy, cr, sl, on, hk, _, E => by
    obtain ⟨V', hA', -, -⟩ := blowsS_V V k (by omega)
    have h5 := V.1.1
    have hk' : k = aA h := by omega
    subst hk'
    refine ⟨tk, wm, ac, wy, cr, sl, on, ?_, E⟩
    rw [f_X7_turnOn_b77, dq_if_pos (by rw [E.1.1, hA']; exact nI_le (Nat.le_refl _) (by omega))]
  | d + 1, k, m + 1, tk, wm, ac, wy, cr, sl, on, hk, hm, E => by
    obtain ⟨V', hA', -, -⟩ := blowsS_V V k (by omega)
    have h5 := V.1.1
    obtain ⟨tk1, wm1, ac1, wy1, cr1, sl1, on1, f, E1⟩ := r_airGoes V' E (a := k) (by rw [hA']; omega)
    obtain ⟨tk', wm', ac', wy', cr', sl', on', f2, E2⟩ := r_airs_loop V d (k + 1) m tk1 wm1 ac1 wy1 cr1 sl1 on1 (by omega) (by omega) E1
    refine ⟨tk', wm', ac', wy', cr', sl', on', ?_, E2⟩
    rw [f_X7_turnOn_b77, dq_if_neg (by rw [E.1.1, hA']; exact nI_ge (by omega) (by omega)), dq_if_pos rfl, dq_bd7_s f]
    simp only [dq_let]
    rw [show nI k + (1 : Int32) = nI (k + 1) from nI_1 k]
    exact f2
theorem r_freeze_loop (V : aV h) (E : HR h ai si hc tn tk wm sh ki fi ac wy cr se sl on hs hn) {t1 : Int32} : ∀ (d k m : Nat) (on2 : Nat → Int32), k + d = aS h → d < m → (∀ i, i < aS h → on2 i = nB (if i < k then aOn h i && !coldS h i else aOn h i)) → ∃ on' : Nat → Int32, f_X7_turnOn_b105 (nI (aS h)) se t1 tk wm ac wy cr sl m (nI k) on2 = some (t1, tk, wm, ac, wy, cr, sl, on') ∧ ∀ i, i < aS h → on' i = nB (aOn h i && !coldS h i)
  | d, k, 0, _, _, q, _ => absurd q (by omega)
  | 0, k, m + 1, on2, hk, _, hp => by
    have hS := V.1.2.1
    refine ⟨on2, ?_, fun i hi => by rw [hp i hi, if_pos (by omega)]⟩
    rw [f_X7_turnOn_b105, dq_if_pos (nI_le (by omega) (by omega))]
  | d + 1, k, m + 1, on2, hk, hm, hp => by
    have hS := V.1.2.1
    have hkl : k < aS h := by omega
    have hi6 : vp_in (nI k) 6 := vp_in_nI (by omega) (by omega)
    obtain ⟨e1, e2, e3⟩ := E.2.2.1 k hkl
    obtain ⟨v1, v2⟩ := V.2.2.1 k hkl
    have pk : on2 k = nB (aOn h k) := by rw [hp k hkl, if_neg (by omega)]
    have go : ∀ v : Int32, v = nB (aOn h k && !coldS h k) → ∃ on' : Nat → Int32, f_X7_turnOn_b105 (nI (aS h)) se t1 tk wm ac wy cr sl m (nI k + 1) (upd on2 k v) = some (t1, tk, wm, ac, wy, cr, sl, on') ∧ ∀ i, i < aS h → on' i = nB (aOn h i && !coldS h i) := by
      intro v hv
      rw [show nI k + (1 : Int32) = nI (k + 1) from nI_1 k]
      refine r_freeze_loop V E d (k + 1) m _ (by omega) (by omega) (fun i hi => ?_)
      by_cases q : i = k
      · subst q
        rw [pk_us, if_pos (by omega), hv]
      · rw [pk_un q, hp i hi]
        by_cases q2 : i < k
        · rw [if_pos q2, if_pos (by omega)]
        · rw [if_neg q2, if_neg (by omega)]
    rw [f_X7_turnOn_b105, dq_if_neg (nI_ge hkl (by omega)), dq_gd_pos hi6, nI_clamp (by omega), e1, dq_gd_pos (vp_in_nI v1 (by omega)), dq_gd_pos hi6, nI_clamp (by omega), e2, E.2.2.2.2.2 _ v1]
    by_cases z : 0 ≤ Op.cmpValue (FP.fcmp (aWm h (aSt h k)) (FP.i2f (8 - nI (aSh h k)))) .g
    · rw [dq_if_pos z, dq_gd_pos hi6, dq_gd_pos hi6]
      exact go _ (by rw [pk]; simp [coldS, z])
    · rw [dq_if_neg z, dq_gd_pos hi6]
      exact go 0 (by simp [coldS, z, nB])
theorem r_freeze (V : aV h) (E : HR h ai si hc tn tk wm sh ki fi ac wy cr se sl on hs hn) : ∃ on' : Nat → Int32, f_X7_turnOn_b103 si se tn tk wm ac wy cr sl on = some (tn, tk, wm, ac, wy, cr, sl, on') ∧ HR (freezeS h) ai si hc tn tk wm sh ki fi ac wy cr se sl on' hs hn := by
  obtain ⟨on', f, q⟩ := r_freeze_loop V E (t1 := tn) (aS h) 0 4096 on (by omega) (by have := V.1.2.1; omega) (fun i hi => by rw [if_neg (by omega)]; exact (E.2.2.1 i hi).2.2)
  refine ⟨on', ?_, E.1, E.2.1, fun i hi => ⟨(E.2.2.1 i hi).1, (E.2.2.1 i hi).2.1, q i hi⟩, E.2.2.2⟩
  unfold f_X7_turnOn_b103
  rw [E.1.2.1, show (0 : Int32) = nI 0 from nI_0.symm]
  exact f
theorem r_turnOn (V : aV h) (ht : aTn h + 1 < 2 ^ 20) (E : HR h ai si hc tn tk wm sh ki fi ac wy cr se sl on hs hn) (b : Bool) : ∃ (tn' tk' : Int32) (wm' : Nat → UInt32) (ac' wy' cr' sl' on' : Nat → Int32), f_X7_turnOn ai si hc tn tk (nB b) wm sh ki fi ac wy cr se sl on hs hn = some (tn', tk', wm', ac', wy', cr', sl', on') ∧ HR (if b = true then stillS h else turnS h) ai si hc tn' tk' wm' sh ki fi ac' wy' cr' se sl' on' hs hn := by
  obtain ⟨w1, f1, hw1⟩ := r_cells_loop (ai := ai) (si := si) (tk := tk) (sh := sh) (ki := ki) (fi := fi) (ac := ac) (wy := wy) (cr := cr) (se := se) (sl := sl) (on := on) V E.2.2.2.1 (st := nB b) (t1 := nI (aTn h + 1)) 36 0 4096 wm (by omega) (by omega) (fun c hc => by rw [if_neg (by omega)]; exact E.2.2.2.2.2 c hc)
  have E1 : HR (beginS h) ai si hc (nI (aTn h + 1)) tk w1 sh ki fi ac wy cr se sl on hs hn := ⟨⟨E.1.1, E.1.2.1, E.1.2.2.1, rfl, E.1.2.2.2.2⟩, E.2.1, E.2.2.1, E.2.2.2.1, E.2.2.2.2.1, hw1⟩
  have V1 := beginS_V V ht
  have f0 : f_X7_turnOn ai si hc tn tk (nB b) wm sh ki fi ac wy cr se sl on hs hn = f_X7_turnOn_b77 ai si (nB b) sh ki fi se (nI (aTn h + 1)) 4096 (nI 0) tk w1 ac wy cr sl on := by
    unfold f_X7_turnOn
    simp only [dq_let]
    rw [E.1.2.2.2.1, show nI (aTn h) + (1 : Int32) = nI (aTn h + 1) from nI_1 _, E.1.2.2.1, show (0 : Int32) = nI 0 from nI_0.symm]
    exact f1
  rw [f0]
  cases b with
  | false =>
    obtain ⟨tk2, wm2, ac2, wy2, cr2, sl2, on2, f2, E2⟩ := r_airs_loop V1 (aA h) 0 4096 tk w1 ac wy cr sl on (Nat.zero_add _) (by have := V.1.1; omega) E1
    obtain ⟨V2, -, -, -⟩ := blowsS_V V1 (aA h) (Nat.le_refl _)
    obtain ⟨on3, f3, E3⟩ := r_freeze V2 E2
    rw [show nB false = (0 : Int32) from rfl, f2, f3]
    exact ⟨_, tk2, wm2, ac2, wy2, cr2, sl2, on3, rfl, E3⟩
  | true =>
    obtain ⟨on3, f3, E3⟩ := r_freeze V1 E1
    have f4 : f_X7_turnOn_b77 ai si (nB true) sh ki fi se (nI (aTn h + 1)) 4096 (nI 0) tk w1 ac wy cr sl on = f_X7_turnOn_b103 si se (nI (aTn h + 1)) tk w1 ac wy cr sl on := by
      rw [f_X7_turnOn_b77]
      by_cases q : ai ≤ nI 0
      · rw [dq_if_pos q]
      · rw [dq_if_neg q, dq_if_neg (by decide)]
    rw [f4, f3]
    exact ⟨_, tk, w1, ac, wy, cr, sl, on3, rfl, E3⟩
theorem r_go_loop {n : Nat} (hn30 : n < 4096) : ∀ (d k m : Nat) (h : AH) (tn tk : Int32) (wm : Nat → UInt32) (ac wy cr sl on : Nat → Int32), k + d = n → d < m → aV h → aTn h + d < 2 ^ 20 → HR h ai si hc tn tk wm sh ki fi ac wy cr se sl on hs hn → ∃ (tn' tk' : Int32) (wm' : Nat → UInt32) (ac' wy' cr' sl' on' : Nat → Int32), f_X7_goTurns_b2 (nI n) ai si hc 0 sh ki fi se hs hn m (nI k) tn tk wm ac wy cr sl on = some (tn', tk', wm', ac', wy', cr', sl', on') ∧ HR (goS d h) ai si hc tn' tk' wm' sh ki fi ac' wy' cr' se sl' on' hs hn
  | d, k, 0, _, _, _, _, _, _, _, _, _, _, q, _, _, _ => absurd q (by omega)
  | 0, k, m + 1, h, tn, tk, wm, ac, wy, cr, sl, on, hk, _, V, _, E => by
    refine ⟨tn, tk, wm, ac, wy, cr, sl, on, ?_, E⟩
    rw [f_X7_goTurns_b2, dq_if_pos (nI_le (by omega) (by omega))]
  | d + 1, k, m + 1, h, tn, tk, wm, ac, wy, cr, sl, on, hk, hm, V, ht, E => by
    obtain ⟨tn1, tk1, wm1, ac1, wy1, cr1, sl1, on1, f1, E1⟩ := r_turnOn V (by omega) E false
    obtain ⟨V2, -, -, ht2⟩ := turnS_V V (by omega)
    obtain ⟨tn2, tk2, wm2, ac2, wy2, cr2, sl2, on2, f2, E2⟩ := r_go_loop hn30 d (k + 1) m (turnS h) tn1 tk1 wm1 ac1 wy1 cr1 sl1 on1 (by omega) (by omega) V2 (by rw [ht2]; omega) E1
    have f1' : f_X7_turnOn ai si hc tn tk 0 wm sh ki fi ac wy cr se sl on hs hn = some (tn1, tk1, wm1, ac1, wy1, cr1, sl1, on1) := f1
    refine ⟨tn2, tk2, wm2, ac2, wy2, cr2, sl2, on2, ?_, E2⟩
    rw [f_X7_goTurns_b2, dq_if_neg (nI_ge (by omega) (by omega)), dq_bd8_s f1']
    simp only [dq_let]
    rw [show nI k + (1 : Int32) = nI (k + 1) from nI_1 k]
    exact f2
theorem r_go {n : Nat} (hn' : n < 4096) (V : aV h) (ht : aTn h + n < 2 ^ 20) (E : HR h ai si hc tn tk wm sh ki fi ac wy cr se sl on hs hn) : ∃ (tn' tk' : Int32) (wm' : Nat → UInt32) (ac' wy' cr' sl' on' : Nat → Int32), f_X7_goTurns ai si hc tn tk 0 wm sh ki fi ac wy cr se sl on hs hn (nI n) = some (tn', tk', wm', ac', wy', cr', sl', on') ∧ HR (goS n h) ai si hc tn' tk' wm' sh ki fi ac' wy' cr' se sl' on' hs hn := by
  unfold f_X7_goTurns
  have z := r_go_loop hn' n 0 4096 h tn tk wm ac wy cr sl on (by omega) hn' V ht E
  exact z
end PQ
