/-! till he is off, on both sides -/
def tillR (s : Nat) : Nat → Nat → AH → Nat
  | 0, _, _ => 61
  | d + 1, k, h => if aOn h s = true then tillR s d (k + 1) (turnS h) else k
theorem till_R {s : Nat} : ∀ (d k : Nat) (h : AH), k + d = 60 → (tillS s d k h).1 = tillR s (d + 1) k h
  | 0, k, h, hk => by
    have : k = 60 := by omega
    subst this
    rfl
  | d + 1, k, h, hk => by
    unfold tillS
    by_cases z : aOn h s = true
    · rw [if_pos z, till_R d (k + 1) (goS 1 h) (by omega)]
      show _ = if aOn h s = true then tillR s (d + 1) (k + 1) (turnS h) else k
      rw [if_pos z]
      rfl
    · rw [if_neg z]
      show _ = if aOn h s = true then tillR s (d + 1) (k + 1) (turnS h) else k
      rw [if_neg z]
theorem tillR_ge {s : Nat} : ∀ (d k : Nat) (h : AH), k + d = 61 → k ≤ tillR s d k h ∧ tillR s d k h ≤ 61
  | 0, k, h, hk => by
    show k ≤ 61 ∧ 61 ≤ 61
    omega
  | d + 1, k, h, hk => by
    have ih := tillR_ge (s := s) d (k + 1) (turnS h) (by omega)
    unfold tillR
    split <;> omega
theorem off_x {H : AH} {a : Nat → Nat} {ai : Int32} {si : Int32} {hc : Int32} {tn : Int32} {tk : Int32} {wm : Nat → UInt32} {sh : Nat → Int32} {ki : Nat → Int32} {fi : Nat → Int32} {ac : Nat → Int32} {wy : Nat → Int32} {cr : Nat → Int32} {se : Nat → Int32} {sl : Nat → Int32} {on : Nat → Int32} {hs : Nat → Int32} {hn : Nat → Int32} {q : Nat → Int32} {qw : Nat → UInt32} {s m k : Nat} (hk : k ≤ 60) (VH : aV H) (QH : HP H q qw) : ∃ (ai' si' hc' tn' tk' : Int32) (wm' : Nat → UInt32) (sh' ki' fi' ac' wy' cr' se' sl' on' hs' hn' q' : Nat → Int32) (qw' : Nat → UInt32), f_X7_offIn_b5 a (nI s) ai si hc 0 sh ki fi se hs hn q qw (m + 1) (nI k) (nI (k + 1)) tn tk wm ac wy cr sl on = some (nI k, ai', si', hc', tn', tk', nI 96, 0, Value.ref (a 20), wm', sh', ki', fi', ac', wy', cr', se', sl', on', hs', hn', q', qw') ∧ HR H ai' si' hc' tn' tk' wm' sh' ki' fi' ac' wy' cr' se' sl' on' hs' hn' ∧ HP H q' qw' := by
  obtain ⟨wm', sh', ki', fi', ac', wy', cr', se', sl', on', hs', hn', q', qw', f, F, Q'⟩ := r_again (a := a) (ai := ai) (si := si) (hc := hc) (tn := tn) (tk := tk) (wm := wm) (sh := sh) (ki := ki) (fi := fi) (ac := ac) (wy := wy) (cr := cr) (se := se) (sl := sl) (on := on) (hs := hs) (hn := hn) VH QH
  refine ⟨_, _, _, _, _, wm', sh', ki', fi', ac', wy', cr', se', sl', on', hs', hn', q', qw', ?_, F, Q'⟩
  rw [f_X7_offIn_b5]
  by_cases z : 60 < k + 1
  · rw [show (60 : Int32) = nI 60 from rfl, dq_if_pos (nI_lt z (by omega)), dq_bd22_s f]
  · rw [show (60 : Int32) = nI 60 from rfl, dq_if_neg (nI_nlt (by omega) (by omega)), show (61 : Int32) = nI 61 from rfl, dq_if_neg (fun y => absurd ((nI_eq (b := 61) (by omega) (by omega)).mp y) (by omega)), dq_bd22_s f]
theorem off_l {H : AH} {a : Nat → Nat} {ai si hc : Int32} {sh ki fi se hs hn q : Nat → Int32} {qw : Nat → UInt32} {s : Nat} (VH : aV H) (QH : HP H q qw) : ∀ (d k m : Nat) (h : AH) (tn tk : Int32) (wm : Nat → UInt32) (ac wy cr sl on : Nat → Int32), k + d = 61 → d < m → aV h → s < aS h → aTn h + d < 2 ^ 20 → HR h ai si hc tn tk wm sh ki fi ac wy cr se sl on hs hn → ∃ (ai' si' hc' tn' tk' : Int32) (wm' : Nat → UInt32) (sh' ki' fi' ac' wy' cr' se' sl' on' hs' hn' q' : Nat → Int32) (qw' : Nat → UInt32), f_X7_offIn_b5 a (nI s) ai si hc 0 sh ki fi se hs hn q qw m 61 (nI k) tn tk wm ac wy cr sl on = some (nI (tillR s d k h), ai', si', hc', tn', tk', nI 96, 0, Value.ref (a 20), wm', sh', ki', fi', ac', wy', cr', se', sl', on', hs', hn', q', qw') ∧ HR H ai' si' hc' tn' tk' wm' sh' ki' fi' ac' wy' cr' se' sl' on' hs' hn' ∧ HP H q' qw'
  | d, k, 0, _, _, _, _, _, _, _, _, _, _, q, _, _, _, _ => absurd q (by omega)
  | 0, k, m + 1, h, tn, tk, wm, ac, wy, cr, sl, on, hk, _, V, _, _, E => by
    have : k = 61 := by omega
    subst this
    obtain ⟨wm', sh', ki', fi', ac', wy', cr', se', sl', on', hs', hn', q', qw', f, F, Q'⟩ := r_again (a := a) (ai := ai) (si := si) (hc := hc) (tn := tn) (tk := tk) (wm := wm) (sh := sh) (ki := ki) (fi := fi) (ac := ac) (wy := wy) (cr := cr) (se := se) (sl := sl) (on := on) (hs := hs) (hn := hn) VH QH
    refine ⟨_, _, _, _, _, wm', sh', ki', fi', ac', wy', cr', se', sl', on', hs', hn', q', qw', ?_, F, Q'⟩
    rw [f_X7_offIn_b5, dq_if_pos (by decide), dq_bd22_s f]
    rfl
  | d + 1, k, m + 1, h, tn, tk, wm, ac, wy, cr, sl, on, hk, hm, V, hs2, ht, E => by
    have hS := V.1.2.1
    obtain ⟨V1, -, gS, t1⟩ := turnS_V V (by omega)
    obtain ⟨tn2, tk2, wm2, ac2, wy2, cr2, sl2, on2, g, E2⟩ := r_turnOn V (by omega) E false
    rw [f_X7_offIn_b5, show (60 : Int32) = nI 60 from rfl, dq_if_neg (nI_nlt (by omega) (by omega)), dq_if_pos rfl, dq_gd_pos (vp_in_nI (by omega) (by omega)), nI_clamp (by omega), (E.2.2.1 s hs2).2.2]
    have gg : f_X7_turnOn ai si hc tn tk 0 wm sh ki fi ac wy cr se sl on hs hn = some (tn2, tk2, wm2, ac2, wy2, cr2, sl2, on2) := g
    rw [dq_bd8_s gg, dq_bd8_s gg]
    simp only [dq_let]
    rw [show nI k + (1 : Int32) = nI (k + 1) from nI_1 k]
    by_cases z : aOn h s = true
    · rw [dq_if_pos (nB_1.mpr z), show tillR s (d + 1) k h = tillR s d (k + 1) (turnS h) from if_pos z]
      exact off_l VH QH d (k + 1) m (turnS h) tn2 tk2 wm2 ac2 wy2 cr2 sl2 on2 (by omega) (by omega) V1 (by rw [gS]; exact hs2) (by omega) E2
    · rw [dq_if_neg (fun y => z (nB_1.mp y)), show tillR s (d + 1) k h = k from if_neg z]
      cases m with
      | zero => exact absurd hm (by omega)
      | succ m => exact off_x (by omega) VH QH
theorem K_offIn {α : Type} {H h : AH} {a : Nat → Nat} {ai : Int32} {si : Int32} {hc : Int32} {tn : Int32} {tk : Int32} {wm : Nat → UInt32} {sh : Nat → Int32} {ki : Nat → Int32} {fi : Nat → Int32} {ac : Nat → Int32} {wy : Nat → Int32} {cr : Nat → Int32} {se : Nat → Int32} {sl : Nat → Int32} {on : Nat → Int32} {hs : Nat → Int32} {hn : Nat → Int32} {q : Nat → Int32} {qw : Nat → UInt32} {f : Int32 → Int32 → Int32 → Int32 → Int32 → Int32 → Int32 → Int32 → Value → (Nat → UInt32) → (Nat → Int32) → (Nat → Int32) → (Nat → Int32) → (Nat → Int32) → (Nat → Int32) → (Nat → Int32) → (Nat → Int32) → (Nat → Int32) → (Nat → Int32) → (Nat → Int32) → (Nat → Int32) → (Nat → Int32) → (Nat → UInt32) → Option α} {Q : α → Prop} {s : Nat} (VH : aV H) (V : aV h) (hs2 : s < aS h) (ht : aTn h ≤ 999) (E : HR h ai si hc tn tk wm sh ki fi ac wy cr se sl on hs hn) (QH : HP H q qw) (k : ∀ (ai' si' hc' tn' tk' : Int32) (wm' : Nat → UInt32) (sh' ki' fi' ac' wy' cr' se' sl' on' hs' hn' q' : Nat → Int32) (qw' : Nat → UInt32), HR H ai' si' hc' tn' tk' wm' sh' ki' fi' ac' wy' cr' se' sl' on' hs' hn' → HP H q' qw' → Ok (f (nI (tillR s 61 0 h)) ai' si' hc' tn' tk' (nI 96) 0 (Value.ref (a 20)) wm' sh' ki' fi' ac' wy' cr' se' sl' on' hs' hn' q' qw') Q) : Ok (dq_bd23 (f_X7_offIn a ai si hc tn tk 0 wm sh ki fi ac wy cr se sl on hs hn q qw (nI s)) f) Q := by
  obtain ⟨ai', si', hc', tn', tk', wm', sh', ki', fi', ac', wy', cr', se', sl', on', hs', hn', q', qw', g, F, Q'⟩ := off_l (a := a) VH QH 61 0 4096 h tn tk wm ac wy cr sl on (by omega) (by omega) V hs2 (by omega) E
  rw [nI_0] at g
  have g2 : f_X7_offIn a ai si hc tn tk 0 wm sh ki fi ac wy cr se sl on hs hn q qw (nI s) = _ := g
  exact Ok23 g2 (k _ _ _ _ _ _ _ _ _ _ _ _ _ _ _ _ _ _ _ F Q')
/-! who is off first -/
def firstC (h0 : AH) : Nat → AH → Int32
  | 0, _ => -9
  | d + 1, h => if bN (aOn h) (aS h) = 0 then -9 else match fM (fun s => aOn h0 s && !aOn (turnS h) s) (aS h0) with
    | some s => nI s
    | none => firstC h0 d (turnS h)
def argL (T : Nat → Nat) : Nat → Nat → Int32 → Nat → Int32
  | 0, _, b, _ => b
  | d + 1, o, b, so => if so ≤ T o then argL T d (o + 1) b so else argL T d (o + 1) (nI o) (T o)
theorem argL_1 {T : Nat → Nat} : ∀ (d o : Nat) (b : Int32) (so : Nat), (∀ p, o ≤ p → p < o + d → so ≤ T p) → argL T d o b so = b
  | 0, _, _, _, _ => rfl
  | d + 1, o, b, so, h => by
    show (if so ≤ T o then argL T d (o + 1) b so else argL T d (o + 1) (nI o) (T o)) = b
    rw [if_pos (h o (Nat.le_refl _) (by omega))]
    exact argL_1 d (o + 1) b so (fun p h1 h2 => h p (by omega) (by omega))
theorem argL_2 {T : Nat → Nat} {s : Nat} : ∀ (d o : Nat) (b : Int32) (so : Nat), o ≤ s → s < o + d → T s < so → (∀ p, o ≤ p → p < s → T s < T p) → (∀ p, s ≤ p → p < o + d → T s ≤ T p) → argL T d o b so = nI s
  | 0, o, _, _, h1, h2, _, _, _ => absurd h2 (by omega)
  | d + 1, o, b, so, h1, h2, h3, h4, h5 => by
    show (if so ≤ T o then argL T d (o + 1) b so else argL T d (o + 1) (nI o) (T o)) = nI s
    by_cases z : o = s
    · subst z
      rw [if_neg (by omega)]
      exact argL_1 d (o + 1) (nI o) (T o) (fun p q1 q2 => h5 p (by omega) (by omega))
    · have h6 := h4 o (Nat.le_refl _) (by omega)
      split
      · exact argL_2 d (o + 1) b so (by omega) (by omega) h3 (fun p q1 q2 => h4 p (by omega) q2) (fun p q1 q2 => h5 p q1 (by omega))
      · exact argL_2 d (o + 1) _ _ (by omega) (by omega) h6 (fun p q1 q2 => h4 p (by omega) q2) (fun p q1 q2 => h5 p q1 (by omega))
def offT (h : AH) (o : Nat) : Nat := if aOn h o = true then tillR o 61 0 h else 61
theorem bN_0 {p : Nat → Bool} {n i : Nat} (h : bN p n = 0) (hi : i < n) : p i = false := by
  rw [← bN_bit p n i hi, h]
  exact Nat.zero_testBit i
theorem first_ok {h : AH} : ∀ (d t : Nat) (h' : AH), t + d = 60 → aS h' = aS h → aV h' → aTn h' + d < 2 ^ 19 → (∀ s, s < aS h → aOn h s = true → aOn h' s = true ∧ offT h s = tillR s (61 - t) t h') → firstC h d h' = argL (offT h) (aS h) 0 (-9) 61
  | 0, t, h', ht, eS, V, _, I => by
    have : t = 60 := by omega
    subst this
    refine (argL_1 _ _ _ _ (fun p _ hp => ?_)).symm
    by_cases z : aOn h p = true
    · obtain ⟨i1, i2⟩ := I p (by omega) z
      rw [i2]
      show 61 ≤ if aOn h' p = true then 61 else 60
      rw [if_pos i1]
      exact Nat.le_refl _
    · rw [show offT h p = 61 from if_neg z]
      exact Nat.le_refl _
  | d + 1, t, h', ht, eS, V, hb, I => by
    obtain ⟨V1, -, gS, gt⟩ := turnS_V V (by omega)
    show (if bN (aOn h') (aS h') = 0 then (-9 : Int32) else match fM (fun s => aOn h s && !aOn (turnS h') s) (aS h) with
      | some s => nI s
      | none => firstC h d (turnS h')) = _
    have step : ∀ s, s < aS h → aOn h s = true → offT h s = tillR s (61 - (t + 1)) (t + 1) (turnS h') := by
      intro s hs z
      obtain ⟨i1, i2⟩ := I s hs z
      rw [i2, show 61 - t = (61 - (t + 1)) + 1 by omega]
      exact if_pos i1
    by_cases z0 : bN (aOn h') (aS h') = 0
    · rw [if_pos z0]
      refine (argL_1 _ _ _ _ (fun p _ hp => ?_)).symm
      by_cases z : aOn h p = true
      · have i1 := (I p (by omega) z).1
        rw [bN_0 z0 (by omega)] at i1
        cases i1
      · rw [show offT h p = 61 from if_neg z]
        exact Nat.le_refl _
    · rw [if_neg z0]
      cases e : fM (fun s => aOn h s && !aOn (turnS h') s) (aS h) with
      | some s =>
        obtain ⟨e1, e2, e3⟩ := fM_some.mp e
        simp only [Bool.and_eq_true, Bool.not_eq_true'] at e2
        have ts : offT h s = t + 1 := by
          rw [step s e1 e2.1, show 61 - (t + 1) = (61 - (t + 2)) + 1 by omega]
          exact if_neg (by rw [e2.2]; decide)
        refine (argL_2 _ _ _ _ (Nat.zero_le _) (by omega) (by omega) (fun p _ hp => ?_) (fun p hp1 hp2 => ?_)).symm
        · rw [ts]
          by_cases z : aOn h p = true
          · have e4 := e3 p hp
            rw [z, Bool.true_and, Bool.not_eq_false'] at e4
            rw [step p (by omega) z, show 61 - (t + 1) = (61 - (t + 2)) + 1 by omega, show tillR p (61 - (t + 2) + 1) (t + 1) (turnS h') = tillR p (61 - (t + 2)) (t + 2) (turnS (turnS h')) from if_pos e4]
            have := (tillR_ge (s := p) (61 - (t + 2)) (t + 2) (turnS (turnS h')) (by omega)).1
            omega
          · rw [show offT h p = 61 from if_neg z]
            omega
        · rw [ts]
          by_cases z : aOn h p = true
          · rw [step p (by omega) z]
            exact (tillR_ge (s := p) (61 - (t + 1)) (t + 1) (turnS h') (by omega)).1
          · rw [show offT h p = 61 from if_neg z]
            omega
      | none =>
        have e3 := fM_none.mp e
        refine first_ok d (t + 1) (turnS h') (by omega) (gS.trans eS) V1 (by omega) (fun s hs z => ⟨?_, step s hs z⟩)
        have e4 := e3 s hs
        simp only [z, Bool.true_and, Bool.not_eq_false'] at e4
        exact e4
theorem fo_in {H h2 : AH} {sb : Int64} {ai : Int32} {cb : Int32} {si : Int32} {ob : Int32} {tn : Int32} {tk : Int32} {wm : Nat → UInt32} {ki : Nat → Int32} {fi : Nat → Int32} {ac : Nat → Int32} {wy : Nat → Int32} {se : Nat → Int32} {sl : Nat → Int32} {hc : Int32} {hs : Nat → Int32} {hn : Nat → Int32} {x19 : Int32} {k13 : (Int32 → Int32 → Int32 → Int32 → Int32 → (Nat → UInt32) → (Nat → Int32) → (Nat → Int32) → (Nat → Int32) → Option (Int32 × Int64 × Int32 × Int32 × Int32 × Int32 × Int32 × Int32 × (Nat → UInt32) × (Nat → Int32) × (Nat → Int32) × (Nat → Int32) × (Nat → Int32) × (Nat → Int32) × (Nat → Int32) × Int32 × (Nat → Int32) × (Nat → Int32)))} (V2 : aV h2) (eS : aS h2 = aS H) (VH : aV H) (E : HC h2 sb ai cb si ob tn tk wm ki fi ac wy se sl hc hs hn) (hN : ∀ {o : Nat}, o < aS H → f_X2_isOn (nI (bN (aOn H) (aS H))) (nI o) = some (nB (aOn H o))) {Q : (Int32 × Int64 × Int32 × Int32 × Int32 × Int32 × Int32 × Int32 × (Nat → UInt32) × (Nat → Int32) × (Nat → Int32) × (Nat → Int32) × (Nat → Int32) × (Nat → Int32) × (Nat → Int32) × Int32 × (Nat → Int32) × (Nat → Int32)) → Prop} (K1 : ∀ s, fM (fun s => aOn H s && !aOn h2 s) (aS H) = some s → (∀ (sb' : Int64) (ai' cb' si' ob' tn' tk' : Int32) (wm' : Nat → UInt32) (ki' fi' ac' wy' se' sl' : Nat → Int32) (hc' : Int32) (hs' hn' : Nat → Int32), Q (nI s, sb', ai', cb', si', ob', tn', tk', wm', ki', fi', ac', wy', se', sl', hc', hs', hn'))) (K2 : fM (fun s => aOn H s && !aOn h2 s) (aS H) = none → Ok (k13 (x19 + 1) cb ob tn tk wm ac wy sl) Q) : ∀ (d k m : Nat), k + d = aS H → d < m → (∀ b, b < k → (aOn H b && !aOn h2 b) = false) → Ok (f_X6_firstOff_b39 (nI (aS H)) (nI (bN (aOn H) (aS H))) sb ai si ki fi se hc hs hn x19 cb ob tn tk wm ac wy sl k13 m (nI k)) Q
  | d, k, 0, _, q, _ => absurd q (by omega)
  | 0, k, m + 1, hk, _, hb => by
    have hS := VH.1.2.1
    rw [f_X6_firstOff_b39]
    exact Okp (nI_le (by omega) (by omega)) (Okl (K2 (fM_none.mpr (fun b h => hb b (by omega)))))
  | d + 1, k, m + 1, hk, hm, hb => by
    have hS := VH.1.2.1
    have hkl : k < aS H := by omega
    have nx : (aOn H k && !aOn h2 k) = false → ∀ b, b < k + 1 → (aOn H b && !aOn h2 b) = false := fun q b h2' => by
      by_cases z : b = k
      · subst z
        exact q
      · exact hb b (by omega)
    rw [f_X6_firstOff_b39]
    refine Okn (nI_ge hkl (by omega)) ?_
    rw [show nI k + (1 : Int32) = nI (k + 1) from nI_1 k]
    refine Okbd (hN hkl) (fun z => ?_) (fun z => Okl ?_)
    · refine Okbd (c_isO V2 E (by omega)) (fun y => Okl ?_) (fun y => ?_)
      · exact fo_in V2 eS VH E hN K1 K2 d (k + 1) m (by omega) (by omega) (nx (by rw [y]; simp))
      · exact Okv (K1 k (fM_some.mpr ⟨hkl, by rw [z, y]; rfl, hb⟩) sb ai cb si ob tn tk wm ki fi ac wy se sl hc hs hn)
    · exact fo_in V2 eS VH E hN K1 K2 d (k + 1) m (by omega) (by omega) (nx (by rw [z]; rfl))
theorem fo_out {H : AH} {sb : Int64} {ai si hc : Int32} {ki fi se hs hn : Nat → Int32} (VH : aV H) (hN : ∀ {o : Nat}, o < aS H → f_X2_isOn (nI (bN (aOn H) (aS H))) (nI o) = some (nB (aOn H o))) {Q : (Int32 × Int64 × Int32 × Int32 × Int32 × Int32 × Int32 × Int32 × (Nat → UInt32) × (Nat → Int32) × (Nat → Int32) × (Nat → Int32) × (Nat → Int32) × (Nat → Int32) × (Nat → Int32) × Int32 × (Nat → Int32) × (Nat → Int32)) → Prop} : ∀ (d k m : Nat) (h : AH) (cb ob tn tk : Int32) (wm : Nat → UInt32) (ac wy sl : Nat → Int32), k + d = 61 → d < m → aV h → aS h = aS H → aTn h + d < 2 ^ 20 → HC h sb ai cb si ob tn tk wm ki fi ac wy se sl hc hs hn → (∀ (sb' : Int64) (ai' cb' si' ob' tn' tk' : Int32) (wm' : Nat → UInt32) (ki' fi' ac' wy' se' sl' : Nat → Int32) (hc' : Int32) (hs' hn' : Nat → Int32), Q (firstC H d h, sb', ai', cb', si', ob', tn', tk', wm', ki', fi', ac', wy', se', sl', hc', hs', hn')) → Ok (f_X6_firstOff_b13 (nI (aS H)) (nI (bN (aOn H) (aS H))) sb ai si ki fi se hc hs hn m (nI k) cb ob tn tk wm ac wy sl) Q
  | d, k, 0, _, _, _, _, _, _, _, _, _, _, q, _, _, _, _, _ => absurd q (by omega)
  | 0, k, m + 1, h, cb, ob, tn, tk, wm, ac, wy, sl, hk, _, V, eS, ht, E, K => by
    rw [f_X6_firstOff_b13]
    exact Okp (nI_lt (a := 60) (by omega) (by omega)) (Okv (K sb ai cb si ob tn tk wm ki fi ac wy se sl hc hs hn))
  | d + 1, k, m + 1, h, cb, ob, tn, tk, wm, ac, wy, sl, hk, hm, V, eS, ht, E, K => by
    have hS := V.1.2.1
    have lk : firstC H (d + 1) h = if bN (aOn h) (aS h) = 0 then -9 else match fM (fun s => aOn H s && !aOn (turnS h) s) (aS H) with
      | some s => nI s
      | none => firstC H d (turnS h) := rfl
    rw [f_X6_firstOff_b13]
    refine Okn (nI_nlt (a := 60) (by omega) (by omega)) ?_
    rw [lk] at K
    have eo := E.2.1.2.1
    have h64 := bN6 (aOn h) hS
    by_cases z : bN (aOn h) (aS h) = 0
    · rw [if_pos z] at K
      exact Okp (by rw [eo, z, nI_0]) (Okv (K sb ai cb si ob tn tk wm ki fi ac wy se sl hc hs hn))
    · rw [if_neg z] at K
      refine Okn (by rw [eo]; exact nI_ne0 (by omega) (by omega)) ?_
      refine K_goOn (n := 1) (by omega) V (by omega) E ?_
      intro cb' ob' tn' tk' wm' ac' wy' sl' E'
      obtain ⟨V1, -, gS, t1⟩ := turnS_V V (by omega)
      refine fo_in (h2 := turnS h) V1 (gS.trans eS) VH E' hN (fun s e => ?_) (fun e => ?_) (aS H) 0 4096 (by omega) (by have := VH.1.2.1; omega) (fun b hb => absurd hb (by omega))
      · rw [e] at K
        exact K
      · rw [e] at K
        rw [show nI k + (1 : Int32) = nI (k + 1) from nI_1 k]
        exact fo_out VH hN d (k + 1) m (turnS h) cb' ob' tn' tk' wm' ac' wy' sl' (by omega) (by omega) V1 (gS.trans eS) (by omega) E' K
theorem fr_l {H : AH} {a : Nat → Nat} {r_refusals : Nat → Int32} (VH : aV H) (ht : aTn H ≤ 999) {Q : (Int32 × Int32 × Int32 × Int32 × Int32 × Int32 × Int32 × Int32 × Int32 × Value × (Nat → UInt32) × (Nat → Int32) × (Nat → Int32) × (Nat → Int32) × (Nat → Int32) × (Nat → Int32) × (Nat → Int32) × (Nat → Int32) × (Nat → Int32) × (Nat → Int32) × (Nat → Int32) × (Nat → Int32) × (Nat → Int32) × (Nat → Int32) × (Nat → UInt32)) → Prop} : ∀ (d o m : Nat) (b : Int32) (so : Nat) (ai si hc tn tk pl it : Int32) (ke : Value) (wm : Nat → UInt32) (sh ki fi ac wy cr se sl on hs hn q : Nat → Int32) (qw : Nat → UInt32), o + d = aS H → d < m → so ≤ 61 → HR H ai si hc tn tk wm sh ki fi ac wy cr se sl on hs hn → HP H q qw → (∀ (ai' si' hc' tn' tk' pl' it' : Int32) (ke' : Value) (wm' : Nat → UInt32) (sh' ki' fi' ac' wy' cr' se' sl' on' hs' hn' q' : Nat → Int32) (qw' : Nat → UInt32), HR H ai' si' hc' tn' tk' wm' sh' ki' fi' ac' wy' cr' se' sl' on' hs' hn' → HP H q' qw' → Q ((argL (offT H) d o b so), ai', si', hc', tn', tk', 0, pl', it', ke', wm', sh', ki', fi', ac', wy', cr', se', sl', on', hs', hn', r_refusals, q', qw')) → Ok (f_X7_when_b65 a 0 r_refusals m b (nI so) (nI o) ai si hc tn tk pl it ke wm sh ki fi ac wy cr se sl on hs hn q qw) Q
  | d, o, 0, _, _, _, _, _, _, _, _, _, _, _, _, _, _, _, _, _, _, _, _, _, _, _, _, _, q, _, _, _, _ => absurd q (by omega)
  | 0, o, m + 1, b, so, ai, si, hc, tn, tk, pl, it, ke, wm, sh, ki, fi, ac, wy, cr, se, sl, on, hs, hn, q, qw, hk, _, _, F, QH, K => by
    rw [f_X7_when_b65]
    have hS := VH.1.2.1
    exact Okp (by rw [F.1.2.1]; exact nI_le (by omega) (by omega)) (Okv (K _ _ _ _ _ _ _ _ _ _ _ _ _ _ _ _ _ _ _ _ _ _ F QH))
  | d + 1, o, m + 1, b, so, ai, si, hc, tn, tk, pl, it, ke, wm, sh, ki, fi, ac, wy, cr, se, sl, on, hs, hn, q, qw, hk, hm, h61, F, QH, K => by
    have hS := VH.1.2.1
    have hol : o < aS H := by omega
    have lk : argL (offT H) (d + 1) o b so = if so ≤ offT H o then argL (offT H) d (o + 1) b so else argL (offT H) d (o + 1) (nI o) (offT H o) := rfl
    rw [lk] at K
    rw [f_X7_when_b65]
    refine Okn (by rw [F.1.2.1]; exact nI_ge hol (by omega)) (Okg (vp_in_nI (by omega) (by omega)) ?_)
    rw [nI_clamp (n := o) (by omega), (F.2.2.1 o hol).2.2]
    by_cases z : aOn H o = true
    · have e : offT H o = tillR o 61 0 H := if_pos z
      have l61 := (tillR_ge (s := o) 61 0 H (by omega)).2
      rw [← e] at l61
      refine Okp (nB_1.mpr z) ?_
      refine K_offIn VH VH hol ht F QH ?_
      intro _ _ _ _ _ _ _ _ _ _ _ _ _ _ _ _ _ _ _ F3 Q3
      rw [← e]
      unfold f_X7_when_b96 f_X7_when_b110
      by_cases y : so ≤ offT H o
      · rw [if_pos y] at K
        refine Okp (nI_le y (by omega)) (Okp (nI_le y (by omega)) (Okl ?_))
        rw [show nI o + (1 : Int32) = nI (o + 1) from nI_1 o]
        exact fr_l VH ht d (o + 1) m b so _ _ _ _ _ _ _ _ _ _ _ _ _ _ _ _ _ _ _ _ _ _ (by omega) (by omega) h61 F3 Q3 K
      · rw [if_neg y] at K
        refine Okn (nI_ge (by omega) (by omega)) (Okn (nI_ge (by omega) (by omega)) (Okl ?_))
        rw [show nI o + (1 : Int32) = nI (o + 1) from nI_1 o]
        exact fr_l VH ht d (o + 1) m (nI o) _ _ _ _ _ _ _ _ _ _ _ _ _ _ _ _ _ _ _ _ _ _ _ (by omega) (by omega) l61 F3 Q3 K
    · have e : offT H o = 61 := if_neg z
      rw [e, if_pos h61] at K
      refine Okn (fun y => z (nB_1.mp y)) ?_
      unfold f_X7_when_b96 f_X7_when_b110
      refine Okp (nI_le (b := 61) h61 (by omega)) (Okp (nI_le (b := 61) h61 (by omega)) (Okl ?_))
      rw [show nI o + (1 : Int32) = nI (o + 1) from nI_1 o]
      exact fr_l VH ht d (o + 1) m b so _ _ _ _ _ _ _ _ _ _ _ _ _ _ _ _ _ _ _ _ _ _ (by omega) (by omega) h61 F QH K
theorem s_when {s : S6} {t : S7} (a b : Nat → Nat) (R : Rel s t) (n0 : Int32) : Sim (F6_when s n0) (F7_when t b n0) := by
  refine Rel_o (C := fun s t => Sim (F6_when s n0) (F7_when t b n0)) R ?_
  intro H P pc pn I L T g_hasImage g_n_warmth g_n_kind g_n_figure g_n_airCell g_n_way g_n_seat g_n_shawls g_n_steps g_n_numbers g_m_shutBits g_m_airs g_m_crownedBits g_m_sitters g_m_onBits g_m_turn g_m_taken g_m_warmth g_m_kind g_m_figure g_m_airCell g_m_way g_m_seat g_m_shawls g_m_count g_m_steps g_m_numbers g_i_shutBits g_i_airs g_i_crownedBits g_i_sitters g_i_onBits g_i_turn g_i_taken g_i_warmth g_i_kind g_i_figure g_i_airCell g_i_way g_i_seat g_i_shawls g_i_count g_i_steps g_i_numbers g_text_letters g_coats_sorts g_coats_sizes g_places g_coats_carried g_told g_refused g_oneHas g_otherHas g_k_shutBits g_k_airs g_k_crownedBits g_k_sitters g_k_onBits g_k_turn g_k_taken g_k_warmth g_k_kind g_k_figure g_k_airCell g_k_way g_k_seat g_k_shawls g_k_count g_k_steps g_k_numbers r_thrown r_at0 r_isBad r_statements r_stepsMany r_hasImage r_place0 r_isTaking r_keptIn r_seed r_warms r_shutAt r_kinds0 r_figures r_airAt r_ways r_crowned r_sitsAt r_shawls r_isOn r_stepOf r_stepBy r_refusals r_letters r_placeIn r_letterOf r_numbers r_stepsRead r_stepsBy r_kept r_keptWarms r_i_imaged r_imagedWarms r_turns0 r_turnWarms0 r_turnOf r_turnWarms r_row0 r_gains r_pegSort r_pegMany r_pegHolds r_coats r_coatsMoved hE hF hg hpc hpn hK hQ hPg hI hL hT hTl hO hR hG
  show Sim (F6_when _ n0) (F7_when _ b n0)
  rw [F6_when_b, F7_when_b]
  refine sim_o ?_
  unfold f_X6_when f_X7_when
  have hV := hg.1
  obtain ⟨hA5, hS6, hH6, hT20, hK9⟩ := hV.1
  by_cases y : n0 = -1
  · have hin : inB n0 (-1 : Int64).toInt ((nI (aS H) - (1 : Int32)).toInt64).toInt = true := by
      refine decide_eq_true ?_
      rw [y, show (-1 : Int32).toInt = -1 from rfl, Int32.toInt_toInt64, show (1 : Int32) = nI 1 from rfl, pk_sub_toInt (by omega) (by omega), show (-1 : Int64).toInt = -1 by decide]
      omega
    have hN : ∀ {o : Nat}, o < aS H → f_X2_isOn (nI (bN (aOn H) (aS H))) (nI o) = some (nB (aOn H o)) := fun ho => c_isO hV hE ho
    have key : Ok (f_X6_firstOff (lN (bN (aSd H) 36)) (nI (aA H)) (nI (bN (aCr H) (aA H))) (nI (aS H)) (nI (bN (aOn H) (aS H))) (nI (aTn H)) (nI (aTk H)) g_n_warmth g_n_kind g_n_figure g_n_airCell g_n_way g_n_seat g_n_shawls (nI (aHc H)) g_n_steps g_n_numbers g_m_warmth g_m_kind g_m_figure g_m_airCell g_m_way g_m_seat g_m_shawls g_m_steps g_m_numbers) (fun z => z.1 = argL (offT H) (aS H) 0 (-9) 61) := by
      unfold f_X6_firstOff
      refine K_take hV hE ?_
      intro _ _ _ _ _ _ _ _ _ E1
      refine fo_out hV hN 60 1 4096 H _ _ _ _ _ _ _ _ (by omega) (by omega) hV rfl (by have := hg.2.2; omega) E1 ?_
      intro _ _ _ _ _ _ _ _ _ _ _ _ _ _ _ _ _
      show firstC H 60 H = _
      exact first_ok 60 0 H (by omega) rfl hV (by have := hg.2.2; omega) (fun s _ z => ⟨z, if_pos z⟩)
    obtain ⟨⟨v, s0, s1, s2, s3, s4, s5, s6, s7, s8, s9, s10, s11, s12, s13, s14, s15, s16⟩, k1, k2⟩ := key
    have k2 : v = argL (offT H) (aS H) 0 (-9) 61 := k2
    refine Okp y (Ok18 k1 (Okv ?_))
    refine Okt (r_in _ _ _) hin ?_
    refine K_think hV hF ?_
    intro _ _ _ _ _ _ _ _ _ _ _ _ _ _ F1 Q1
    refine Okp (by rw [y]; decide) ?_
    refine fr_l hV hg.2.2 (aS H) 0 4096 (-9) 61 _ _ _ _ _ _ _ _ _ _ _ _ _ _ _ _ _ _ _ _ _ _ (by omega) (by omega) (by omega) F1 Q1 ?_
    intro _ _ _ _ _ _ _ _ _ _ _ _ _ _ _ _ _ _ _ _ _ _ F3 Q3
    exact ⟨k2, Rel_i H P pc pn I L T ⟨hE, F3, hg, rfl⟩ ⟨⟨hpc, hpn, rfl, rfl, rfl⟩, hK, hQ, hPg⟩ hI ⟨hL, rfl, rfl, hT⟩ ⟨hTl, rfl, rfl, hO⟩ hR hG⟩
  · by_cases q : ixB n0 (aS H) = true
    · obtain ⟨s, hs, rfl⟩ := ixB_t q
      have hin : inB (nI s) (-1 : Int64).toInt ((nI (aS H) - (1 : Int32)).toInt64).toInt = true := by
        refine decide_eq_true ?_
        rw [nI_toInt (by omega), Int32.toInt_toInt64, show (1 : Int32) = nI 1 from rfl, pk_sub_toInt (by omega) (by omega), show (-1 : Int64).toInt = -1 by decide]
        omega
      have eT : (tillS s 60 0 H).1 = tillR s 61 0 H := till_R (s := s) 60 0 H (by omega)
      have lT := (tillR_ge (s := s) 61 0 H (by omega)).2
      refine Okn y (Okt (c_isSitter _ (by omega)) q ?_)
      refine K_take hV hE ?_
      intro _ _ _ _ _ _ _ _ _ E1
      refine K_till hV hs (by have := hg.2.2; omega) E1 ?_
      intro _ _ _ _ _ _ _ _ E2
      rw [eT]
      by_cases z : tillR s 61 0 H ≤ 60
      · refine Okp (nI_le (b := 60) z (by omega)) (Okv ?_)
        refine Okt (r_in _ _ _) hin ?_
        refine K_think hV hF ?_
        intro _ _ _ _ _ _ _ _ _ _ _ _ _ _ F1 Q1
        refine Okn (nI_pos (by omega)) ?_
        refine K_offIn hV hV hs hg.2.2 F1 Q1 ?_
        intro _ _ _ _ _ _ _ _ _ _ _ _ _ _ _ _ _ _ _ F3 Q3
        refine Okn (fun w => absurd ((nI_eq (b := 61) (by omega) (by omega)).mp w) (by omega)) (Okv ?_)
        exact ⟨rfl, Rel_i H P pc pn I L T ⟨hE, F3, hg, rfl⟩ ⟨⟨hpc, hpn, rfl, rfl, rfl⟩, hK, hQ, hPg⟩ hI ⟨hL, rfl, rfl, hT⟩ ⟨hTl, rfl, rfl, hO⟩ hR hG⟩
      · refine Okn (nI_ge (a := 60) (by omega) (by omega)) (Okv ?_)
        refine Okt (r_in _ _ _) hin ?_
        refine K_think hV hF ?_
        intro _ _ _ _ _ _ _ _ _ _ _ _ _ _ F1 Q1
        refine Okn (nI_pos (by omega)) ?_
        refine K_offIn hV hV hs hg.2.2 F1 Q1 ?_
        intro _ _ _ _ _ _ _ _ _ _ _ _ _ _ _ _ _ _ _ F3 Q3
        refine Okp (by rw [show tillR s 61 0 H = 61 by omega]; rfl) (Okv ?_)
        exact ⟨rfl, Rel_i H P pc pn I L T ⟨hE, F3, hg, rfl⟩ ⟨⟨hpc, hpn, rfl, rfl, rfl⟩, hK, hQ, hPg⟩ hI ⟨hL, rfl, rfl, hT⟩ ⟨hTl, rfl, rfl, hO⟩ hR hG⟩
    · have hin : ¬ inB n0 (-1 : Int64).toInt ((nI (aS H) - (1 : Int32)).toInt64).toInt = true := by
        intro z
        have z := of_decide_eq_true z
        rw [Int32.toInt_toInt64, show (1 : Int32) = nI 1 from rfl, pk_sub_toInt (by omega) (by omega), show (-1 : Int64).toInt = -1 by decide] at z
        have z2 : n0.toInt ≠ -1 := fun w => y (Int32.toInt_inj.mp (by rw [w]; decide))
        exact q (decide_eq_true (by omega))
      refine Okn y (Okf (c_isSitter _ (by omega)) q (Ok2 (c_refuse 1 (by omega) (by omega) _ (by decide)) (Okv ?_)))
      refine Okf (r_in _ _ _) hin (Ok2 (r_refuse 1 (by omega) (by omega) _ (by decide)) (Okv ?_))
      exact ⟨rfl, Rel_i H P pc pn I L T ⟨hE, hF, hg, rfl⟩ ⟨⟨hpc, hpn, rfl, rfl, rfl⟩, hK, hQ, hPg⟩ hI ⟨hL, rfl, rfl, hT⟩ ⟨hTl, rfl, rfl, hO⟩ (pRef_u hR) hG⟩
