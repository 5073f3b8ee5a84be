/-! turns, one behind the other; taking a house; who comes -/
section PT
variable {h : AH} {sb : Int64} {ai cb si ob tn tk hc : Int32} {wm : Nat → UInt32} {ki fi ac wy se sl hs hn : Nat → Int32}
theorem c_airs_loop (V : aV h) {k2 : Int32 → Int32 → Int32 → Int32 → Int32 → (Nat → UInt32) → (Nat → Int32) → (Nat → Int32) → (Nat → Int32) → Option (Int32 × Int32 × Int32 × Int32 × (Nat → UInt32) × (Nat → Int32) × (Nat → Int32) × (Nat → Int32))} {x1 : Int32} : ∀ (d k m : Nat) (cb ob tk : Int32) (wm : Nat → UInt32) (ac wy sl : Nat → Int32), k + d = aA h → d < m → HC (blowsS k h) sb ai cb si ob tn tk wm ki fi ac wy se sl hc hs hn → ∃ (cb' ob' tk' : Int32) (wm' : Nat → UInt32) (ac' wy' sl' : Nat → Int32), f_X2_goOn_b13 sb ai si ki fi se x1 tn k2 m (nI k) cb ob tk wm ac wy sl = k2 (x1 + 1) cb' ob' tn tk' wm' ac' wy' sl' ∧ HC (freezeS (blowsS (aA h) h)) sb ai cb' si ob' tn tk' wm' ki fi ac' wy' se sl' hc hs hn
  | d, k, 0, _, _, _, _, _, _, _, _, q, _ => absurd q (by omega)
  | 0, k, m + 1, cb, ob, tk, wm, ac, wy, sl, hk, _, E => by
    obtain ⟨V', hA', -, -⟩ := blowsS_V V k (by omega)
    have h5 := V.1.1
    obtain ⟨ob', f, E'⟩ := c_freeze V' E
    have hk' : k = aA h := by omega
    subst hk'
    refine ⟨cb, ob', tk, wm, ac, wy, sl, ?_, E'⟩
    unfold f_X2_goOn_b13
    rw [dq_if_pos (by rw [E.1.1, hA']; exact nI_le (Nat.le_refl _) (by omega)), dq_bd_s f]
    rfl
  | d + 1, k, m + 1, cb, ob, tk, wm, ac, wy, sl, hk, hm, E => by
    obtain ⟨V', hA', -, -⟩ := blowsS_V V k (by omega)
    have h5 := V.1.1
    obtain ⟨cb1, ob1, tk1, wm1, ac1, wy1, sl1, f, E1⟩ := c_blow V' E (a := k) (by rw [hA']; omega)
    obtain ⟨cb', ob', tk', wm', ac', wy', sl', f2, E2⟩ := c_airs_loop V (k2 := k2) (x1 := x1) d (k + 1) m cb1 ob1 tk1 wm1 ac1 wy1 sl1 (by omega) (by omega) E1
    refine ⟨cb', ob', tk', wm', ac', wy', sl', ?_, E2⟩
    unfold f_X2_goOn_b13
    rw [dq_if_neg (by rw [E.1.1, hA']; exact nI_ge (by omega) (by omega)), dq_bd7_s f]
    simp only [dq_let]
    rw [show nI k + (1 : Int32) = nI (k + 1) from nI_1 k]
    exact f2
theorem c_goOn_step {n k m : Nat} (hn30 : n < 4096) (hk : k < n) (V : aV h) (ht : aTn h + 1 < 2 ^ 20) (E : HC h sb ai cb si ob tn tk wm ki fi ac wy se sl hc hs hn) : ∃ (cb' ob' tn' tk' : Int32) (wm' : Nat → UInt32) (ac' wy' sl' : Nat → Int32), f_X2_goOn_b2 (nI n) sb ai si ki fi se hc hs hn (m + 1) (nI k) cb ob tn tk wm ac wy sl = f_X2_goOn_b2 (nI n) sb ai si ki fi se hc hs hn m (nI (k + 1)) cb' ob' tn' tk' wm' ac' wy' sl' ∧ HC (turnS h) sb ai cb' si ob' tn' tk' wm' ki fi ac' wy' se sl' hc hs hn := by
  obtain ⟨wm1, f1, E1⟩ := c_begin V E
  have V1 := beginS_V V ht
  obtain ⟨cb2, ob2, tk2, wm2, ac2, wy2, sl2, f2, E2⟩ := c_airs_loop V1 (k2 := f_X2_goOn_b2 (nI n) sb ai si ki fi se hc hs hn m) (x1 := nI k) (aA h) 0 4096 cb ob tk wm1 ac wy sl (Nat.zero_add _) (by have := V.1.1; omega) E1
  refine ⟨cb2, ob2, _, tk2, wm2, ac2, wy2, sl2, ?_, E2⟩
  rw [f_X2_goOn_b2, dq_if_neg (nI_ge (by omega) (by omega)), dq_bd2_s f1, show (0 : Int32) = nI 0 from nI_0.symm, f2, show nI k + (1 : Int32) = nI (k + 1) from nI_1 k]
theorem c_goOn_loop {n : Nat} (hn30 : n < 4096) : ∀ (d k m : Nat) (h : AH) (cb ob tn tk : Int32) (wm : Nat → UInt32) (ac wy sl : Nat → Int32), k + d = n → d < m → aV h → aTn h + d < 2 ^ 20 → HC h sb ai cb si ob tn tk wm ki fi ac wy se sl hc hs hn → ∃ (cb' ob' tn' tk' : Int32) (wm' : Nat → UInt32) (ac' wy' sl' : Nat → Int32), f_X2_goOn_b2 (nI n) sb ai si ki fi se hc hs hn m (nI k) cb ob tn tk wm ac wy sl = some (cb', ob', tn', tk', wm', ac', wy', sl') ∧ HC (goS d h) sb ai cb' si ob' tn' tk' wm' ki fi ac' wy' se sl' hc hs hn
  | d, k, 0, _, _, _, _, _, _, _, _, _, _, q, _, _, _ => absurd q (by omega)
  | 0, k, m + 1, h, cb, ob, tn, tk, wm, ac, wy, sl, hk, _, V, _, E => by
    refine ⟨cb, ob, tn, tk, wm, ac, wy, sl, ?_, E⟩
    unfold f_X2_goOn_b2
    rw [dq_if_pos (nI_le (by omega) (by omega))]
  | d + 1, k, m + 1, h, cb, ob, tn, tk, wm, ac, wy, sl, hk, hm, V, ht, E => by
    obtain ⟨cb2, ob2, tn2, tk2, wm2, ac2, wy2, sl2, f2, E2⟩ := c_goOn_step hn30 (m := m) (show k < n by omega) V (by omega) E
    obtain ⟨V2, -, -, ht2⟩ := turnS_V V (by omega)
    obtain ⟨cb', ob', tn', tk', wm', ac', wy', sl', f3, E3⟩ := c_goOn_loop hn30 d (k + 1) m (turnS h) cb2 ob2 tn2 tk2 wm2 ac2 wy2 sl2 (by omega) (by omega) V2 (by rw [ht2]; omega) E2
    exact ⟨cb', ob', tn', tk', wm', ac', wy', sl', f2.trans f3, E3⟩
theorem c_goOn {n : Nat} {hn' : Nat → Int32} (hn : n < 4096) (V : aV h) (ht : aTn h + n < 2 ^ 20) (E : HC h sb ai cb si ob tn tk wm ki fi ac wy se sl hc hs hn') : ∃ (cb' ob' tn' tk' : Int32) (wm' : Nat → UInt32) (ac' wy' sl' : Nat → Int32), f_X2_goOn sb ai cb si ob tn tk wm ki fi ac wy se sl hc hs hn' (nI n) = some (cb', ob', tn', tk', wm', ac', wy', sl') ∧ HC (goS n h) sb ai cb' si ob' tn' tk' wm' ki fi ac' wy' se sl' hc hs hn' := by
  unfold f_X2_goOn
  rw [show (0 : Int32) = nI 0 from nI_0.symm]
  exact c_goOn_loop hn n 0 4096 h cb ob tn tk wm ac wy sl (by omega) hn V ht E
/-- till he is off: behind how many turns, and the house then -/
def tillS (s : Nat) : Nat → Nat → AH → Nat × AH
  | 0, k, h => (if aOn h s = true then k + 1 else k, h)
  | d + 1, k, h => if aOn h s = true then tillS s d (k + 1) (goS 1 h) else (k, h)
theorem tillS_V {s : Nat} : ∀ (d k : Nat) (h : AH), aV h → aTn h + d < 2 ^ 20 → aV (tillS s d k h).2 ∧ (tillS s d k h).1 ≤ k + d + 1
  | 0, k, h, V, _ => by
    refine ⟨V, ?_⟩
    unfold tillS
    simp only
    split <;> omega
  | d + 1, k, h, V, ht => by
    unfold tillS
    split
    · obtain ⟨V1, -, -, ht1⟩ := goS_V 1 V (by omega)
      have := tillS_V (s := s) d (k + 1) (goS 1 h) V1 (by rw [ht1]; omega)
      exact ⟨this.1, by omega⟩
    · exact ⟨V, by simp only; omega⟩
theorem c_till_loop {s : Nat} : ∀ (d k m : Nat) (h : AH) (cb ob tn tk : Int32) (wm : Nat → UInt32) (ac wy sl : Nat → Int32), k + d = 60 → d < m → aV h → s < aS h → aTn h + d < 2 ^ 20 → HC h sb ai cb si ob tn tk wm ki fi ac wy se sl hc hs hn → ∃ (cb' ob' tn' tk' : Int32) (wm' : Nat → UInt32) (ac' wy' sl' : Nat → Int32), f_X2_goOnTillOff_b2 (nI s) sb ai si ki fi se hc hs hn m (nI k) cb ob tn tk wm ac wy sl = some (nI (tillS s d k h).1, cb', ob', tn', tk', wm', ac', wy', sl') ∧ HC (tillS s d k h).2 sb ai cb' si ob' tn' tk' wm' ki fi ac' wy' se sl' hc hs hn
  | d, k, 0, _, _, _, _, _, _, _, _, _, _, q, _, _, _, _ => absurd q (by omega)
  | 0, k, m + 1, h, cb, ob, tn, tk, wm, ac, wy, sl, hk, _, V, hs', _, E => by
    have hk : k = 60 := by omega
    subst hk
    refine ⟨cb, ob, tn, tk, wm, ac, wy, sl, ?_, E⟩
    unfold f_X2_goOnTillOff_b2 tillS
    rw [show (60 : Int32) = nI 60 from rfl, dq_if_pos (nI_le (by omega) (by omega)), dq_bd_s (c_isOn V E hs')]
    by_cases q : aOn h s = true
    · rw [if_pos q, dq_if_neg (by decide), if_pos q]
      rfl
    · rw [if_neg q, dq_if_pos rfl, if_neg q]
  | d + 1, k, m + 1, h, cb, ob, tn, tk, wm, ac, wy, sl, hk, hm, V, hs', ht, E => by
    unfold f_X2_goOnTillOff_b2 tillS
    rw [show (60 : Int32) = nI 60 from rfl, dq_if_neg (nI_ge (by omega) (by omega)), dq_bd_s (c_isOn V E hs')]
    by_cases q : aOn h s = true
    · obtain ⟨cb1, ob1, tn1, tk1, wm1, ac1, wy1, sl1, f1, E1⟩ := c_goOn (n := 1) (by omega) V (by omega) E
      obtain ⟨V1, -, hS1, ht1⟩ := goS_V 1 V (by omega)
      obtain ⟨cb2, ob2, tn2, tk2, wm2, ac2, wy2, sl2, f2, E2⟩ := c_till_loop d (k + 1) m (goS 1 h) cb1 ob1 tn1 tk1 wm1 ac1 wy1 sl1 (by omega) (by omega) V1 (by rw [hS1]; exact hs') (by rw [ht1]; omega) E1
      rw [if_pos q, dq_if_neg (by decide), if_pos q]
      refine ⟨cb2, ob2, tn2, tk2, wm2, ac2, wy2, sl2, ?_, E2⟩
      rw [show (1 : Int32) = nI 1 from rfl, dq_bd8_s f1]
      simp only [dq_let]
      rw [show nI 1 = (1 : Int32) from rfl, show nI k + (1 : Int32) = nI (k + 1) from nI_1 k]
      exact f2
    · rw [if_neg q, dq_if_pos rfl, if_neg q]
      exact ⟨cb, ob, tn, tk, wm, ac, wy, sl, rfl, E⟩
theorem c_till {s : Nat} (V : aV h) (hs' : s < aS h) (ht : aTn h + 60 < 2 ^ 20) (E : HC h sb ai cb si ob tn tk wm ki fi ac wy se sl hc hs hn) : ∃ (cb' ob' tn' tk' : Int32) (wm' : Nat → UInt32) (ac' wy' sl' : Nat → Int32), f_X2_goOnTillOff sb ai cb si ob tn tk wm ki fi ac wy se sl hc hs hn (nI s) = some (nI (tillS s 60 0 h).1, cb', ob', tn', tk', wm', ac', wy', sl') ∧ HC (tillS s 60 0 h).2 sb ai cb' si ob' tn' tk' wm' ki fi ac' wy' se sl' hc hs hn := by
  unfold f_X2_goOnTillOff
  rw [show (0 : Int32) = nI 0 from nI_0.symm]
  exact c_till_loop 60 0 4096 h cb ob tn tk wm ac wy sl (by omega) (by omega) V hs' ht E
end PT
