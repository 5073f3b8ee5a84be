/-! houses told in letters: a statement comes, in the class -/
def thC (lt : Nat → Int32) (n q : Nat) (h : AH) (sb : Int64) (ai cb si ob tn tk : Int32) (wm : Nat → UInt32) (ki fi ac wy se sl : Nat → Int32) (y : Int32 × Int32 × (Nat → Int32) × (Nat → Int32)) : Prop := (n + aHc h ≤ 6 ∧ y.1 = 1 ∧ HC (hthS lt n q h) sb ai cb si ob tn tk wm ki fi ac wy se sl y.2.1 y.2.2.1 y.2.2.2) ∨ (6 < n + aHc h ∧ y.1 = 0)
theorem c_thl {lt : Nat → Int32} {L : Nat} {ℓ : Nat → Int32} (hL : L ≤ 96) (hlt : ∀ p, lt p = if p < L then ℓ p else -1) {sb : Int64} {ai cb si ob tn tk : Int32} {wm : Nat → UInt32} {ki fi ac wy se sl : Nat → Int32} : ∀ (f q m : Nat) (h : AH) (hs hn : Nat → Int32), (stB lt f q).2 = false → lt (stB lt f q).1 = 59 → q ≤ 400 → aHc h ≤ 6 → f + 1 < m → aV h → HC h sb ai cb si ob tn tk wm ki fi ac wy se sl (nI (aHc h)) hs hn → Ok (f_X5_tellHearth_b10 (nI L) ℓ m (nI q) (nI (aHc h)) (nI (aHc h)) hs hn) (thC lt (stK lt f q) q h sb ai cb si ob tn tk wm ki fi ac wy se sl)
  | f, q, 0, _, _, _, _, _, _, _, z, _, _ => absurd z (by omega)
  | f, q, m + 1, h, hs, hn, g, hc, hq, h6, hm, V, E => by
    have END : stK lt f q = 0 → lt q = 59 → Ok (f_X5_tellHearth_b69 (nI L) ℓ (nI q) (nI (aHc h)) hs hn) (thC lt (stK lt f q) q h sb ai cb si ob tn tk wm ki fi ac wy se sl) := fun z w => by
      unfold f_X5_tellHearth_b69
      refine Ok1 (c_let hL hlt (by omega)) (Okp w (Okv (Or.inl ⟨by omega, rfl, ?_⟩)))
      rw [z]
      exact E
    rw [f_X5_tellHearth_b10]
    by_cases z : stp (lt q) < 0
    · have e0 : stK lt f q = 0 := by
        cases f with
        | zero => rfl
        | succ f => exact if_pos z
      have e1 : (stB lt f q).1 = q := by
        cases f with
        | zero => rfl
        | succ f =>
          have : stB lt (f + 1) q = (q, false) := if_pos z
          rw [this]
      rw [e1] at hc
      by_cases k6 : 6 ≤ aHc h
      · exact Okp (nI_le (a := 6) k6 (by omega)) (END e0 hc)
      · exact Okn (nI_ge (b := 6) (by omega) (by omega)) (Ok1 (c_stp hL hlt (by omega)) (Okp z (END e0 hc)))
    · have qL := lt_S hL hlt z
      cases f with
      | zero =>
        have h0 : lt q = 59 := hc
        rw [h0] at z
        exact absurd (show stp 59 < 0 by decide) z
      | succ f =>
        obtain ⟨e1, e2, e3⟩ := stB_g z g
        have n59 : ¬ lt q = 59 := fun w => by
          rw [w] at z
          exact absurd (show stp 59 < 0 by decide) z
        by_cases k6 : 6 ≤ aHc h
        · refine Okp (nI_le (a := 6) k6 (by omega)) ?_
          unfold f_X5_tellHearth_b69
          exact Ok1 (c_let hL hlt (by omega)) (Okn n59 (Okv (Or.inr ⟨by omega, rfl⟩)))
        · obtain ⟨s1, s2⟩ := stI_ok z
          have nq : nx lt q ≤ q + 3 ∧ q < nx lt q := by unfold nx; split <;> omega
          have A9 := stA_le (fun y => (e3 y).2.2)
          obtain ⟨ad, E2⟩ := addStep_C V E (show aHc h < 6 by omega) (st := stI lt q) (n := stA lt q)
          have se2 : f_X5_stepEnd (nI L) ℓ (nI q) = some (nI (nx lt q)) := by
            rw [c_stepEnd hL hlt (by omega)]
            unfold nx
            by_cases y : stp (lt q) = 6
            · rw [if_pos y, if_pos y]
            · obtain ⟨y1, y2, -⟩ := e3 y
              rw [if_neg y, if_neg y, cod_f y1, y2]
          rw [e1] at g hc
          have ih := c_thl hL hlt (sb := sb) (ai := ai) (cb := cb) (si := si) (ob := ob) (tn := tn) (tk := tk) (wm := wm) (ki := ki) (fi := fi) (ac := ac) (wy := wy) (se := se) (sl := sl) f (nx lt q) m (addStepS h (stI lt q) (stA lt q)) (upd hs (aHc h) (nI (stI lt q))) (upd hn (aHc h) (nI (stA lt q))) g hc (by omega) (show aHc h + 1 ≤ 6 by omega) (by omega) (addStepS_V V (by omega) s2 A9) E2
          have ih2 : Ok (f_X5_tellHearth_b10 (nI L) ℓ m (nI (nx lt q)) (nI (aHc h + 1)) (nI (aHc h + 1)) (upd hs (aHc h) (nI (stI lt q))) (upd hn (aHc h) (nI (stA lt q)))) (thC lt (stK lt (f + 1) q) q h sb ai cb si ob tn tk wm ki fi ac wy se sl) := by
            refine Okm ih (fun v hv => ?_)
            rcases hv with ⟨w1, w2, w3⟩ | ⟨w1, w2⟩
            · have w1' : stK lt f (nx lt q) + (aHc h + 1) ≤ 6 := w1
              refine Or.inl ⟨by omega, w2, ?_⟩
              rw [e2]
              exact w3
            · have w1' : 6 < stK lt f (nx lt q) + (aHc h + 1) := w1
              exact Or.inr ⟨by omega, w2⟩
          refine Okn (nI_ge (b := 6) (by omega) (by omega)) (Ok1 (c_stp hL hlt (by omega)) (Okn z (Ok1 (c_stp hL hlt (by omega)) ?_)))
          unfold f_X5_tellHearth_b54
          rw [s1]
          by_cases y : stp (lt q) = 6
          · have a0 : stA lt q = 0 := if_pos y
            rw [a0] at ad ih2
            refine Okp (s1.symm.trans y) (Ok3 ad (Ok1 se2 (Okl ?_)))
            rw [nI_1]
            exact ih2
          · obtain ⟨y1, y2, y3⟩ := e3 y
            have a0 : stA lt q = nm lt 2 (q + 1) 0 := if_neg y
            rw [nI_1 q]
            refine Okn (fun w => y (s1.trans w)) (Ok1 (c_nm hL hlt (d := 2) (by omega) y3) ?_)
            rw [← a0]
            refine Ok3 ad (Ok1 se2 (Okl ?_))
            rw [nI_1]
            exact ih2
theorem c_tellHearth {lt : Nat → Int32} {L : Nat} {ℓ : Nat → Int32} (hL : L ≤ 96) (hlt : ∀ p, lt p = if p < L then ℓ p else -1) {h : AH} {sb : Int64} {ai cb si ob tn tk : Int32} {wm : Nat → UInt32} {ki fi ac wy se sl : Nat → Int32} {hc : Int32} {hs hn : Nat → Int32} {q : Nat} (hq : q ≤ 100) (V : aV h) (E : HC h sb ai cb si ob tn tk wm ki fi ac wy se sl hc hs hn) (g : (stB lt 96 q).2 = false) (hc0 : lt (stB lt 96 q).1 = 59) : Ok (f_X5_tellHearth (nI L) ℓ hs hn (nI q)) (fun y => tlC (tellL lt q h) (y.1, sb, ai, cb, si, ob, tn, tk, wm, ki, fi, ac, wy, se, sl, y.2.1, y.2.2.1, y.2.2.2)) := by
  unfold f_X5_tellHearth
  have := c_thl hL hlt 96 q 4096 (clearS h) hs hn g hc0 (by omega) (show 0 ≤ 6 by omega) (by omega) (clearS_V V) (by have := clearS_C E; rw [← nI_0] at this; exact this)
  rw [show nI (aHc (clearS h)) = 0 from nI_0] at this
  refine Okm this (fun v hv => ?_)
  unfold tellL
  rcases hv with ⟨w1, w2, w3⟩ | ⟨w1, w2⟩
  · rw [if_pos (show stK lt 96 q ≤ 6 from w1)]
    exact ⟨w2, w3⟩
  · have w1' : 6 < stK lt 96 q := w1
    rw [if_neg (by omega)]
    exact w2
theorem c_tellAir {lt : Nat → Int32} {L : Nat} {ℓ : Nat → Int32} (hL : L ≤ 96) (hlt : ∀ p, lt p = if p < L then ℓ p else -1) {h : AH} {sb : Int64} {ai cb si ob tn tk : Int32} {wm : Nat → UInt32} {ki fi ac wy se sl : Nat → Int32} {hc : Int32} {hs hn : Nat → Int32} {q : Nat} (hq : q ≤ 100) (V : aV h) (E : HC h sb ai cb si ob tn tk wm ki fi ac wy se sl hc hs hn) (D : ∀ i, i < 5 → isD (lt (q + i)) = true) : Ok (f_X5_tellAir (nI L) ℓ sb ai si ob ki fi ac wy se (nI q)) (fun y => tlC (tellA (nm lt 1 q 0) (nm lt 1 (q + 1) 0) (nm lt 2 (q + 2) 0) (nm lt 1 (q + 4) 0) h) (y.1, sb, y.2.1, cb, si, ob, tn, tk, wm, y.2.2.1, y.2.2.2.1, y.2.2.2.2.1, y.2.2.2.2.2, se, sl, hc, hs, hn)) := by
  have b1 := nm1_le (lt := lt) (q := q) (D 0 (by omega))
  have b2 := nm1_le (lt := lt) (q := q + 1) (D 1 (by omega))
  have b3 := nm2_le (lt := lt) (q := q + 2) (D 2 (by omega)) (D 3 (by omega))
  have b4 := nm1_le (lt := lt) (q := q + 4) (D 4 (by omega))
  have n1 : f_X5_number (nI L) ℓ (nI q) 1 = some (nI (nm lt 1 q 0)) := c_nm hL hlt (d := 1) (by omega) (fun i hi => D i (by omega))
  have n2 : f_X5_number (nI L) ℓ (nI q + 1) 1 = some (nI (nm lt 1 (q + 1) 0)) := by
    rw [nI_1 q]
    exact c_nm hL hlt (d := 1) (by omega) (fun i hi => by rw [show q + 1 + i = q + (1 + i) by omega]; exact D (1 + i) (by omega))
  have n3 : f_X5_number (nI L) ℓ (nI q + 2) 2 = some (nI (nm lt 2 (q + 2) 0)) := by
    rw [show nI q + (2 : Int32) = nI (q + 2) from nI_add q 2]
    exact c_nm hL hlt (d := 2) (by omega) (fun i hi => by rw [show q + 2 + i = q + (2 + i) by omega]; exact D (2 + i) (by omega))
  have n4 : f_X5_number (nI L) ℓ (nI q + 4) 1 = some (nI (nm lt 1 (q + 4) 0)) := by
    rw [show nI q + (4 : Int32) = nI (q + 4) from nI_add q 4]
    exact c_nm hL hlt (d := 1) (by omega) (fun i hi => by rw [show q + 4 + i = q + (4 + i) by omega]; exact D (4 + i) (by omega))
  generalize nm lt 1 q 0 = kd at *
  generalize nm lt 1 (q + 1) 0 = fg at *
  generalize nm lt 2 (q + 2) 0 = c at *
  generalize nm lt 1 (q + 4) 0 = w at *
  unfold f_X5_tellAir
  refine Ok1 n1 (Ok1 n3 (Ok1 n4 ?_))
  by_cases z1 : kd < 8
  · refine Okn (nI_ge (b := 8) z1 (by omega)) ?_
    by_cases z2 : c < 36
    · refine Okn (nI_ge (b := 36) z2 (by omega)) ?_
      by_cases z3 : w < 4
      · refine Okn (nI_ge (b := 4) z3 (by omega)) (Ok1 n2 ?_)
        obtain ⟨ai', ki', fi', ac', wy', f, E'⟩ := c_addAir V E (kd := kd) (fg := fg) (c := c) (w := w) z2
        refine Ok6 f ?_
        by_cases z : aA h < 5 ∧ freeS h c = true
        · rw [if_pos z] at E' ⊢
          have t : tellA kd fg c w h = some (addAirS h kd fg c w) := if_pos ⟨z1, z2, z3, z.1, z.2⟩
          rw [t]
          exact Okn (by decide) (Okv ⟨rfl, E'⟩)
        · rw [if_neg z]
          have t : tellA kd fg c w h = none := if_neg (fun y => z ⟨y.2.2.2.1, y.2.2.2.2⟩)
          rw [t]
          exact Okp rfl (Okv rfl)
      · have t : tellA kd fg c w h = none := if_neg (fun y => z3 y.2.2.1)
        rw [t]
        exact Okp (nI_le (a := 4) (by omega) (by omega)) (Okv rfl)
    · have t : tellA kd fg c w h = none := if_neg (fun y => z2 y.2.1)
      rw [t]
      exact Okp (nI_le (a := 36) (by omega) (by omega)) (Okv rfl)
  · have t : tellA kd fg c w h = none := if_neg (fun y => z1 y.1)
    rw [t]
    exact Okp (nI_le (a := 8) (by omega) (by omega)) (Okv rfl)
theorem c_tell {lt : Nat → Int32} {L : Nat} {ℓ : Nat → Int32} (hL : L ≤ 96) (hlt : ∀ p, lt p = if p < L then ℓ p else -1) {h : AH} {sb : Int64} {ai cb si ob tn tk : Int32} {wm : Nat → UInt32} {ki fi ac wy se sl : Nat → Int32} {hc : Int32} {hs hn : Nat → Int32} {p : Nat} (hp : p ≤ 96) (G : aG h) (E : HC h sb ai cb si ob tn tk wm ki fi ac wy se sl hc hs hn) (g : (stE lt p).2 = false) : Ok (f_X5_tell (nI L) ℓ sb ai cb si ob tn tk wm ki fi ac wy se sl hc hs hn (nI p)) (tlC (tellS lt p h)) := by
  obtain ⟨-, hl, hb, h59, -⟩ := (stE_le (lt := lt) p).2 g
  have V := G.1
  unfold f_X5_tell tellS
  refine Ok1 (c_let hL hlt (by omega)) ?_
  rw [nI_1 p, show nI p + (3 : Int32) = nI (p + 3) from nI_add p 3]
  rcases of_decide_eq_true hl with z | z | z | z | z | z
  · have D := bodyD (d := 5) g (by rw [z]; rfl)
    rw [if_pos z]
    refine Okp z (Okb6 (c_tellAir hL hlt (q := p + 1) (by omega) V E D) ?_)
    intro x0 x1 x2 x3 x4 x5 t
    exact Okg (tlC_z t) (Okv t)
  · have D := bodyD (d := 3) g (by rw [z]; rfl)
    have b1 := nm2_le (lt := lt) (q := p + 1) (D 0 (by omega)) (D 1 (by omega))
    have b2 := nm1_le (lt := lt) (q := p + 3) (D 2 (by omega))
    have n1 : f_X5_number (nI L) ℓ (nI (p + 1)) 2 = some (nI (nm lt 2 (p + 1) 0)) := c_nm hL hlt (d := 2) (by omega) (fun i hi => D i (by omega))
    have n2 : f_X5_number (nI L) ℓ (nI (p + 3)) 1 = some (nI (nm lt 1 (p + 3) 0)) := c_nm hL hlt (d := 1) (by omega) (fun i hi => by rw [show p + 3 + i = p + 1 + (2 + i) by omega]; exact D (2 + i) (by omega))
    rw [if_neg (by rw [z]; decide), if_neg (by rw [z]; decide), if_neg (by rw [z]; decide), if_pos z]
    refine Okn (by rw [z]; decide) (Okn (by rw [z]; decide) (Okn (by rw [z]; decide) (Okp z (Ok1 n1 ?_))))
    generalize nm lt 2 (p + 1) 0 = c at *
    generalize nm lt 1 (p + 3) 0 = n at *
    by_cases z1 : c < 36
    · refine Okn (nI_ge (b := 36) z1 (by omega)) (Ok1 n1 (Ok1 n2 ?_))
      obtain ⟨si', ob', se', sl', f, E'⟩ := c_addSitter V E (c := c) (n := n) z1
      refine Ok5 f ?_
      by_cases y : aS h < 6 ∧ freeS h c = true
      · rw [if_pos y] at E' ⊢
        have t : tellP c n h = some (addSitS h c n) := if_pos ⟨z1, y.1, y.2⟩
        rw [t]
        exact Okn (by decide) (Okv ⟨rfl, E'⟩)
      · rw [if_neg y]
        have t : tellP c n h = none := if_neg (fun w => y ⟨w.2.1, w.2.2⟩)
        rw [t]
        exact Okp rfl (Okv rfl)
    · have t : tellP c n h = none := if_neg (fun w => z1 w.1)
      rw [t]
      exact Okp (nI_le (a := 36) (by omega) (by omega)) (Okv rfl)
  · have D := bodyD (d := 2) g (by rw [z]; rfl)
    have b1 := nm2_le (lt := lt) (q := p + 1) (D 0 (by omega)) (D 1 (by omega))
    have n1 : f_X5_number (nI L) ℓ (nI (p + 1)) 2 = some (nI (nm lt 2 (p + 1) 0)) := c_nm hL hlt (d := 2) (by omega) (fun i hi => D i (by omega))
    rw [if_neg (by rw [z]; decide), if_pos z]
    refine Okn (by rw [z]; decide) (Okp z (Ok1 n1 ?_))
    generalize nm lt 2 (p + 1) 0 = c at *
    unfold f_X5_tellShut
    by_cases z1 : c < 36
    · by_cases y : takenS h c = true
      · have t : tellD c h = none := if_neg (fun w => by rw [w.2] at y; cases y)
        rw [t]
        exact Ok2 ((dq_if_neg (nI_ge (b := 36) z1 (by omega))).trans ((dq_bd_s (c_isTk V E z1)).trans (dq_if_neg (fun w => nB_0.mp w y)))) (Okg (Or.inl rfl) (Okv rfl))
      · obtain ⟨sb', f, E'⟩ := c_toggle E z1
        have t : tellD c h = some (toggleS h c) := if_pos ⟨z1, by simpa using y⟩
        rw [t]
        exact Ok2 ((dq_if_neg (nI_ge (b := 36) z1 (by omega))).trans ((dq_bd_s (c_isTk V E z1)).trans ((dq_if_pos (nB_0.mpr y)).trans (dq_bd_s f)))) (Okg (Or.inr rfl) (Okv ⟨rfl, E'⟩))
    · have t : tellD c h = none := if_neg (fun w => z1 w.1)
      rw [t]
      exact Ok2 (dq_if_pos (nI_le (a := 36) (by omega) (by omega))) (Okg (Or.inl rfl) (Okv rfl))
  · have D := bodyD (d := 4) g (by rw [z]; rfl)
    have b1 := nm2_le (lt := lt) (q := p + 1) (D 0 (by omega)) (D 1 (by omega))
    have b2 := nm2_le (lt := lt) (q := p + 3) (D 2 (by omega)) (D 3 (by omega))
    have n1 : f_X5_number (nI L) ℓ (nI (p + 1)) 2 = some (nI (nm lt 2 (p + 1) 0)) := c_nm hL hlt (d := 2) (by omega) (fun i hi => D i (by omega))
    have n2 : f_X5_number (nI L) ℓ (nI (p + 3)) 2 = some (nI (nm lt 2 (p + 3) 0)) := c_nm hL hlt (d := 2) (by omega) (fun i hi => by rw [show p + 3 + i = p + 1 + (2 + i) by omega]; exact D (2 + i) (by omega))
    rw [if_neg (by rw [z]; decide), if_neg (by rw [z]; decide), if_neg (by rw [z]; decide), if_neg (by rw [z]; decide), if_pos z]
    refine Okn (by rw [z]; decide) (Okn (by rw [z]; decide) (Okn (by rw [z]; decide) (Okn (by rw [z]; decide) (Okp z (Ok1 n1 (Ok1 n2 ?_))))))
    generalize nm lt 2 (p + 1) 0 = c at *
    generalize nm lt 2 (p + 3) 0 = n at *
    unfold f_X5_tellWarm
    by_cases z1 : c < 36
    · have t : tellW c n h = some (warmS h c (FP.i2f (nI n))) := if_pos z1
      have cc : (nI c).toNatClampNeg = c := nI_clamp (by omega)
      rw [t, cc]
      exact Ok2 ((dq_if_pos (nI_lt (b := 36) z1 (by omega))).trans (dq_gd_pos (vp_in_nI z1 (by omega)))) (Okg (Or.inr rfl) (Okv ⟨rfl, warmS_C E⟩))
    · have t : tellW c n h = none := if_neg z1
      rw [t]
      exact Ok2 (dq_if_neg (nI_nlt (b := 36) (by omega) (by omega))) (Okg (Or.inl rfl) (Okv rfl))
  · rw [if_neg (by rw [z]; decide), if_neg (by rw [z]; decide), if_pos z]
    rw [z] at hb h59
    refine Okn (by rw [z]; decide) (Okn (by rw [z]; decide) (Okp z (Okb4 (c_tellHearth hL hlt (q := p + 1) (by omega) V E hb h59) ?_)))
    intro x0 x1 x2 x3 t
    exact Okg (tlC_z t) (Okv t)
  · have D := bodyD (d := 2) g (by rw [z]; rfl)
    have b1 := nm2_le (lt := lt) (q := p + 1) (D 0 (by omega)) (D 1 (by omega))
    have n1 : f_X5_number (nI L) ℓ (nI (p + 1)) 2 = some (nI (nm lt 2 (p + 1) 0)) := c_nm hL hlt (d := 2) (by omega) (fun i hi => D i (by omega))
    rw [if_neg (by rw [z]; decide), if_neg (by rw [z]; decide), if_neg (by rw [z]; decide), if_neg (by rw [z]; decide), if_neg (by rw [z]; decide)]
    refine Okn (by rw [z]; decide) (Okn (by rw [z]; decide) (Okn (by rw [z]; decide) (Okn (by rw [z]; decide) (Okn (by rw [z]; decide) (Ok1 n1 ?_)))))
    generalize nm lt 2 (p + 1) 0 = n at *
    have G9 := G.2.2
    rw [E.1.2.2.2.1]
    by_cases z1 : 1 ≤ n
    · refine Okn (nI_nlt (b := 1) z1 (by omega)) ?_
      by_cases z2 : n ≤ 60
      · refine Okn (nI_nlt (a := 60) z2 (by omega)) ?_
        rw [nI_add]
        by_cases z3 : aTn h + n ≤ 999
        · have t : tellT n h = some (goS n h) := if_pos ⟨z1, z2, z3⟩
          rw [t]
          refine Okp (nI_le (b := 999) z3 (by omega)) ?_
          rw [← E.1.2.2.2.1]
          refine K_goOn (n := n) (by omega) V (by omega) E ?_
          intro cb' ob' tn' tk' wm' ac' wy' sl' E2
          exact Okv ⟨rfl, E2⟩
        · have t : tellT n h = none := if_neg (fun w => z3 w.2.2)
          rw [t]
          exact Okn (nI_ge (a := 999) (b := aTn h + n) (by omega) (by omega)) (Okv rfl)
      · have t : tellT n h = none := if_neg (fun w => z2 w.2.1)
        rw [t]
        exact Okp (nI_lt (a := 60) (by omega) (by omega)) (Okv rfl)
    · have t : tellT n h = none := if_neg (fun w => z1 w.1)
      rw [t]
      exact Okp (nI_lt (b := 1) (by omega) (by omega)) (Okv rfl)
