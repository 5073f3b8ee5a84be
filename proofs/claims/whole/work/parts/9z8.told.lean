/-! houses told in letters: a statement comes, in the reference -/
theorem ixB_n {c n : Nat} (h : n ≤ c) (hc : c < 2 ^ 31) : ¬ ixB (nI c) n = true := by
  intro z
  have := of_decide_eq_true z
  rw [nI_toInt hc] at this
  omega
theorem rt_air {h : AH} {ai si hc tn tk : Int32} {wm : Nat → UInt32} {sh ki fi ac wy cr se sl on hs hn : Nat → Int32} {kd fg c w : Nat} (b1 : kd ≤ 9) (b3 : c ≤ 99) (b4 : w ≤ 9) (V : aV h) (E : HR h ai si hc tn tk wm sh ki fi ac wy cr se sl on hs hn) : Ok (f_X7_airComesNew ai si sh ki fi ac wy cr se on (nI kd) (nI fg) (nI c) (nI w)) (fun y => tlR (tellA kd fg c w h) (y.1, y.2.1, si, hc, tn, tk, wm, sh, y.2.2.1, y.2.2.2.1, y.2.2.2.2.1, y.2.2.2.2.2.1, y.2.2.2.2.2.2, se, sl, on, hs, hn)) := by
  have hA5 := V.1.1
  by_cases z : kd < 8 ∧ c < 36 ∧ w < 4 ∧ aA h < 5 ∧ freeS h c = true
  · have t : tellA kd fg c w h = some (addAirS h kd fg c w) := if_pos z
    rw [t]
    obtain ⟨z1, z2, z3, z4, z5⟩ := z
    exact Oke (r_addAir V E z1 z2 z3 z4 z5) ⟨rfl, addAir_R E⟩
  · have t : tellA kd fg c w h = none := if_neg z
    rw [t]
    unfold f_X7_airComesNew f_X7_airComesNew_b40
    by_cases z1 : kd < 8
    · refine Okn (nI_ge (b := 8) z1 (by omega)) ?_
      by_cases z2 : c < 36
      · refine Okt (r_isCell _) (ixB_j z2 (by omega)) ?_
        by_cases z3 : w < 4
        · refine Okn (nI_ge (b := 4) z3 (by omega)) ?_
          by_cases z4 : aA h < 5
          · refine Okn (by rw [E.1.1]; exact nI_ge (b := 5) z4 (by omega)) (Okf (r_isFree V E z2) (fun y => z ⟨z1, z2, z3, z4, y⟩) ?_)
            exact Okp rfl (Okg (Or.inl rfl) (Okv rfl))
          · refine Okp (by rw [E.1.1]; exact nI_le (a := 5) (by omega) (by omega)) ?_
            exact Okp rfl (Okg (Or.inl rfl) (Okv rfl))
        · refine Okp (nI_le (a := 4) (by omega) (by omega)) ?_
          exact Okp rfl (Okg (Or.inl rfl) (Okv rfl))
      · refine Okf (r_isCell _) (ixB_n (by omega) (by omega)) ?_
        exact Okp rfl (Okg (Or.inl rfl) (Okv rfl))
    · refine Okp (nI_le (a := 8) (by omega) (by omega)) ?_
      exact Okp rfl (Okg (Or.inl rfl) (Okv rfl))
theorem rt_sit {h : AH} {ai si hc tn tk : Int32} {wm : Nat → UInt32} {sh ki fi ac wy cr se sl on hs hn : Nat → Int32} {c n : Nat} (b3 : c ≤ 99) (V : aV h) (E : HR h ai si hc tn tk wm sh ki fi ac wy cr se sl on hs hn) : Ok (f_X7_sitterComes ai si sh ac se sl on (nI c) (nI n)) (fun y => tlR (tellP c n h) (y.1, ai, y.2.1, hc, tn, tk, wm, sh, ki, fi, ac, wy, cr, y.2.2.1, y.2.2.2.1, y.2.2.2.2, hs, hn)) := by
  have hS6 := V.1.2.1
  by_cases z : c < 36 ∧ aS h < 6 ∧ freeS h c = true
  · have t : tellP c n h = some (addSitS h c n) := if_pos z
    rw [t]
    obtain ⟨z1, z2, z3⟩ := z
    exact Oke (r_addSit V E z1 z2 z3) ⟨rfl, addSit_R E⟩
  · have t : tellP c n h = none := if_neg z
    rw [t]
    unfold f_X7_sitterComes f_X7_sitterComes_b29
    by_cases z2 : c < 36
    · refine Okt (r_isCell _) (ixB_j z2 (by omega)) ?_
      by_cases z4 : aS h < 6
      · refine Okn (by rw [E.1.2.1]; exact nI_ge (b := 6) z4 (by omega)) (Okf (r_isFree V E z2) (fun y => z ⟨z2, z4, y⟩) ?_)
        exact Okp rfl (Okg (Or.inl rfl) (Okv rfl))
      · refine Okp (by rw [E.1.2.1]; exact nI_le (a := 6) (by omega) (by omega)) ?_
        exact Okp rfl (Okg (Or.inl rfl) (Okv rfl))
    · refine Okf (r_isCell _) (ixB_n (by omega) (by omega)) ?_
      exact Okp rfl (Okg (Or.inl rfl) (Okv rfl))
theorem rt_shut {h : AH} {ai si hc tn tk : Int32} {wm : Nat → UInt32} {sh ki fi ac wy cr se sl on hs hn : Nat → Int32} {c : Nat} (b3 : c ≤ 99) (G : aG h) (E : HR h ai si hc tn tk wm sh ki fi ac wy cr se sl on hs hn) : Ok (f_X7_shutTold ai si sh ac se on (nI c)) (fun y => tlR (tellD c h) (y.1, ai, si, hc, tn, tk, wm, y.2, ki, fi, ac, wy, cr, se, sl, on, hs, hn)) := by
  have V := G.1
  unfold f_X7_shutTold f_X7_shutTold_b30
  by_cases z : c < 36
  · have vc : vp_in (nI c) 36 := vp_in_nI z (by omega)
    have cc : (nI c).toNatClampNeg = c := nI_clamp (by omega)
    have f2 := E.2.2.2.2.1 c z
    rw [cc]
    refine Okt (r_isCell _) (ixB_j z (by omega)) (Okg vc ?_)
    by_cases sd : aSd h c = true
    · have t : tellD c h = some (toggleS h c) := if_pos ⟨z, G.2.1 c z sd⟩
      rw [t]
      exact Okp (by rw [f2]; exact nB_1.mpr sd) (Okn (by decide) (Okg vc (Okg vc (Okl (Okg (Or.inr rfl) (Okv ⟨rfl, toggle_R E z⟩))))))
    · refine Okn (by rw [f2]; exact fun w => sd (nB_1.mp w)) ?_
      by_cases tk0 : takenS h c = true
      · have t : tellD c h = none := if_neg (fun w => by rw [w.2] at tk0; cases tk0)
        rw [t]
        exact Okf (r_isEmpty V E z) (by rw [tk0]; decide) (Okp rfl (Okg (Or.inl rfl) (Okv rfl)))
      · have tk1 : takenS h c = false := by simpa using tk0
        have t : tellD c h = some (toggleS h c) := if_pos ⟨z, tk1⟩
        rw [t]
        exact Okt (r_isEmpty V E z) (by rw [tk1]; rfl) (Okn (by decide) (Okg vc (Okg vc (Okl (Okg (Or.inr rfl) (Okv ⟨rfl, toggle_R E z⟩))))))
  · have t : tellD c h = none := if_neg (fun w => z w.1)
    rw [t]
    exact Okf (r_isCell _) (ixB_n (by omega) (by omega)) (Okp rfl (Okg (Or.inl rfl) (Okv rfl)))
theorem rt_warm {h : AH} {ai si hc tn tk : Int32} {wm : Nat → UInt32} {sh ki fi ac wy cr se sl on hs hn : Nat → Int32} {c n : Nat} (b3 : c ≤ 99) (E : HR h ai si hc tn tk wm sh ki fi ac wy cr se sl on hs hn) : Ok (f_X7_warmTold wm (nI c) (nI n)) (fun y => tlR (tellW c n h) (y.1, ai, si, hc, tn, tk, y.2, sh, ki, fi, ac, wy, cr, se, sl, on, hs, hn)) := by
  unfold f_X7_warmTold
  by_cases z : c < 36
  · have vc : vp_in (nI c) 36 := vp_in_nI z (by omega)
    have cc : (nI c).toNatClampNeg = c := nI_clamp (by omega)
    have t : tellW c n h = some (warmS h c (FP.i2f (nI n))) := if_pos z
    rw [t, cc]
    exact Okt (r_isCell _) (ixB_j z (by omega)) (Okg vc (Okl (Okg (Or.inr rfl) (Okv ⟨rfl, warmS_R E⟩))))
  · have t : tellW c n h = none := if_neg z
    rw [t]
    exact Okf (r_isCell _) (ixB_n (by omega) (by omega)) (Okg (Or.inl rfl) (Okv rfl))
theorem rt_turns {h : AH} {ai si hc tn tk : Int32} {wm : Nat → UInt32} {sh ki fi ac wy cr se sl on hs hn : Nat → Int32} {n : Nat} (b3 : n ≤ 99) (G : aG h) (E : HR h ai si hc tn tk wm sh ki fi ac wy cr se sl on hs hn) : Ok (f_X7_turnsTold ai si hc tn tk 0 wm sh ki fi ac wy cr se sl on hs hn (nI n)) (fun y => tlR (tellT n h) (y.1, ai, si, hc, y.2.1, y.2.2.1, y.2.2.2.1, sh, ki, fi, y.2.2.2.2.1, y.2.2.2.2.2.1, y.2.2.2.2.2.2.1, se, y.2.2.2.2.2.2.2.1, y.2.2.2.2.2.2.2.2, hs, hn)) := by
  have V := G.1
  have G9 := G.2.2
  have et := E.1.2.2.2.1
  unfold f_X7_turnsTold f_X7_turnsTold_b29
  have ib : inB (nI n) (1 : Int64).toInt (60 : Int64).toInt = decide (1 ≤ n ∧ n ≤ 60) := by
    unfold inB
    rw [show (1 : Int64).toInt = 1 by decide, show (60 : Int64).toInt = 60 by decide, nI_toInt (by omega)]
    congr 1
    apply propext
    constructor <;> intro w <;> omega
  by_cases z : 1 ≤ n ∧ n ≤ 60
  · refine Okt (r_in _ _ _) (by rw [ib]; exact decide_eq_true z) ?_
    by_cases y : aTn h + n ≤ 999
    · have t : tellT n h = some (goS n h) := if_pos ⟨z.1, z.2, y⟩
      rw [t]
      refine Okn (by rw [et, nI_add]; exact nI_nlt (a := 999) y (by omega)) (Okn (by decide) ?_)
      refine K_go (n := n) (by omega) V (by omega) E ?_
      intro tn' tk' wm' ac' wy' cr' sl' on' E2
      exact Okg (Or.inr rfl) (Okv ⟨rfl, E2⟩)
    · have t : tellT n h = none := if_neg (fun w => y w.2.2)
      rw [t]
      exact Okp (by rw [et, nI_add]; exact nI_lt (a := 999) (by omega) (by omega)) (Okp rfl (Okg (Or.inl rfl) (Okv rfl)))
  · have t : tellT n h = none := if_neg (fun w => z ⟨w.1, w.2.1⟩)
    rw [t]
    exact Okf (r_in _ _ _) (by rw [ib, decide_eq_false z]; decide) (Okp rfl (Okg (Or.inl rfl) (Okv rfl)))
theorem rt_hl {lt : Nat → Int32} {ai si tn tk x2 : Int32} {wm : Nat → UInt32} {sh ki fi ac wy cr se sl on sR sB : Nat → Int32} {F n : Nat} (hF : F + n ≤ 96) (hn6 : n ≤ 6) : ∀ (f q k m : Nat) (h : AH) (hs hn : Nat → Int32), (stB lt f q).2 = false → aHc h = k → k + stK lt f q = n → stK lt f q < m → (∀ j, j < stK lt f q → sR (F + k + j) = stp (lt (sp lt q j)) ∧ sB (F + k + j) = nI (stA lt (sp lt q j))) → HR h ai si (nI k) tn tk wm sh ki fi ac wy cr se sl on hs hn → Ok (f_X7_hearthTold_b31 (nI F) (nI n) sR sB 1 x2 m (nI k) hs hn) (fun y => y.1 = 1 ∧ y.2.1 = x2 ∧ HR (hthS lt (stK lt f q) q h) ai si (nI n) tn tk wm sh ki fi ac wy cr se sl on y.2.2.1 y.2.2.2)
  | f, q, k, 0, _, _, _, _, _, _, z, _, _ => absurd z (by omega)
  | f, q, k, m + 1, h, hs, hn, g, hk, hn2, hm, hd, E => by
    rw [f_X7_hearthTold_b31]
    refine Okn (by decide) ?_
    by_cases z0 : stK lt f q = 0
    · rw [z0] at hn2 ⊢
      refine Okp (nI_le (by omega) (by omega)) (Okg (Or.inr rfl) (Okv ⟨rfl, rfl, ?_⟩))
      rw [show n = k by omega]
      exact E
    · cases f with
      | zero => exact absurd rfl z0
      | succ f =>
        have z : ¬ stp (lt q) < 0 := fun w => z0 (if_pos w)
        obtain ⟨e1, e2, e3⟩ := stB_g z g
        obtain ⟨s1, s2⟩ := stI_ok z
        have vF : vp_in (nI (F + k)) 96 := vp_in_nI (by omega) (by omega)
        have vk : vp_in (nI k) 6 := vp_in_nI (by omega) (by omega)
        obtain ⟨d1, d2⟩ := hd 0 (by omega)
        have d1' : sR (F + k) = nI (stI lt q) := d1.trans s1
        have d2' : sB (F + k) = nI (stA lt q) := d2
        refine Okn (nI_ge (by omega) (by omega)) ?_
        rw [nI_add F k, nI_clamp (n := F + k) (by omega), nI_clamp (n := k) (by omega), nI_1 k, d1', d2']
        refine Okg vF (Okg vk (Okl (Okg vF (Okg vk (Okl (Okl ?_))))))
        rw [e1] at g
        rw [e2] at hn2 hm hd ⊢
        have E2 := addStep_R E (st := stI lt q) (n := stA lt q) s2 (v := nI (stA lt q)) stA_v
        rw [hk] at E2
        exact rt_hl hF hn6 f (nx lt q) (k + 1) m (addStepS h (stI lt q) (stA lt q)) _ _ g (by show aHc h + 1 = _; omega) (by omega) (by omega) (fun j hj => by have := hd (j + 1) (by omega); rw [show F + (k + 1) + j = F + k + (j + 1) by omega]; exact this) E2
theorem rt_hearth {lt : Nat → Int32} {h : AH} {ai si hc tn tk : Int32} {wm : Nat → UInt32} {sh ki fi ac wy cr se sl on hs hn : Nat → Int32} {sR sB : Nat → Int32} {F q : Nat} (hF : F + stK lt 96 q ≤ 96) (g : (stB lt 96 q).2 = false) (hd : ∀ j, j < stK lt 96 q → sR (F + j) = stp (lt (sp lt q j)) ∧ sB (F + j) = nI (stA lt (sp lt q j))) (E : HR h ai si hc tn tk wm sh ki fi ac wy cr se sl on hs hn) : Ok (f_X7_hearthTold hc hs hn sR sB (nI F) (nI (stK lt 96 q))) (fun y => tlR (tellL lt q h) (y.1, ai, si, y.2.1, tn, tk, wm, sh, ki, fi, ac, wy, cr, se, sl, on, y.2.2.1, y.2.2.2)) := by
  unfold f_X7_hearthTold f_X7_hearthTold_b11 f_X7_hearthTold_b25
  by_cases z : stK lt 96 q ≤ 6
  · have t : tellL lt q h = some (hthS lt (stK lt 96 q) q (clearS h)) := if_pos z
    rw [t]
    refine Okn (nI_nlt (a := 6) z (by omega)) (Okn (by decide) ?_)
    have := rt_hl (x2 := nI (stK lt 96 q)) hF z 96 q 0 4096 (clearS h) hs hn g rfl (by omega) (by omega) (fun j hj => hd j hj) (by have := clearS_R E; rw [← nI_0] at this; exact this)
    rw [nI_0] at this
    refine Okm this (fun v hv => ?_)
    obtain ⟨w1, w2, w3⟩ := hv
    refine ⟨w1, ?_⟩
    rw [← w2] at w3
    exact w3
  · have t : tellL lt q h = none := if_neg z
    rw [t]
    refine Okp (nI_lt (a := 6) (by omega) (by omega)) (Okp rfl ?_)
    rw [f_X7_hearthTold_b31]
    exact Okp rfl (Okg (Or.inl rfl) (Okv rfl))
theorem r_tell {lt : Nat → Int32} {h : AH} {ai si hc tn tk : Int32} {wm : Nat → UInt32} {sh ki fi ac wy cr se sl on hs hn : Nat → Int32} {lO num sR sB : Nat → Int32} {p k sm : Nat} (hk : k ≤ 48) (hsm : sm ≤ 96) (hlO : lO k = lt p) (D : DD lt (lt p) (p + 1) (4 * k) sm num sR sB) (g : (stE lt p).2 = false) (G : aG h) (E : HR h ai si hc tn tk wm sh ki fi ac wy cr se sl on hs hn) : Ok (f_X7_comesTold ai si hc tn tk 0 wm sh ki fi ac wy cr se sl on hs hn lO num sR sB (nI k)) (tlR (tellS lt p h)) := by
  obtain ⟨-, hl, hb, h59, -⟩ := (stE_le (lt := lt) p).2 g
  have V := G.1
  have v0 : vp_in (nI (4 * k)) 196 := vp_in_nI (by omega) (by omega)
  have v1 : vp_in (nI (4 * k + 1)) 196 := vp_in_nI (by omega) (by omega)
  have v2 : vp_in (nI (4 * k + 2)) 196 := vp_in_nI (by omega) (by omega)
  have v3 : vp_in (nI (4 * k + 3)) 196 := vp_in_nI (by omega) (by omega)
  have vk : vp_in (nI k) 49 := vp_in_nI (by omega) (by omega)
  obtain ⟨D1, D2, D3, D4, D5⟩ := D
  unfold f_X7_comesTold tellS
  rw [show (4 : Int32) * nI k = nI (4 * k) from pk_mul 4 k, nI_1 (4 * k), show nI (4 * k) + (2 : Int32) = nI (4 * k + 2) from nI_add _ 2, show nI (4 * k) + (3 : Int32) = nI (4 * k + 3) from nI_add _ 3, nI_clamp (n := 4 * k) (by omega), nI_clamp (n := 4 * k + 1) (by omega), nI_clamp (n := 4 * k + 2) (by omega), nI_clamp (n := 4 * k + 3) (by omega), nI_clamp (n := k) (by omega), hlO]
  refine Okg v0 (Okl (Okg v1 (Okl (Okg vk (Okl ?_)))))
  rcases of_decide_eq_true hl with z | z | z | z | z | z
  · have Dg := bodyD (d := 5) g (by rw [z]; rfl)
    obtain ⟨a1, a2, a3, a4⟩ := D1 z
    have b1 := nm1_le (lt := lt) (q := p + 1) (Dg 0 (by omega))
    have b3 := nm2_le (lt := lt) (q := p + 3) (Dg 2 (by omega)) (Dg 3 (by omega))
    have b4 := nm1_le (lt := lt) (q := p + 5) (Dg 4 (by omega))
    rw [if_pos z, a1, a2, a3, a4]
    refine Okp z (Okg v2 (Okg v3 (Okb7 (rt_air b1 b3 b4 V E) ?_)))
    intro x0 x1 x2 x3 x4 x5 x6 t
    exact Okg (tlR_z t) (Okv t)
  · have Dg := bodyD (d := 3) g (by rw [z]; rfl)
    obtain ⟨a1, a2⟩ := D2 z
    have b3 := nm2_le (lt := lt) (q := p + 1) (Dg 0 (by omega)) (Dg 1 (by omega))
    rw [if_neg (by rw [z]; decide), if_neg (by rw [z]; decide), if_neg (by rw [z]; decide), if_pos z, a1, a2]
    refine Okn (by rw [z]; decide) (Okn (by rw [z]; decide) (Okn (by rw [z]; decide) (Okp z (Okb5 (rt_sit b3 V E) ?_))))
    intro x0 x1 x2 x3 x4 t
    exact Okg (tlR_z t) (Okv t)
  · have Dg := bodyD (d := 2) g (by rw [z]; rfl)
    have a1 := D4 (Or.inl z)
    have b3 := nm2_le (lt := lt) (q := p + 1) (Dg 0 (by omega)) (Dg 1 (by omega))
    rw [if_neg (by rw [z]; decide), if_pos z, a1]
    refine Okn (by rw [z]; decide) (Okp z (Okb2 (rt_shut b3 G E) ?_))
    intro x0 x1 t
    exact Okg (tlR_z t) (Okv t)
  · have Dg := bodyD (d := 4) g (by rw [z]; rfl)
    obtain ⟨a1, a2⟩ := D3 z
    have b3 := nm2_le (lt := lt) (q := p + 1) (Dg 0 (by omega)) (Dg 1 (by omega))
    rw [if_neg (by rw [z]; decide), if_neg (by rw [z]; decide), if_neg (by rw [z]; decide), if_neg (by rw [z]; decide), if_pos z, a1, a2]
    refine Okn (by rw [z]; decide) (Okn (by rw [z]; decide) (Okn (by rw [z]; decide) (Okn (by rw [z]; decide) (Okp z (Okb2 (rt_warm b3 E) ?_)))))
    intro x0 x1 t
    exact Okg (tlR_z t) (Okv t)
  · obtain ⟨F, a0, a1, a2, a3⟩ := D5 z
    rw [z] at hb
    rw [if_neg (by rw [z]; decide), if_neg (by rw [z]; decide), if_pos z, a1, a2]
    refine Okn (by rw [z]; decide) (Okn (by rw [z]; decide) (Okp z (Okb4 (rt_hearth (by omega) hb a3 E) ?_)))
    intro x0 x1 x2 x3 t
    exact Okg (tlR_z t) (Okv t)
  · have Dg := bodyD (d := 2) g (by rw [z]; rfl)
    have a1 := D4 (Or.inr z)
    have b3 := nm2_le (lt := lt) (q := p + 1) (Dg 0 (by omega)) (Dg 1 (by omega))
    rw [if_neg (by rw [z]; decide), if_neg (by rw [z]; decide), if_neg (by rw [z]; decide), if_neg (by rw [z]; decide), if_neg (by rw [z]; decide), a1]
    refine Okn (by rw [z]; decide) (Okn (by rw [z]; decide) (Okn (by rw [z]; decide) (Okn (by rw [z]; decide) (Okn (by rw [z]; decide) (Okb9 (rt_turns b3 G E) ?_)))))
    intro x0 x1 x2 x3 x4 x5 x6 x7 x8 t
    exact Okg (tlR_z t) (Okv t)
