/-! the reference: a turn kept, a turn given back -/
section PT0
variable {h : AH} {P : Nat → AH} {pc : Nat} {a : Nat → Nat} {ai si hc tn tk : Int32} {wm : Nat → UInt32} {sh ki fi ac wy cr se sl on hs hn : Nat → Int32} {tO t0 : Nat → Int32} {tW w0 : Nat → UInt32}
theorem RPa_add {n : Nat} {q : Nat → Int32} {qw : Nat → UInt32} (VP : ∀ i, i < n → aV (P i)) (V : aV h) (R : RPa P n t0 w0) (hq : HP h q qw) {t' : Nat → Int32} {w' : Nat → UInt32} (ht : ∀ j, t' j = if 96 * n ≤ j ∧ j < 96 * n + 96 then q (j - 96 * n) else t0 j) (hw : ∀ j, w' j = if 36 * n ≤ j ∧ j < 36 * n + 36 then qw (j - 36 * n) else w0 j) : RPa (up P n h) (n + 1) t' w' := by
  intro i hi
  by_cases q : i = n
  · subst q
    rw [up_s]
    refine HP_cg V hq (fun j hj => ?_) (fun c hc36 => ?_)
    · rw [ht, if_pos (by omega)]
      congr 1
      omega
    · rw [hw, if_pos (by omega)]
      congr 1
      omega
  · rw [up_n q]
    refine HP_cg (VP i (by omega)) (R i (by omega)) (fun j hj => ?_) (fun c hc36 => ?_)
    · rw [ht, if_neg (by omega)]
    · rw [hw, if_neg (by omega)]
theorem r_keep81 (V : aV h) (E : HR h ai si hc tn tk wm sh ki fi ac wy cr se sl on hs hn) (VP : ∀ i, i < pc → aV (P i)) (hpc : pc < 8) (R : RPa P pc t0 w0) : ∃ (wm' : Nat → UInt32) (sh' ki' fi' ac' wy' cr' se' sl' on' hs' hn' t' : Nat → Int32) (w' : Nat → UInt32) (tO' : Nat → Int32) (tW' : Nat → UInt32), f_X7_keepTurn_b81 a ai si hc tn tk wm sh ki fi ac wy cr se sl on hs hn tO tW (nI pc) t0 w0 = some (ai, si, hc, tn, tk, nI 96, 1, Value.ref (a 26), nI (pc + 1), wm', sh', ki', fi', ac', wy', cr', se', sl', on', hs', hn', t', w', tO', tW') ∧ HR h ai si hc tn tk wm' sh' ki' fi' ac' wy' cr' se' sl' on' hs' hn' ∧ RPa (up P pc h) (pc + 1) t' w' := by
  obtain ⟨wm', sh', ki', fi', ac', wy', cr', se', sl', on', hs', hn', q', qw', f, E', Q'⟩ := r_takes (q0 := a 26) (q := tO) (qw := tW) V E
  obtain ⟨t', w', f2, g1, g2⟩ := r_copyT (ai := ai) (si := si) (hc := hc) (tn := tn) (tk := tk) (pl := nI 96) (it := 1) (ke := Value.ref (a 26)) (wm := wm') (sh := sh') (ki := ki') (fi := fi') (ac := ac') (wy := wy') (cr := cr') (se := se') (sl := sl') (on := on') (hs := hs') (hn := hn') (tO := q') (tW := qw') hpc (t0 := t0) (w0 := w0) 96 0 4096 t0 (by omega) (by omega) (fun j => by rw [if_neg (by omega)])
  refine ⟨wm', sh', ki', fi', ac', wy', cr', se', sl', on', hs', hn', t', w', q', qw', ?_, E', RPa_add VP V R Q' g1 g2⟩
  unfold f_X7_keepTurn_b81
  rw [dq_bd22_s f, show (0 : Int32) = nI 0 from nI_0.symm]
  exact f2
theorem r_keepTurn (V : aV h) (E : HR h ai si hc tn tk wm sh ki fi ac wy cr se sl on hs hn) (VP : ∀ i, i < pc → aV (P i)) (hpc : pc ≤ 8) (R : RPa P pc t0 w0) : ∃ (wm' : Nat → UInt32) (sh' ki' fi' ac' wy' cr' se' sl' on' hs' hn' t' : Nat → Int32) (w' : Nat → UInt32) (tO' : Nat → Int32) (tW' : Nat → UInt32), f_X7_keepTurn a ai si hc tn tk (nI pc) wm sh ki fi ac wy cr se sl on hs hn t0 w0 tO tW = some (ai, si, hc, tn, tk, nI 96, 1, Value.ref (a 26), nI (min (pc + 1) 8), wm', sh', ki', fi', ac', wy', cr', se', sl', on', hs', hn', t', w', tO', tW') ∧ HR h ai si hc tn tk wm' sh' ki' fi' ac' wy' cr' se' sl' on' hs' hn' ∧ RPa (keepP pc h P) (min (pc + 1) 8) t' w' := by
  unfold f_X7_keepTurn
  by_cases q : pc = 8
  · subst q
    obtain ⟨t1, f1, g1⟩ := r_shiftT (a := a) (ai := ai) (si := si) (hc := hc) (tn := tn) (tk := tk) (tu := nI 8) (wm := wm) (sh := sh) (ki := ki) (fi := fi) (ac := ac) (wy := wy) (cr := cr) (se := se) (sl := sl) (on := on) (hs := hs) (hn := hn) (tO := tO) (tW := tW) (t0 := t0) (w0 := w0) 672 96 4096 t0 (by omega) (by omega) (by omega) (fun j hj => by rw [if_neg (by omega)])
    obtain ⟨w1, f2, g2⟩ := r_shiftW (a := a) (ai := ai) (si := si) (hc := hc) (tn := tn) (tk := tk) (wm := wm) (sh := sh) (ki := ki) (fi := fi) (ac := ac) (wy := wy) (cr := cr) (se := se) (sl := sl) (on := on) (hs := hs) (hn := hn) (tO := tO) (tW := tW) (t := t1) (w0 := w0) (tu := nI 8) rfl 252 36 4096 w0 (by omega) (by omega) (by omega) (fun j hj => by rw [if_neg (by omega)])
    have R1 : RPa (fun i => P (i + 1)) 7 t1 w1 := by
      intro i hi
      refine HP_cg (VP (i + 1) (by omega)) (R (i + 1) (by omega)) (fun j hj => ?_) (fun c hc36 => ?_)
      · rw [g1 _ (by omega)]
        congr 1
        omega
      · rw [g2 _ (by omega)]
        congr 1
        omega
    obtain ⟨wm', sh', ki', fi', ac', wy', cr', se', sl', on', hs', hn', t', w', tO', tW', f3, E', R'⟩ := r_keep81 (a := a) (tO := tO) (tW := tW) V E (fun i hi => VP (i + 1) (by omega)) (show 7 < 8 by omega) R1
    refine ⟨wm', sh', ki', fi', ac', wy', cr', se', sl', on', hs', hn', t', w', tO', tW', ?_, E', ?_⟩
    · rw [dq_if_pos (by rfl), show (96 : Int32) = nI 96 from rfl, f1, show (36 : Int32) = nI 36 from rfl, f2, f3]
      rfl
    · have e : keepP 8 h P = up (fun i => P (i + 1)) 7 h := by
        unfold keepP up
        rw [if_pos rfl]
      rw [e]
      exact R'
  · obtain ⟨wm', sh', ki', fi', ac', wy', cr', se', sl', on', hs', hn', t', w', tO', tW', f3, E', R'⟩ := r_keep81 (a := a) (tO := tO) (tW := tW) V E VP (show pc < 8 by omega) R
    have e : keepP pc h P = up P pc h := by
      unfold keepP
      rw [if_neg q]
    refine ⟨wm', sh', ki', fi', ac', wy', cr', se', sl', on', hs', hn', t', w', tO', tW', ?_, E', ?_⟩
    · rw [show (8 : Int32) = nI 8 from rfl, dq_if_neg (fun z => q ((nI_eq (by omega) (by omega)).mp z)), f3, Nat.min_eq_left (by omega)]
    · rw [e, Nat.min_eq_left (by omega)]
      exact R'
/-! back -/
variable {re : Nat → Int32}
theorem r_backW (VP : aV h) (hpc : pc < 8) (hQ : HP h tO (fun c => w0 (36 * pc + c))) : ∀ (d k m : Nat) (w : Nat → UInt32), k + d = 36 → d < m → (∀ j, j < 36 → w j = if j < k then w0 (36 * pc + j) else tW j) → ∃ (ai' si' hc' tn' tk' : Int32) (wm' : Nat → UInt32) (sh' ki' fi' ac' wy' cr' se' sl' on' hs' hn' : Nat → Int32) (tO' : Nat → Int32) (tW' : Nat → UInt32), f_X7_back_b65 a ai si hc tn tk wm sh ki fi ac wy cr se sl on hs hn re w0 (nI pc) tO m (nI k) w = some (nI pc, ai', si', hc', tn', tk', 0, nI 96, 0, Value.ref (a 26), nI pc, wm', sh', ki', fi', ac', wy', cr', se', sl', on', hs', hn', re, tO', tW') ∧ HR h ai' si' hc' tn' tk' wm' sh' ki' fi' ac' wy' cr' se' sl' on' hs' hn'
  | d, k, 0, _, _, q, _ => absurd q (by omega)
  | 0, k, m + 1, w, hk, _, hw => by
    have : k = 36 := by omega
    subst this
    have Q : HP h tO w := HP_cg VP hQ (fun j _ => rfl) (fun c hc36 => by rw [hw c hc36, if_pos hc36])
    obtain ⟨wm', sh', ki', fi', ac', wy', cr', se', sl', on', hs', hn', q', qw', f, E', -⟩ := r_gives (q0 := a 26) (ai := ai) (si := si) (hc := hc) (tn := tn) (tk := tk) (wm := wm) (sh := sh) (ki := ki) (fi := fi) (ac := ac) (wy := wy) (cr := cr) (se := se) (sl := sl) (on := on) (hs := hs) (hn := hn) VP Q
    rw [f_X7_back_b65, dq_if_pos (by decide), dq_bd22_s f]
    exact ⟨_, _, _, _, _, wm', sh', ki', fi', ac', wy', cr', se', sl', on', hs', hn', q', qw', rfl, E'⟩
  | d + 1, k, m + 1, w, hk, hm, hw => by
    have e : (36 : Int32) * nI pc + nI k = nI (36 * pc + k) := by rw [show (36 : Int32) = nI 36 from rfl, pk_mul, nI_add]
    rw [f_X7_back_b65, e, show (36 : Int32) = nI 36 from rfl, dq_if_neg (nI_ge (by omega) (by omega)), dq_gd_pos (vp_in_nI (by omega) (by omega)), dq_gd_pos (vp_in_nI (by omega) (by omega)), nI_clamp (by omega), nI_clamp (by omega)]
    simp only [dq_let]
    rw [show nI k + (1 : Int32) = nI (k + 1) from nI_1 k]
    refine r_backW VP hpc hQ d (k + 1) m _ (by omega) (by omega) (fun j hj => ?_)
    by_cases q : j = k
    · subst q
      rw [vf_s, if_pos (by omega)]
    · rw [vf_n q, hw j hj]
      by_cases p : j < k
      · rw [if_pos p, if_pos (by omega)]
      · rw [if_neg p, if_neg (by omega)]
theorem r_backT (VP : aV h) (hpc : pc < 8) (hQ : HP h (fun j => t0 (96 * pc + j)) (fun c => w0 (36 * pc + c))) : ∀ (d k m : Nat) (t : Nat → Int32), k + d = 96 → d < m → (∀ j, j < 96 → t j = if j < k then t0 (96 * pc + j) else tO j) → ∃ (ai' si' hc' tn' tk' : Int32) (wm' : Nat → UInt32) (sh' ki' fi' ac' wy' cr' se' sl' on' hs' hn' : Nat → Int32) (tO' : Nat → Int32) (tW' : Nat → UInt32), f_X7_back_b31 a ai si hc tn tk wm sh ki fi ac wy cr se sl on hs hn re t0 w0 tW (nI pc) m (nI k) t = some (nI pc, ai', si', hc', tn', tk', 0, nI 96, 0, Value.ref (a 26), nI pc, wm', sh', ki', fi', ac', wy', cr', se', sl', on', hs', hn', re, tO', tW') ∧ HR h ai' si' hc' tn' tk' wm' sh' ki' fi' ac' wy' cr' se' sl' on' hs' hn'
  | d, k, 0, _, _, q, _ => absurd q (by omega)
  | 0, k, m + 1, t, hk, _, ht => by
    have : k = 96 := by omega
    subst this
    have Q : HP h t (fun c => w0 (36 * pc + c)) := HP_cg VP hQ (fun j hj => by rw [ht j hj, if_pos hj]) (fun c _ => rfl)
    rw [f_X7_back_b31, dq_if_pos (by decide), show (0 : Int32) = nI 0 from nI_0.symm]
    exact r_backW (tW := tW) VP hpc Q 36 0 4096 tW (by omega) (by omega) (fun j hj => by rw [if_neg (by omega)])
  | d + 1, k, m + 1, t, hk, hm, ht => by
    have e : (96 : Int32) * nI pc + nI k = nI (96 * pc + k) := by rw [show (96 : Int32) = nI 96 from rfl, pk_mul, nI_add]
    rw [f_X7_back_b31, e, show (96 : Int32) = nI 96 from rfl, dq_if_neg (nI_ge (by omega) (by omega)), dq_gd_pos (vp_in_nI (by omega) (by omega)), dq_gd_pos (vp_in_nI (by omega) (by omega)), nI_clamp (by omega), nI_clamp (by omega)]
    simp only [dq_let]
    rw [show nI k + (1 : Int32) = nI (k + 1) from nI_1 k]
    refine r_backT VP hpc hQ d (k + 1) m _ (by omega) (by omega) (fun j hj => ?_)
    by_cases q : j = k
    · subst q
      rw [pk_us, if_pos (by omega)]
    · rw [pk_un q, ht j hj]
      by_cases p : j < k
      · rw [if_pos p, if_pos (by omega)]
      · rw [if_neg p, if_neg (by omega)]
end PT0
