/-! what kind an air is -/
def kindS (h : AH) (a k : Nat) : AH := (h.1, (up (aKd h) a k, aFg h, aAc h, aWy h, aCr h), h.2.2)
def figS (h : AH) (a k : Nat) : AH := (h.1, (aKd h, up (aFg h) a k, aAc h, aWy h, aCr h), h.2.2)
theorem kindS_V {h : AH} (V : aV h) {a k : Nat} (hk : k < 8) : aV (kindS h a k) := by
  obtain ⟨v1, v2, v3⟩ := V
  refine ⟨v1, fun i hi => ⟨?_, (v2 i hi).2⟩, v3⟩
  show up (aKd h) a k i < 8
  by_cases z : i = a
  · subst z
    rw [up_s]
    exact hk
  · rw [up_n z]
    exact (v2 i hi).1
theorem figS_V {h : AH} (V : aV h) {a k : Nat} (hk : k ≤ 9) : aV (figS h a k) := by
  obtain ⟨v1, v2, v3⟩ := V
  refine ⟨v1, fun i hi => ⟨(v2 i hi).1, ?_, (v2 i hi).2.2⟩, v3⟩
  show up (aFg h) a k i ≤ 9
  by_cases z : i = a
  · subst z
    rw [up_s]
    exact hk
  · rw [up_n z]
    exact (v2 i hi).2.1
theorem kindS_C {h : AH} {sb : Int64} {ai : Int32} {cb : Int32} {si : Int32} {ob : Int32} {tn : Int32} {tk : Int32} {wm : Nat → UInt32} {ki : Nat → Int32} {fi : Nat → Int32} {ac : Nat → Int32} {wy : Nat → Int32} {se : Nat → Int32} {sl : Nat → Int32} {hc : Int32} {hs : Nat → Int32} {hn : Nat → Int32} (E : HC h sb ai cb si ob tn tk wm ki fi ac wy se sl hc hs hn) {a k : Nat} : HC (kindS h a k) sb ai cb si ob tn tk wm (upd ki a (nI k)) fi ac wy se sl hc hs hn := by
  refine ⟨E.1, E.2.1, fun i hi => ⟨?_, (E.2.2.1 i hi).2⟩, E.2.2.2⟩
  show upd ki a (nI k) i = nI (up (aKd h) a k i)
  by_cases z : i = a
  · subst z
    rw [pk_us, up_s]
  · rw [pk_un z, up_n z]
    exact (E.2.2.1 i hi).1
theorem figS_C {h : AH} {sb : Int64} {ai : Int32} {cb : Int32} {si : Int32} {ob : Int32} {tn : Int32} {tk : Int32} {wm : Nat → UInt32} {ki : Nat → Int32} {fi : Nat → Int32} {ac : Nat → Int32} {wy : Nat → Int32} {se : Nat → Int32} {sl : Nat → Int32} {hc : Int32} {hs : Nat → Int32} {hn : Nat → Int32} (E : HC h sb ai cb si ob tn tk wm ki fi ac wy se sl hc hs hn) {a k : Nat} : HC (figS h a k) sb ai cb si ob tn tk wm ki (upd fi a (nI k)) ac wy se sl hc hs hn := by
  refine ⟨E.1, E.2.1, fun i hi => ⟨(E.2.2.1 i hi).1, ?_, (E.2.2.1 i hi).2.2⟩, E.2.2.2⟩
  show upd fi a (nI k) i = nI (up (aFg h) a k i)
  by_cases z : i = a
  · subst z
    rw [pk_us, up_s]
  · rw [pk_un z, up_n z]
    exact (E.2.2.1 i hi).2.1
theorem upd_id {f : Nat → Int32} {a i : Nat} : upd f a (f a) i = f i := by
  by_cases z : i = a
  · subst z
    rw [pk_us]
  · rw [pk_un z]
theorem kindS_R {h : AH} {ai : Int32} {si : Int32} {hc : Int32} {tn : Int32} {tk : Int32} {wm : Nat → UInt32} {sh : Nat → Int32} {ki : Nat → Int32} {fi : Nat → Int32} {ac : Nat → Int32} {wy : Nat → Int32} {cr : Nat → Int32} {se : Nat → Int32} {sl : Nat → Int32} {on : Nat → Int32} {hs : Nat → Int32} {hn : Nat → Int32} (E : HR h ai si hc tn tk wm sh ki fi ac wy cr se sl on hs hn) {a k : Nat} : HR (kindS h a k) ai si hc tn tk wm sh (upd ki a (nI k)) (upd fi a (fi a)) ac wy cr se sl on hs hn := by
  refine ⟨E.1, fun i hi => ⟨?_, upd_id.trans (E.2.1 i hi).2.1, (E.2.1 i hi).2.2⟩, E.2.2⟩
  show upd ki a (nI k) i = nI (up (aKd h) a k i)
  by_cases z : i = a
  · subst z
    rw [pk_us, up_s]
  · rw [pk_un z, up_n z]
    exact (E.2.1 i hi).1
theorem figS_R {h : AH} {ai : Int32} {si : Int32} {hc : Int32} {tn : Int32} {tk : Int32} {wm : Nat → UInt32} {sh : Nat → Int32} {ki : Nat → Int32} {fi : Nat → Int32} {ac : Nat → Int32} {wy : Nat → Int32} {cr : Nat → Int32} {se : Nat → Int32} {sl : Nat → Int32} {on : Nat → Int32} {hs : Nat → Int32} {hn : Nat → Int32} (E : HR h ai si hc tn tk wm sh ki fi ac wy cr se sl on hs hn) {a k : Nat} : HR (figS h a k) ai si hc tn tk wm sh (upd ki a (ki a)) (upd fi a (nI k)) ac wy cr se sl on hs hn := by
  refine ⟨E.1, fun i hi => ⟨upd_id.trans (E.2.1 i hi).1, ?_, (E.2.1 i hi).2.2⟩, E.2.2⟩
  show upd fi a (nI k) i = nI (up (aFg h) a k i)
  by_cases z : i = a
  · subst z
    rw [pk_us, up_s]
  · rw [pk_un z, up_n z]
    exact (E.2.1 i hi).2.1
def rowP (tl : Nat → Int32) (a : Nat) : Nat → Nat → AH → Bool
  | 0, _, _ => true
  | d + 1, k, h => if nI (aAc h a) = tl k then rowP tl a d (k + 1) (turnS h) else false
theorem gt_l {sb : Int64} {ai si hc : Int32} {ki fi se hs hn tl : Nat → Int32} {T a1 : Nat} (hT : T ≤ 12) : ∀ (d k m : Nat) (h : AH) (cb ob tn tk : Int32) (wm : Nat → UInt32) (ac wy sl : Nat → Int32), k + d = T → d < m → aV h → a1 < aA h → aTn h + d < 2 ^ 20 → HC h sb ai cb si ob tn tk wm ki fi ac wy se sl hc hs hn → ∃ (cb' ob' tn' tk' : Int32) (wm' : Nat → UInt32) (ac' wy' sl' : Nat → Int32), f_X6_goesAsTold_b2 (nI a1) (nI T) sb ai si ki fi se hc hs hn tl m (nI k) cb ob tn tk wm ac wy sl = some (nB (rowP tl a1 d k h), cb', ob', tn', tk', wm', ac', wy', sl')
  | d, k, 0, _, _, _, _, _, _, _, _, _, _, q, _, _, _, _ => absurd q (by omega)
  | 0, k, m + 1, h, cb, ob, tn, tk, wm, ac, wy, sl, hk, _, V, ha, ht, E => by
    refine ⟨cb, ob, tn, tk, wm, ac, wy, sl, ?_⟩
    rw [f_X6_goesAsTold_b2, dq_if_pos (nI_le (by omega) (by omega))]
    rfl
  | d + 1, k, m + 1, h, cb, ob, tn, tk, wm, ac, wy, sl, hk, hm, V, ha, ht, E => by
    have hA := V.1.1
    have lk : rowP tl a1 (d + 1) k h = if nI (aAc h a1) = tl k then rowP tl a1 d (k + 1) (turnS h) else false := rfl
    rw [f_X6_goesAsTold_b2, dq_if_neg (nI_ge (by omega) (by omega)), dq_gd_pos (vp_in_nI (by omega) (by omega)), dq_gd_pos (vp_in_nI (by omega) (by omega)), nI_clamp (n := a1) (by omega), nI_clamp (n := k) (by omega), (E.2.2.1 a1 ha).2.2.1, lk, show nI k + (1 : Int32) = nI (k + 1) from nI_1 k]
    by_cases z : nI (aAc h a1) = tl k
    · rw [dq_if_pos z, if_pos z]
      by_cases y : T ≤ k + 1
      · have : d = 0 := by omega
        subst this
        rw [dq_if_pos (nI_le y (by omega))]
        exact gt_l hT 0 (k + 1) m h cb ob tn tk wm ac wy sl (by omega) (by omega) V ha (by omega) E
      · obtain ⟨cb2, ob2, tn2, tk2, wm2, ac2, wy2, sl2, g, E2⟩ := c_goOn (n := 1) (by omega) V (by omega) E
        obtain ⟨V1, gA, -, t1⟩ := turnS_V V (by omega)
        rw [dq_if_neg (nI_ge (by omega) (by omega)), show (1 : Int32) = nI 1 from rfl, dq_bd8_s g]
        simp only [dq_let]
        exact gt_l hT d (k + 1) m (turnS h) cb2 ob2 tn2 tk2 wm2 ac2 wy2 sl2 (by omega) (by omega) V1 (by rw [gA]; exact ha) (by omega) E2
    · rw [dq_if_neg z, if_neg z]
      exact ⟨cb, ob, tn, tk, wm, ac, wy, sl, rfl⟩
theorem K_gt {α : Type} {h : AH} {sb : Int64} {ai : Int32} {cb : Int32} {si : Int32} {ob : Int32} {tn : Int32} {tk : Int32} {wm : Nat → UInt32} {ki : Nat → Int32} {fi : Nat → Int32} {ac : Nat → Int32} {wy : Nat → Int32} {se : Nat → Int32} {sl : Nat → Int32} {hc : Int32} {hs : Nat → Int32} {hn : Nat → Int32} {tl : Nat → Int32} {T a1 : Nat} {f : Int32 → Int32 → Int32 → Int32 → Int32 → (Nat → UInt32) → (Nat → Int32) → (Nat → Int32) → (Nat → Int32) → Option α} {Q : α → Prop} (hT : T ≤ 12) (V : aV h) (ha : a1 < aA h) (ht : aTn h ≤ 999) (E : HC h sb ai cb si ob tn tk wm ki fi ac wy se sl hc hs hn) (k : ∀ (cb' ob' tn' tk' : Int32) (wm' : Nat → UInt32) (ac' wy' sl' : Nat → Int32), Ok (f (nB (rowP tl a1 T 0 h)) cb' ob' tn' tk' wm' ac' wy' sl') Q) : Ok (dq_bd9 (f_X6_goesAsTold (nI T) sb ai cb si ob tn tk wm ki fi ac wy se sl hc hs hn tl (nI a1)) f) Q := by
  obtain ⟨cb', ob', tn', tk', wm', ac', wy', sl', g⟩ := gt_l (tl := tl) hT T 0 4096 h cb ob tn tk wm ac wy sl (by omega) (by omega) V ha (by omega) E
  rw [nI_0] at g
  have g2 : f_X6_goesAsTold (nI T) sb ai cb si ob tn tk wm ki fi ac wy se sl hc hs hn tl (nI a1) = _ := g
  exact Ok9 g2 (k _ _ _ _ _ _ _ _)
theorem cr_x {H : AH} {a : Nat → Nat} {ai : Int32} {si : Int32} {hc : Int32} {tn : Int32} {tk : Int32} {wm : Nat → UInt32} {sh : Nat → Int32} {ki : Nat → Int32} {fi : Nat → Int32} {ac : Nat → Int32} {wy : Nat → Int32} {cr : Nat → Int32} {se : Nat → Int32} {sl : Nat → Int32} {on : Nat → Int32} {hs : Nat → Int32} {hn : Nat → Int32} {q : Nat → Int32} {qw : Nat → UInt32} {r0 : Nat → Int32} {a1 T m k : Nat} (VH : aV H) (QH : HP H q qw) : ∃ (ai' si' hc' tn' tk' : Int32) (wm' : Nat → UInt32) (sh' ki' fi' ac' wy' cr' se' sl' on' hs' hn' q' : Nat → Int32) (qw' : Nat → UInt32), f_X7_isCellRow_b4 a (nI a1) ai si hc 0 (nI T) sh ki fi se hs hn q qw r0 (m + 1) 0 (nI k) tn tk wm ac wy cr sl on = some (0, ai', si', hc', tn', tk', nI 96, 0, Value.ref (a 20), wm', sh', ki', fi', ac', wy', cr', se', sl', on', hs', hn', q', qw') ∧ HR H ai' si' hc' tn' tk' wm' sh' ki' fi' ac' wy' cr' se' sl' on' hs' hn' ∧ HP H q' qw' := by
  obtain ⟨wm', sh', ki', fi', ac', wy', cr', se', sl', on', hs', hn', q', qw', f, F, Q'⟩ := r_again (a := a) (ai := ai) (si := si) (hc := hc) (tn := tn) (tk := tk) (wm := wm) (sh := sh) (ki := ki) (fi := fi) (ac := ac) (wy := wy) (cr := cr) (se := se) (sl := sl) (on := on) (hs := hs) (hn := hn) VH QH
  have hz : dq_z (0 : Int32) := by unfold dq_z; decide
  refine ⟨_, _, _, _, _, wm', sh', ki', fi', ac', wy', cr', se', sl', on', hs', hn', q', qw', ?_, F, Q'⟩
  rw [f_X7_isCellRow_b4]
  by_cases z : nI T ≤ nI k
  · rw [dq_if_pos z, dq_bd22_s f, dq_gd_pos hz]
  · rw [dq_if_neg z, dq_if_pos rfl, dq_bd22_s f, dq_gd_pos hz]
theorem cr_l {H : AH} {a : Nat → Nat} {ai si hc : Int32} {sh ki fi se hs hn q r0 tl : Nat → Int32} {qw : Nat → UInt32} {T a1 : Nat} (hT : T ≤ 12) (hO : ∀ i, i < T → r0 i = tl i) (VH : aV H) (QH : HP H q qw) : ∀ (d k m : Nat) (h : AH) (tn tk : Int32) (wm : Nat → UInt32) (ac wy cr sl on : Nat → Int32), k + d = T → d < m → aV h → a1 < aA h → aTn h + d < 2 ^ 20 → HR h ai si hc tn tk wm sh ki fi ac wy cr se sl on hs hn → ∃ (ai' si' hc' tn' tk' : Int32) (wm' : Nat → UInt32) (sh' ki' fi' ac' wy' cr' se' sl' on' hs' hn' q' : Nat → Int32) (qw' : Nat → UInt32), f_X7_isCellRow_b4 a (nI a1) ai si hc 0 (nI T) sh ki fi se hs hn q qw r0 m 1 (nI k) tn tk wm ac wy cr sl on = some (nB (rowP tl a1 d k h), ai', si', hc', tn', tk', nI 96, 0, Value.ref (a 20), wm', sh', ki', fi', ac', wy', cr', se', sl', on', hs', hn', q', qw') ∧ HR H ai' si' hc' tn' tk' wm' sh' ki' fi' ac' wy' cr' se' sl' on' hs' hn' ∧ HP H q' qw'
  | d, k, 0, _, _, _, _, _, _, _, _, _, _, q, _, _, _, _ => absurd q (by omega)
  | 0, k, m + 1, h, tn, tk, wm, ac, wy, cr, sl, on, hk, _, V, _, _, E => by
    obtain ⟨wm', sh', ki', fi', ac', wy', cr', se', sl', on', hs', hn', q', qw', f, F, Q'⟩ := r_again (a := a) (ai := ai) (si := si) (hc := hc) (tn := tn) (tk := tk) (wm := wm) (sh := sh) (ki := ki) (fi := fi) (ac := ac) (wy := wy) (cr := cr) (se := se) (sl := sl) (on := on) (hs := hs) (hn := hn) VH QH
    have hz : dq_z (1 : Int32) := by unfold dq_z; decide
    refine ⟨_, _, _, _, _, wm', sh', ki', fi', ac', wy', cr', se', sl', on', hs', hn', q', qw', ?_, F, Q'⟩
    rw [f_X7_isCellRow_b4, dq_if_pos (nI_le (by omega) (by omega)), dq_bd22_s f, dq_gd_pos hz]
    rfl
  | d + 1, k, m + 1, h, tn, tk, wm, ac, wy, cr, sl, on, hk, hm, V, ha, ht, E => by
    have hA := V.1.1
    obtain ⟨V1, gA, -, t1⟩ := turnS_V V (by omega)
    obtain ⟨tn2, tk2, wm2, ac2, wy2, cr2, sl2, on2, g, E2⟩ := r_turnOn V (by omega) E false
    have gg : f_X7_turnOn ai si hc tn tk 0 wm sh ki fi ac wy cr se sl on hs hn = some (tn2, tk2, wm2, ac2, wy2, cr2, sl2, on2) := g
    have lk : rowP tl a1 (d + 1) k h = if nI (aAc h a1) = tl k then rowP tl a1 d (k + 1) (turnS h) else false := rfl
    rw [f_X7_isCellRow_b4, dq_if_neg (nI_ge (by omega) (by omega)), dq_if_neg (by decide), dq_gd_pos (vp_in_nI (by omega) (by omega)), dq_gd_pos (vp_in_nI (by omega) (by omega)), nI_clamp (n := a1) (by omega), nI_clamp (n := k) (by omega), (E.2.1 a1 ha).2.2.1, hO k (by omega), lk, dq_bd8_s gg, dq_bd8_s gg]
    simp only [dq_let]
    rw [show nI k + (1 : Int32) = nI (k + 1) from nI_1 k]
    by_cases z : nI (aAc h a1) = tl k
    · rw [dq_if_pos z.symm, if_pos z]
      exact cr_l hT hO VH QH d (k + 1) m (turnS h) tn2 tk2 wm2 ac2 wy2 cr2 sl2 on2 (by omega) (by omega) V1 (by rw [gA]; exact ha) (by omega) E2
    · rw [dq_if_neg (fun y => z y.symm), if_neg z]
      cases m with
      | zero => exact absurd hm (by omega)
      | succ m => exact cr_x VH QH
theorem K_cr {α : Type} {H h : AH} {a : Nat → Nat} {ai : Int32} {si : Int32} {hc : Int32} {tn : Int32} {tk : Int32} {wm : Nat → UInt32} {sh : Nat → Int32} {ki : Nat → Int32} {fi : Nat → Int32} {ac : Nat → Int32} {wy : Nat → Int32} {cr : Nat → Int32} {se : Nat → Int32} {sl : Nat → Int32} {on : Nat → Int32} {hs : Nat → Int32} {hn : Nat → Int32} {q : Nat → Int32} {qw : Nat → UInt32} {r0 tl : Nat → Int32} {T a1 : Nat} {f : Int32 → Int32 → Int32 → Int32 → Int32 → Int32 → Int32 → Int32 → Value → (Nat → UInt32) → (Nat → Int32) → (Nat → Int32) → (Nat → Int32) → (Nat → Int32) → (Nat → Int32) → (Nat → Int32) → (Nat → Int32) → (Nat → Int32) → (Nat → Int32) → (Nat → Int32) → (Nat → Int32) → (Nat → Int32) → (Nat → UInt32) → Option α} {Q : α → Prop} (hT : T ≤ 12) (hO : ∀ i, i < T → r0 i = tl i) (VH : aV H) (V : aV h) (ha : a1 < aA h) (ht : aTn h ≤ 999) (E : HR h ai si hc tn tk wm sh ki fi ac wy cr se sl on hs hn) (QH : HP H q qw) (k : ∀ (ai' si' hc' tn' tk' : Int32) (wm' : Nat → UInt32) (sh' ki' fi' ac' wy' cr' se' sl' on' hs' hn' q' : Nat → Int32) (qw' : Nat → UInt32), HR H ai' si' hc' tn' tk' wm' sh' ki' fi' ac' wy' cr' se' sl' on' hs' hn' → HP H q' qw' → Ok (f (nB (rowP tl a1 T 0 h)) ai' si' hc' tn' tk' (nI 96) 0 (Value.ref (a 20)) wm' sh' ki' fi' ac' wy' cr' se' sl' on' hs' hn' q' qw') Q) : Ok (dq_bd23 (f_X7_isCellRow a ai si hc tn tk 0 (nI T) wm sh ki fi ac wy cr se sl on hs hn q qw r0 (nI a1)) f) Q := by
  obtain ⟨ai', si', hc', tn', tk', wm', sh', ki', fi', ac', wy', cr', se', sl', on', hs', hn', q', qw', g, F, Q'⟩ := cr_l (a := a) (tl := tl) hT hO VH QH T 0 4096 h tn tk wm ac wy cr sl on (by omega) (by omega) V ha (by omega) E
  rw [nI_0] at g
  have g2 : f_X7_isCellRow a ai si hc tn tk 0 (nI T) wm sh ki fi ac wy cr se sl on hs hn q qw r0 (nI a1) = _ := g
  exact Ok23 g2 (k _ _ _ _ _ _ _ _ _ _ _ _ _ _ _ _ _ _ _ F Q')
def wkH (h : AH) (a : Nat) (n1 : Int32) (k : Nat) : AH := if n1 = 0 then kindS h a k else figS h a k
def wkL (h : AH) (tl : Nat → Int32) (T a : Nat) (n1 : Int32) : Nat → Nat → Int32 → Int32
  | 0, _, b => b
  | d + 1, k, b => wkL h tl T a n1 d (k + 1) (if rowP tl a T 0 (wkH h a n1 k) = true then b ||| ((1 : Int32) <<< (nI k &&& 31)) else b)
theorem lc_wk {H : AH} {n1 : Int32} {g_n_shutBits : Int64} {g_n_airs : Int32} {g_n_crownedBits : Int32} {g_n_sitters : Int32} {g_n_onBits : Int32} {g_n_turn : Int32} {g_n_taken : Int32} {g_n_warmth : (Nat → UInt32)} {g_n_kind : (Nat → Int32)} {g_n_figure : (Nat → Int32)} {g_n_airCell : (Nat → Int32)} {g_n_way : (Nat → Int32)} {g_n_seat : (Nat → Int32)} {g_n_shawls : (Nat → Int32)} {g_n_count : Int32} {g_n_steps : (Nat → Int32)} {g_n_numbers : (Nat → Int32)} {g_told : (Nat → Int32)} {g_refused : (Nat → Int32)} {T a1 N : Nat} (hT : T ≤ 12) (ha : a1 < aA H) (hN : N = if n1 = 0 then 8 else 10) (V : aV H) (ht : aTn H ≤ 999) (E : HC H g_n_shutBits g_n_airs g_n_crownedBits g_n_sitters g_n_onBits g_n_turn g_n_taken g_n_warmth g_n_kind g_n_figure g_n_airCell g_n_way g_n_seat g_n_shawls g_n_count g_n_steps g_n_numbers) {Q : (Int32 × Int64 × Int32 × Int32 × Int32 × Int32 × Int32 × Int32 × (Nat → UInt32) × (Nat → Int32) × (Nat → Int32) × (Nat → Int32) × (Nat → Int32) × (Nat → Int32) × (Nat → Int32) × Int32 × (Nat → Int32) × (Nat → Int32) × (Nat → Int32)) → Prop} : ∀ (d k m : Nat) (b : Int32) (sb : Int64) (ai cb si ob tn tk : Int32) (wm : Nat → UInt32) (ki fi ac wy se sl : Nat → Int32) (hc : Int32) (hs hn : Nat → Int32), k + d = N → d < m → (∀ (sb' : Int64) (ai' cb' si' ob' tn' tk' : Int32) (wm' : Nat → UInt32) (ki' fi' ac' wy' se' sl' : Nat → Int32) (hc' : Int32) (hs' hn' : Nat → Int32), Q ((wkL H g_told T a1 n1 d k b), sb', ai', cb', si', ob', tn', tk', wm', ki', fi', ac', wy', se', sl', hc', hs', hn', g_refused)) → Ok (f_X6_whatKind_b48 (nI a1) n1 (nI T) g_n_shutBits g_n_airs g_n_crownedBits g_n_sitters g_n_onBits g_n_turn g_n_taken g_n_warmth g_n_kind g_n_figure g_n_airCell g_n_way g_n_seat g_n_shawls g_n_count g_n_steps g_n_numbers g_told g_refused (nI N) m b (nI k) sb ai cb si ob tn tk wm ki fi ac wy se sl hc hs hn) Q
  | d, k, 0, _, _, _, _, _, _, _, _, _, _, _, _, _, _, _, _, _, _, _, q, _ => absurd q (by omega)
  | 0, k, m + 1, b, sb, ai, cb, si, ob, tn, tk, wm, ki, fi, ac, wy, se, sl, hc, hs, hn, hk, _, K => by
    have hN10 : N ≤ 10 := by rw [hN]; split <;> omega
    rw [f_X6_whatKind_b48]
    exact Okp (nI_le (by omega) (by omega)) (Okv (K sb ai cb si ob tn tk wm ki fi ac wy se sl hc hs hn))
  | d + 1, k, m + 1, b, sb, ai, cb, si, ob, tn, tk, wm, ki, fi, ac, wy, se, sl, hc, hs, hn, hk, hm, K => by
    have hN10 : N ≤ 10 := by rw [hN]; split <;> omega
    have hA := V.1.1
    have v5 : vp_in (nI a1) 5 := vp_in_nI (by omega) (by omega)
    have ca : (nI a1).toNatClampNeg = a1 := nI_clamp (by omega)
    have lk : wkL H g_told T a1 n1 (d + 1) k b = wkL H g_told T a1 n1 d (k + 1) (if rowP g_told a1 T 0 (wkH H a1 n1 k) = true then b ||| ((1 : Int32) <<< (nI k &&& 31)) else b) := rfl
    rw [lk] at K
    rw [f_X6_whatKind_b48]
    refine Okn (nI_ge (by omega) (by omega)) ?_
    refine K_take V E ?_
    intro _ _ _ _ _ _ _ _ _ E1
    unfold f_X6_whatKind_b94
    rw [ca]
    by_cases z : n1 = 0
    · have hw : wkH H a1 n1 k = kindS H a1 k := if_pos z
      have hk8 : k < 8 := by rw [if_pos z] at hN; omega
      refine Okp z (Okg v5 (Okl ?_))
      refine K_gt hT (kindS_V V hk8) (show a1 < aA H from ha) ht (kindS_C E1) ?_
      intro _ _ _ _ _ _ _ _
      refine Okbb (fun y => ?_) (fun y => ?_)
      · refine Okl (Okl ?_)
        rw [show nI k + (1 : Int32) = nI (k + 1) from nI_1 k]
        rw [hw, if_pos y] at K
        exact lc_wk hT ha hN V ht E d (k + 1) m _ _ _ _ _ _ _ _ _ _ _ _ _ _ _ _ _ _ (by omega) (by omega) K
      · refine Okl ?_
        rw [show nI k + (1 : Int32) = nI (k + 1) from nI_1 k]
        rw [hw, if_neg (by rw [y]; decide)] at K
        exact lc_wk hT ha hN V ht E d (k + 1) m _ _ _ _ _ _ _ _ _ _ _ _ _ _ _ _ _ _ (by omega) (by omega) K
    · have hw : wkH H a1 n1 k = figS H a1 k := if_neg z
      refine Okn z (Okg v5 (Okl ?_))
      refine K_gt hT (figS_V V (by omega)) (show a1 < aA H from ha) ht (figS_C E1) ?_
      intro _ _ _ _ _ _ _ _
      refine Okbb (fun y => ?_) (fun y => ?_)
      · refine Okl (Okl ?_)
        rw [show nI k + (1 : Int32) = nI (k + 1) from nI_1 k]
        rw [hw, if_pos y] at K
        exact lc_wk hT ha hN V ht E d (k + 1) m _ _ _ _ _ _ _ _ _ _ _ _ _ _ _ _ _ _ (by omega) (by omega) K
      · refine Okl ?_
        rw [show nI k + (1 : Int32) = nI (k + 1) from nI_1 k]
        rw [hw, if_neg (by rw [y]; decide)] at K
        exact lc_wk hT ha hN V ht E d (k + 1) m _ _ _ _ _ _ _ _ _ _ _ _ _ _ _ _ _ _ (by omega) (by omega) K
theorem lr_wk {H : AH} {a : Nat → Nat} {n1 : Int32} {r_refusals r0 tl : Nat → Int32} {T a1 : Nat} (hT : T ≤ 12) (hO : ∀ i, i < T → r0 i = tl i) (ha : a1 < aA H) (hn1 : n1 = 0 ∨ n1 = 1) (V : aV H) (ht : aTn H ≤ 999) {Q : (Int32 × Int32 × Int32 × Int32 × Int32 × Int32 × Int32 × Int32 × Int32 × Value × (Nat → UInt32) × (Nat → Int32) × (Nat → Int32) × (Nat → Int32) × (Nat → Int32) × (Nat → Int32) × (Nat → Int32) × (Nat → Int32) × (Nat → Int32) × (Nat → Int32) × (Nat → Int32) × (Nat → Int32) × (Nat → Int32) × (Nat → Int32) × (Nat → UInt32)) → Prop} : ∀ (d k m : Nat) (b : Int32) (ai si hc tn tk pl it : Int32) (ke : Value) (wm : Nat → UInt32) (sh ki fi ac wy cr se sl on hs hn q : Nat → Int32) (qw : Nat → UInt32), k + d = (if n1 = 0 then 8 else 10) → d < m → HR H ai si hc tn tk wm sh ki fi ac wy cr se sl on hs hn → HP H q qw → (∀ (ai' si' hc' tn' tk' pl' it' : Int32) (ke' : Value) (wm' : Nat → UInt32) (sh' ki' fi' ac' wy' cr' se' sl' on' hs' hn' q' : Nat → Int32) (qw' : Nat → UInt32), HR H ai' si' hc' tn' tk' wm' sh' ki' fi' ac' wy' cr' se' sl' on' hs' hn' → HP H q' qw' → Q ((wkL H tl T a1 n1 d k b), ai', si', hc', tn', tk', 0, pl', it', ke', wm', sh', ki', fi', ac', wy', cr', se', sl', on', hs', hn', r_refusals, q', qw')) → Ok (f_X7_whatKind_b51 a (nI a1) n1 0 (nI T) r_refusals r0 m b (nI k) ai si hc tn tk pl it ke wm sh ki fi ac wy cr se sl on hs hn q qw) Q
  | d, k, 0, _, _, _, _, _, _, _, _, _, _, _, _, _, _, _, _, _, _, _, _, _, _, _, _, q, _, _, _ => absurd q (by omega)
  | 0, k, m + 1, b, ai, si, hc, tn, tk, pl, it, ke, wm, sh, ki, fi, ac, wy, cr, se, sl, on, hs, hn, q, qw, hk, _, F, QH, K => by
    rw [f_X7_whatKind_b51]
    unfold f_X7_whatKind_b64
    by_cases z : n1 = 0
    · rw [if_pos z] at hk
      exact Okp z (Okp (nI_le (a := 8) (by omega) (by omega)) (Okv (K _ _ _ _ _ _ _ _ _ _ _ _ _ _ _ _ _ _ _ _ _ _ F QH)))
    · rw [if_neg z] at hk
      exact Okn z (Okp (nI_le (a := 10) (by omega) (by omega)) (Okv (K _ _ _ _ _ _ _ _ _ _ _ _ _ _ _ _ _ _ _ _ _ _ F QH)))
  | d + 1, k, m + 1, b, ai, si, hc, tn, tk, pl, it, ke, wm, sh, ki, fi, ac, wy, cr, se, sl, on, hs, hn, q, qw, hk, hm, F, QH, K => by
    have hA := V.1.1
    have v5 : vp_in (nI a1) 5 := vp_in_nI (by omega) (by omega)
    have ca : (nI a1).toNatClampNeg = a1 := nI_clamp (by omega)
    have lk : wkL H tl T a1 n1 (d + 1) k b = wkL H tl T a1 n1 d (k + 1) (if rowP tl a1 T 0 (wkH H a1 n1 k) = true then b ||| ((1 : Int32) <<< (nI k &&& 31)) else b) := rfl
    rw [lk] at K
    rw [f_X7_whatKind_b51]
    unfold f_X7_whatKind_b64 f_X7_whatKind_b87 f_X7_whatKind_b109
    rw [ca]
    by_cases z : n1 = 0
    · have hw : wkH H a1 n1 k = kindS H a1 k := if_pos z
      have hk0 := hk
      rw [if_pos z] at hk0
      refine Okp z (Okn (nI_ge (b := 8) (by omega) (by omega)) (Okp z (Okg v5 (Okl (Okn (by rw [z]; decide) (Okg v5 (Okg v5 (Okl ?_))))))))
      refine K_cr hT hO V (kindS_V V (by omega)) (show a1 < aA H from ha) ht (kindS_R F) QH ?_
      intro _ _ _ _ _ _ _ _ _ _ _ _ _ _ _ _ _ _ _ F3 Q3
      refine Okbb (fun y => ?_) (fun y => ?_)
      · refine Okl (Okl ?_)
        rw [show nI k + (1 : Int32) = nI (k + 1) from nI_1 k]
        rw [hw, if_pos y] at K
        exact lr_wk hT hO ha hn1 V ht d (k + 1) m _ _ _ _ _ _ _ _ _ _ _ _ _ _ _ _ _ _ _ _ _ _ _ (by omega) (by omega) F3 Q3 K
      · refine Okl (Okl ?_)
        rw [show nI k + (1 : Int32) = nI (k + 1) from nI_1 k, show b ||| (0 : Int32) = b by apply Int32.toBitVec_inj.mp; simp]
        rw [hw, if_neg (by rw [y]; decide)] at K
        exact lr_wk hT hO ha hn1 V ht d (k + 1) m _ _ _ _ _ _ _ _ _ _ _ _ _ _ _ _ _ _ _ _ _ _ _ (by omega) (by omega) F3 Q3 K
    · have hw : wkH H a1 n1 k = figS H a1 k := if_neg z
      have hk0 := hk
      rw [if_neg z] at hk0
      refine Okn z (Okn (nI_ge (b := 10) (by omega) (by omega)) (Okn z (Okg v5 (Okg v5 (Okl (Okp (hn1.resolve_left z) (Okg v5 (Okl ?_))))))))
      refine K_cr hT hO V (figS_V V (by omega)) (show a1 < aA H from ha) ht (figS_R F) QH ?_
      intro _ _ _ _ _ _ _ _ _ _ _ _ _ _ _ _ _ _ _ F3 Q3
      refine Okbb (fun y => ?_) (fun y => ?_)
      · refine Okl (Okl ?_)
        rw [show nI k + (1 : Int32) = nI (k + 1) from nI_1 k]
        rw [hw, if_pos y] at K
        exact lr_wk hT hO ha hn1 V ht d (k + 1) m _ _ _ _ _ _ _ _ _ _ _ _ _ _ _ _ _ _ _ _ _ _ _ (by omega) (by omega) F3 Q3 K
      · refine Okl (Okl ?_)
        rw [show nI k + (1 : Int32) = nI (k + 1) from nI_1 k, show b ||| (0 : Int32) = b by apply Int32.toBitVec_inj.mp; simp]
        rw [hw, if_neg (by rw [y]; decide)] at K
        exact lr_wk hT hO ha hn1 V ht d (k + 1) m _ _ _ _ _ _ _ _ _ _ _ _ _ _ _ _ _ _ _ _ _ _ _ (by omega) (by omega) F3 Q3 K
/-! nights by lot -/
def drw (x : Int32) : Nat := x.toBitVec.toNat % 2 ^ 31 / 65536 % 4
theorem drw_ok (x : Int32) : ((x &&& 2147483647) / 65536) - ((x &&& 2147483647) / 65536) / 4 * 4 = nI (drw x) := by
  obtain ⟨n, hn, rfl⟩ := wb_of32 x
  have e1 : (nI n).toBitVec.toNat = n := by
    show (BitVec.ofNat 32 n).toNat = n
    rw [BitVec.toNat_ofNat, Nat.mod_eq_of_lt hn]
  have e2 : nI n &&& 2147483647 = nI (n % 2 ^ 31) := by
    apply Int32.toBitVec_inj.mp
    rw [Int32.toBitVec_and]
    apply BitVec.eq_of_toNat_eq
    rw [BitVec.toNat_and, e1]
    show n &&& (2 ^ 31 - 1) = (BitVec.ofNat 32 (n % 2 ^ 31)).toNat
    rw [Nat.and_two_pow_sub_one_eq_mod, BitVec.toNat_ofNat]
    omega
  unfold drw
  rw [e1, e2, show nI (n % 2 ^ 31) / (65536 : Int32) = nI (n % 2 ^ 31 / 65536) from pk_div (d := 65536) (by omega) (by omega) (by omega)]
  exact pk_rem (d := 4) (by omega) (by omega) (by omega)
theorem drw_lt (x : Int32) : drw x < 4 := Nat.mod_lt _ (by omega)
def drawL : Nat → Nat → Int32 → (Nat → Nat) → Int32 × (Nat → Nat)
  | 0, _, z, w => (z, w)
  | d + 1, a, z, w => drawL d (a + 1) (z * 1103515245 + 12345) (up w a (drw (z * 1103515245 + 12345)))
def wayH (h : AH) (w : Nat → Nat) : AH := setAir h (aAc h) w (aWm h)
def lotH (h : AH) (z : Int32) : AH := wayH h (drawL (aA h) 0 z (aWy h)).2
def lotL (h : AH) : Nat → Int32 → Int32 → Int32 → Int32 × Int32
  | 0, _, t, o => (t, o)
  | d + 1, z, t, o => lotL h d (drawL (aA h) 0 z (aWy h)).1 (t + (nI (aTk (goS 10 (lotH h z))) - nI (aTk h))) (o + nI (popS (goS 10 (lotH h z))))
theorem drawL_lt {n : Nat} : ∀ (d a : Nat) (z : Int32) (w : Nat → Nat), (∀ i, i < n → w i < 4) → ∀ i, i < n → (drawL d a z w).2 i < 4
  | 0, _, _, _, h => h
  | d + 1, a, z, w, h => drawL_lt d (a + 1) _ _ (fun i hi => by
      by_cases y : i = a
      · subst y
        rw [up_s]
        exact drw_lt _
      · rw [up_n y]
        exact h i hi)
theorem lotH_V {h : AH} (V : aV h) {z : Int32} : aV (lotH h z) := by
  obtain ⟨v1, v2, v3⟩ := V
  exact ⟨v1, fun i hi => ⟨(v2 i hi).1, (v2 i hi).2.1, (v2 i hi).2.2.1, drawL_lt _ _ _ _ (fun j hj => (v2 j hj).2.2.2) i hi⟩, v3⟩
theorem wayH_C {h : AH} {sb : Int64} {ai : Int32} {cb : Int32} {si : Int32} {ob : Int32} {tn : Int32} {tk : Int32} {wm : Nat → UInt32} {ki : Nat → Int32} {fi : Nat → Int32} {ac : Nat → Int32} {wy : Nat → Int32} {se : Nat → Int32} {sl : Nat → Int32} {hc : Int32} {hs : Nat → Int32} {hn : Nat → Int32} {w : Nat → Nat} (E : HC (wayH h w) sb ai cb si ob tn tk wm ki fi ac wy se sl hc hs hn) {a v : Nat} : HC (wayH h (up w a v)) sb ai cb si ob tn tk wm ki fi ac (upd wy a (nI v)) se sl hc hs hn := by
  refine ⟨E.1, E.2.1, fun i hi => ⟨(E.2.2.1 i hi).1, (E.2.2.1 i hi).2.1, (E.2.2.1 i hi).2.2.1, ?_⟩, E.2.2.2⟩
  show upd wy a (nI v) i = nI (up w a v i)
  by_cases z : i = a
  · subst z
    rw [pk_us, up_s]
  · rw [pk_un z, up_n z]
    exact (E.2.2.1 i hi).2.2.2
theorem wayH_R {h : AH} {ai : Int32} {si : Int32} {hc : Int32} {tn : Int32} {tk : Int32} {wm : Nat → UInt32} {sh : Nat → Int32} {ki : Nat → Int32} {fi : Nat → Int32} {ac : Nat → Int32} {wy : Nat → Int32} {cr : Nat → Int32} {se : Nat → Int32} {sl : Nat → Int32} {on : Nat → Int32} {hs : Nat → Int32} {hn : Nat → Int32} {w : Nat → Nat} (E : HR (wayH h w) ai si hc tn tk wm sh ki fi ac wy cr se sl on hs hn) {a v : Nat} : HR (wayH h (up w a v)) ai si hc tn tk wm sh ki fi ac (upd wy a (nI v)) cr se sl on hs hn := by
  refine ⟨E.1, fun i hi => ⟨(E.2.1 i hi).1, (E.2.1 i hi).2.1, (E.2.1 i hi).2.2.1, ?_, (E.2.1 i hi).2.2.2.2⟩, E.2.2⟩
  show upd wy a (nI v) i = nI (up w a v i)
  by_cases z : i = a
  · subst z
    rw [pk_us, up_s]
  · rw [pk_un z, up_n z]
    exact (E.2.1 i hi).2.2.2.1
theorem dr_c {h : AH} {gtk x10 x11 x12 : Int32} {sb : Int64} {ai : Int32} {cb : Int32} {si : Int32} {ob : Int32} {tn : Int32} {tk : Int32} {wm : Nat → UInt32} {ki : Nat → Int32} {fi : Nat → Int32} {ac : Nat → Int32} {se : Nat → Int32} {sl : Nat → Int32} {hc : Int32} {hs : Nat → Int32} {hn : Nat → Int32} {k49 : (Int32 → Int32 → Int32 → Int32 → Int64 → Int32 → Int32 → Int32 → Int32 → Int32 → Int32 → (Nat → UInt32) → (Nat → Int32) → (Nat → Int32) → (Nat → Int32) → (Nat → Int32) → (Nat → Int32) → (Nat → Int32) → Int32 → (Nat → Int32) → (Nat → Int32) → Option (Int32 × Int64 × Int32 × Int32 × Int32 × Int32 × Int32 × Int32 × (Nat → UInt32) × (Nat → Int32) × (Nat → Int32) × (Nat → Int32) × (Nat → Int32) × (Nat → Int32) × (Nat → Int32) × Int32 × (Nat → Int32) × (Nat → Int32) × (Nat → Int32)))} (V : aV h) {Q : (Int32 × Int64 × Int32 × Int32 × Int32 × Int32 × Int32 × Int32 × (Nat → UInt32) × (Nat → Int32) × (Nat → Int32) × (Nat → Int32) × (Nat → Int32) × (Nat → Int32) × (Nat → Int32) × Int32 × (Nat → Int32) × (Nat → Int32) × (Nat → Int32)) → Prop} : ∀ (d a m : Nat) (z : Int32) (w : Nat → Nat) (wy : Nat → Int32), a + d = aA h → d < m → HC (wayH h w) sb ai cb si ob tn tk wm ki fi ac wy se sl hc hs hn → (∀ (m' : Nat) (wy : Nat → Int32), HC (wayH h (drawL d a z w).2) sb ai cb si ob tn tk wm ki fi ac wy se sl hc hs hn → Ok (f_X6_lots_b69 gtk x10 x11 x12 sb ai cb si ob tn tk wm ki fi ac se sl hc hs hn k49 (m' + 1) (drawL d a z w).1 (nI (aA h)) wy) Q) → Ok (f_X6_lots_b69 gtk x10 x11 x12 sb ai cb si ob tn tk wm ki fi ac se sl hc hs hn k49 m z (nI a) wy) Q
  | d, a, 0, _, _, _, _, q, _, _ => absurd q (by omega)
  | 0, a, m + 1, z, w, wy, hk, _, E, K => by
    rw [show a = aA h by omega]
    exact K m wy E
  | d + 1, a, m + 1, z, w, wy, hk, hm, E, K => by
    have hA := V.1.1
    rw [f_X6_lots_b69]
    refine Okn (by rw [E.1.1]; exact nI_ge (show a < aA h by omega) (show aA h < 2 ^ 31 by omega)) (Okl (Okg (vp_in_nI (by omega) (by omega)) (Okl (Okl ?_))))
    rw [drw_ok, nI_clamp (n := a) (by omega), show nI a + (1 : Int32) = nI (a + 1) from nI_1 a]
    exact dr_c V d (a + 1) m _ _ _ (by omega) (by omega) (wayH_C E) K
theorem dr_r {h : AH} {a : Nat → Nat} {n2 gtk x28 x29 : Int32} {ai : Int32} {si : Int32} {hc : Int32} {tn : Int32} {tk : Int32} {wm : Nat → UInt32} {sh : Nat → Int32} {ki : Nat → Int32} {fi : Nat → Int32} {ac : Nat → Int32} {cr : Nat → Int32} {se : Nat → Int32} {sl : Nat → Int32} {on : Nat → Int32} {hs : Nat → Int32} {hn : Nat → Int32} {q : Nat → Int32} {qw : Nat → UInt32} {k71 : (Int32 → Int32 → Int32 → Int32 → Int32 → Int32 → Int32 → Int32 → Int32 → Value → Int32 → (Nat → UInt32) → (Nat → Int32) → (Nat → Int32) → (Nat → Int32) → (Nat → Int32) → (Nat → Int32) → (Nat → Int32) → (Nat → Int32) → (Nat → Int32) → (Nat → Int32) → (Nat → Int32) → (Nat → Int32) → (Nat → Int32) → (Nat → UInt32) → Option (Int32 × Int32 × Int32 × Int32 × Int32 × Int32 × Int32 × Int32 × Int32 × Value × Int32 × (Nat → UInt32) × (Nat → Int32) × (Nat → Int32) × (Nat → Int32) × (Nat → Int32) × (Nat → Int32) × (Nat → Int32) × (Nat → Int32) × (Nat → Int32) × (Nat → Int32) × (Nat → Int32) × (Nat → Int32) × (Nat → Int32) × (Nat → Int32) × (Nat → UInt32)))} (V : aV h) {Q : (Int32 × Int32 × Int32 × Int32 × Int32 × Int32 × Int32 × Int32 × Int32 × Value × Int32 × (Nat → UInt32) × (Nat → Int32) × (Nat → Int32) × (Nat → Int32) × (Nat → Int32) × (Nat → Int32) × (Nat → Int32) × (Nat → Int32) × (Nat → Int32) × (Nat → Int32) × (Nat → Int32) × (Nat → Int32) × (Nat → Int32) × (Nat → Int32) × (Nat → UInt32)) → Prop} : ∀ (d a1 m : Nat) (z : Int32) (w : Nat → Nat) (wy : Nat → Int32), a1 + d = aA h → d < m → HR (wayH h w) ai si hc tn tk wm sh ki fi ac wy cr se sl on hs hn → (∀ (m' : Nat) (wy : Nat → Int32), HR (wayH h (drawL d a1 z w).2) ai si hc tn tk wm sh ki fi ac wy cr se sl on hs hn → Ok (f_X7_lots_b80 a n2 gtk 0 x28 x29 ai si hc tn tk wm sh ki fi ac cr se sl on hs hn q qw k71 (m' + 1) (nI (aA h)) (drawL d a1 z w).1 wy) Q) → Ok (f_X7_lots_b80 a n2 gtk 0 x28 x29 ai si hc tn tk wm sh ki fi ac cr se sl on hs hn q qw k71 m (nI a1) z wy) Q
  | d, a1, 0, _, _, _, _, q, _, _ => absurd q (by omega)
  | 0, a1, m + 1, z, w, wy, hk, _, E, K => by
    rw [show a1 = aA h by omega]
    exact K m wy E
  | d + 1, a1, m + 1, z, w, wy, hk, hm, E, K => by
    have hA := V.1.1
    have hd : f_X7_drawBelow z 4 = some (nI (drw (z * 1103515245 + 12345)), z * 1103515245 + 12345) := by
      unfold f_X7_drawBelow
      simp only [dq_let]
      rw [dq_gd_pos (by decide), drw_ok]
    rw [f_X7_lots_b80]
    refine Okn (by rw [E.1.1]; exact nI_ge (show a1 < aA h by omega) (show aA h < 2 ^ 31 by omega)) (Ok2 hd (Okg (vp_in_nI (by omega) (by omega)) (Okl (Okl ?_))))
    rw [nI_clamp (n := a1) (by omega), show nI a1 + (1 : Int32) = nI (a1 + 1) from nI_1 a1]
    exact dr_r V d (a1 + 1) m _ _ _ (by omega) (by omega) (wayH_R E) K
theorem lc_lots {H : AH} {n2 : Int32} {g_n_shutBits : Int64} {g_n_airs : Int32} {g_n_crownedBits : Int32} {g_n_sitters : Int32} {g_n_onBits : Int32} {g_n_turn : Int32} {g_n_taken : Int32} {g_n_warmth : (Nat → UInt32)} {g_n_kind : (Nat → Int32)} {g_n_figure : (Nat → Int32)} {g_n_airCell : (Nat → Int32)} {g_n_way : (Nat → Int32)} {g_n_seat : (Nat → Int32)} {g_n_shawls : (Nat → Int32)} {g_n_count : Int32} {g_n_steps : (Nat → Int32)} {g_n_numbers : (Nat → Int32)} {g_refused : (Nat → Int32)} {n : Nat} (hn4 : n ≤ 20) (V : aV H) (ht : aTn H ≤ 999) (E : HC H g_n_shutBits g_n_airs g_n_crownedBits g_n_sitters g_n_onBits g_n_turn g_n_taken g_n_warmth g_n_kind g_n_figure g_n_airCell g_n_way g_n_seat g_n_shawls g_n_count g_n_steps g_n_numbers) {Q : (Int32 × Int64 × Int32 × Int32 × Int32 × Int32 × Int32 × Int32 × (Nat → UInt32) × (Nat → Int32) × (Nat → Int32) × (Nat → Int32) × (Nat → Int32) × (Nat → Int32) × (Nat → Int32) × Int32 × (Nat → Int32) × (Nat → Int32) × (Nat → Int32)) → Prop} : ∀ (d k m : Nat) (z t o : Int32) (sb : Int64) (ai cb si ob tn tk : Int32) (wm : Nat → UInt32) (ki fi ac wy se sl : Nat → Int32) (hc : Int32) (hs hn : Nat → Int32), k + d = n → d < m → (∀ (sb' : Int64) (ai' cb' si' ob' tn' tk' : Int32) (wm' : Nat → UInt32) (ki' fi' ac' wy' se' sl' : Nat → Int32) (hc' : Int32) (hs' hn' : Nat → Int32), Q ((if n2 = 0 then (lotL H d z t o).1 else (lotL H d z t o).2), sb', ai', cb', si', ob', tn', tk', wm', ki', fi', ac', wy', se', sl', hc', hs', hn', g_refused)) → Ok (f_X6_lots_b49 (nI n) n2 g_n_shutBits g_n_airs g_n_crownedBits g_n_sitters g_n_onBits g_n_turn g_n_taken g_n_warmth g_n_kind g_n_figure g_n_airCell g_n_way g_n_seat g_n_shawls g_n_count g_n_steps g_n_numbers g_refused m z t o (nI k) sb ai cb si ob tn tk wm ki fi ac wy se sl hc hs hn) Q
  | d, k, 0, _, _, _, _, _, _, _, _, _, _, _, _, _, _, _, _, _, _, _, _, _, q, _ => absurd q (by omega)
  | 0, k, m + 1, z, t, o, sb, ai, cb, si, ob, tn, tk, wm, ki, fi, ac, wy, se, sl, hc, hs, hn, hk, _, K => by
    rw [f_X6_lots_b49]
    refine Okp (nI_le (by omega) (by omega)) ?_
    by_cases y : n2 = 0
    · rw [if_pos y] at K
      exact Okp y (Okv (K sb ai cb si ob tn tk wm ki fi ac wy se sl hc hs hn))
    · rw [if_neg y] at K
      exact Okn y (Okv (K sb ai cb si ob tn tk wm ki fi ac wy se sl hc hs hn))
  | d + 1, k, m + 1, z, t, o, sb, ai, cb, si, ob, tn, tk, wm, ki, fi, ac, wy, se, sl, hc, hs, hn, hk, hm, K => by
    have lk : lotL H (d + 1) z t o = lotL H d (drawL (aA H) 0 z (aWy H)).1 (t + (nI (aTk (goS 10 (lotH H z))) - nI (aTk H))) (o + nI (popS (goS 10 (lotH H z)))) := rfl
    rw [lk] at K
    rw [f_X6_lots_b49]
    refine Okn (nI_ge (by omega) (by omega)) ?_
    refine K_take V E ?_
    intro _ _ _ _ _ _ _ _ _ E1
    rw [← nI_0]
    refine dr_c (h := H) V (aA H) 0 4096 z (aWy H) _ (by omega) (by have := V.1.1; omega) E1 (fun m' wy' E2 => ?_)
    rw [f_X6_lots_b69]
    refine Okp (by rw [E2.1.1]; exact nI_le (Nat.le_refl _) (by have := V.1.1; show aA H < 2 ^ 31; omega)) ?_
    obtain ⟨V2, -, -, -⟩ := goS_V 10 (lotH_V (z := z) V) (show aTn H + 10 < 2 ^ 20 by omega)
    refine K_goOn (n := 10) (by omega) (lotH_V (z := z) V) (show aTn H + 10 < 2 ^ 20 by omega) E2 ?_
    intro _ _ _ _ _ _ _ _ E3
    refine Okl (Ok1 (by rw [E3.2.1.2.1]; exact c_popS V2) (Okl (Okl ?_)))
    rw [show nI k + (1 : Int32) = nI (k + 1) from nI_1 k, E3.1.2.2.2.2]
    rw [← E.1.2.2.2.2] at K
    exact lc_lots hn4 V ht E d (k + 1) m _ _ _ _ _ _ _ _ _ _ _ _ _ _ _ _ _ _ _ _ (by omega) (by omega) K
theorem lr_lots {H : AH} {a : Nat → Nat} {n2 : Int32} {r_refusals : Nat → Int32} {n : Nat} (hn4 : n ≤ 20) (V : aV H) (ht : aTn H ≤ 999) {Q : (Int32 × Int32 × Int32 × Int32 × Int32 × Int32 × Int32 × Int32 × Int32 × Value × Int32 × (Nat → UInt32) × (Nat → Int32) × (Nat → Int32) × (Nat → Int32) × (Nat → Int32) × (Nat → Int32) × (Nat → Int32) × (Nat → Int32) × (Nat → Int32) × (Nat → Int32) × (Nat → Int32) × (Nat → Int32) × (Nat → Int32) × (Nat → Int32) × (Nat → UInt32)) → Prop} : ∀ (d k m : Nat) (z t o : Int32) (ai si hc tn tk pl it : Int32) (ke : Value) (wm : Nat → UInt32) (sh ki fi ac wy cr se sl on hs hn q : Nat → Int32) (qw : Nat → UInt32), k + d = n → d < m → HR H ai si hc tn tk wm sh ki fi ac wy cr se sl on hs hn → HP H q qw → (∀ (z' : Int32) (ai' si' hc' tn' tk' pl' it' : Int32) (ke' : Value) (wm' : Nat → UInt32) (sh' ki' fi' ac' wy' cr' se' sl' on' hs' hn' q' : Nat → Int32) (qw' : Nat → UInt32), HR H ai' si' hc' tn' tk' wm' sh' ki' fi' ac' wy' cr' se' sl' on' hs' hn' → HP H q' qw' → Q ((if n2 = 0 then (lotL H d z t o).1 else (lotL H d z t o).2), ai', si', hc', tn', tk', 0, pl', it', ke', z', wm', sh', ki', fi', ac', wy', cr', se', sl', on', hs', hn', r_refusals, q', qw')) → Ok (f_X7_lots_b71 a (nI n) n2 (nI (aTk H)) 0 r_refusals m (if n2 = 0 then t else o) (nI k) ai si hc tn tk pl it ke z wm sh ki fi ac wy cr se sl on hs hn q qw) Q
  | d, k, 0, _, _, _, _, _, _, _, _, _, _, _, _, _, _, _, _, _, _, _, _, _, _, _, _, _, _, q, _, _, _ => absurd q (by omega)
  | 0, k, m + 1, z, t, o, ai, si, hc, tn, tk, pl, it, ke, wm, sh, ki, fi, ac, wy, cr, se, sl, on, hs, hn, q, qw, hk, _, F, QH, K => by
    rw [f_X7_lots_b71]
    exact Okp (nI_le (by omega) (by omega)) (Okv (K z _ _ _ _ _ _ _ _ _ _ _ _ _ _ _ _ _ _ _ _ _ _ F QH))
  | d + 1, k, m + 1, z, t, o, ai, si, hc, tn, tk, pl, it, ke, wm, sh, ki, fi, ac, wy, cr, se, sl, on, hs, hn, q, qw, hk, hm, F, QH, K => by
    have lk : lotL H (d + 1) z t o = lotL H d (drawL (aA H) 0 z (aWy H)).1 (t + (nI (aTk (goS 10 (lotH H z))) - nI (aTk H))) (o + nI (popS (goS 10 (lotH H z)))) := rfl
    rw [lk] at K
    rw [f_X7_lots_b71]
    refine Okn (nI_ge (by omega) (by omega)) ?_
    rw [← nI_0]
    refine dr_r (h := H) V (aA H) 0 4096 z (aWy H) _ (by omega) (by have := V.1.1; omega) F (fun m' wy' F2 => ?_)
    rw [f_X7_lots_b80, nI_0]
    refine Okp (by rw [F2.1.1]; exact nI_le (Nat.le_refl _) (by have := V.1.1; show aA H < 2 ^ 31; omega)) ?_
    obtain ⟨V2, -, -, -⟩ := goS_V 10 (lotH_V (z := z) V) (show aTn H + 10 < 2 ^ 20 by omega)
    refine K_go (n := 10) (by omega) (lotH_V (z := z) V) (show aTn H + 10 < 2 ^ 20 by omega) F2 ?_
    intro _ _ _ _ _ _ _ _ F3
    by_cases y : n2 = 0
    · refine Okp y (Okl ?_)
      refine K_again V QH ?_
      intro _ _ _ _ _ _ _ _ _ _ _ _ _ _ _ _ _ _ _ F4 Q4
      refine Okl ?_
      rw [show nI k + (1 : Int32) = nI (k + 1) from nI_1 k, F3.1.2.2.2.2]
      have ih := lr_lots (a := a) hn4 V ht d (k + 1) m (drawL (aA H) 0 z (aWy H)).1 (t + (nI (aTk (goS 10 (lotH H z))) - nI (aTk H))) (o + nI (popS (goS 10 (lotH H z)))) _ _ _ _ _ (nI 96) 0 (Value.ref (a 20)) _ _ _ _ _ _ _ _ _ _ _ _ _ _ (by omega) (by omega) F4 Q4 K
      rw [if_pos y] at ih ⊢
      exact ih
    · refine Okn y (Ok1 (r_onBits V2 F3) (Ok1 (r_popS V2) (Okl ?_)))
      refine K_again V QH ?_
      intro _ _ _ _ _ _ _ _ _ _ _ _ _ _ _ _ _ _ _ F4 Q4
      refine Okl ?_
      rw [show nI k + (1 : Int32) = nI (k + 1) from nI_1 k]
      have ih := lr_lots (a := a) hn4 V ht d (k + 1) m (drawL (aA H) 0 z (aWy H)).1 (t + (nI (aTk (goS 10 (lotH H z))) - nI (aTk H))) (o + nI (popS (goS 10 (lotH H z)))) _ _ _ _ _ (nI 96) 0 (Value.ref (a 20)) _ _ _ _ _ _ _ _ _ _ _ _ _ _ (by omega) (by omega) F4 Q4 K
      rw [if_neg y] at ih ⊢
      exact ih
theorem lr_lots2 {H : AH} {a : Nat → Nat} {n2 : Int32} {r_refusals : Nat → Int32} {n : Nat} (hn4 : n ≤ 20) (V : aV H) (ht : aTn H ≤ 999) {Q : (Int32 × Int32 × Int32 × Int32 × Int32 × Int32 × Int32 × Int32 × Int32 × Value × Int32 × (Nat → UInt32) × (Nat → Int32) × (Nat → Int32) × (Nat → Int32) × (Nat → Int32) × (Nat → Int32) × (Nat → Int32) × (Nat → Int32) × (Nat → Int32) × (Nat → Int32) × (Nat → Int32) × (Nat → Int32) × (Nat → Int32) × (Nat → Int32) × (Nat → UInt32)) → Prop} (z t o x28 : Int32) (hx : x28 = if n2 = 0 then t else o) (ai si hc tn tk pl it : Int32) (ke : Value) (wm : Nat → UInt32) (sh ki fi ac wy cr se sl on hs hn q : Nat → Int32) (qw : Nat → UInt32) (F : HR H ai si hc tn tk wm sh ki fi ac wy cr se sl on hs hn) (QH : HP H q qw) (K : (∀ (z' : Int32) (ai' si' hc' tn' tk' pl' it' : Int32) (ke' : Value) (wm' : Nat → UInt32) (sh' ki' fi' ac' wy' cr' se' sl' on' hs' hn' q' : Nat → Int32) (qw' : Nat → UInt32), HR H ai' si' hc' tn' tk' wm' sh' ki' fi' ac' wy' cr' se' sl' on' hs' hn' → HP H q' qw' → Q ((if n2 = 0 then (lotL H n z t o).1 else (lotL H n z t o).2), ai', si', hc', tn', tk', 0, pl', it', ke', z', wm', sh', ki', fi', ac', wy', cr', se', sl', on', hs', hn', r_refusals, q', qw'))) : Ok (f_X7_lots_b71 a (nI n) n2 (nI (aTk H)) 0 r_refusals 4096 x28 (nI 0) ai si hc tn tk pl it ke z wm sh ki fi ac wy cr se sl on hs hn q qw) Q := by
  subst hx
  exact lr_lots hn4 V ht n 0 4096 z t o ai si hc tn tk pl it ke wm sh ki fi ac wy cr se sl on hs hn q qw (by omega) (by omega) F QH K
theorem s_whatKind {s : S6} {t : S7} (a b : Nat → Nat) (R : Rel s t) (n0 : Int32) (n1 : Int32) : Sim (F6_whatKind s n0 n1) (F7_whatKind t b n0 n1) := by
  refine Rel_o (C := fun s t => Sim (F6_whatKind s n0 n1) (F7_whatKind t b n0 n1)) R ?_
  intro H P pc pn I L T g_hasImage g_n_warmth g_n_kind g_n_figure g_n_airCell g_n_way g_n_seat g_n_shawls g_n_steps g_n_numbers g_m_shutBits g_m_airs g_m_crownedBits g_m_sitters g_m_onBits g_m_turn g_m_taken g_m_warmth g_m_kind g_m_figure g_m_airCell g_m_way g_m_seat g_m_shawls g_m_count g_m_steps g_m_numbers g_i_shutBits g_i_airs g_i_crownedBits g_i_sitters g_i_onBits g_i_turn g_i_taken g_i_warmth g_i_kind g_i_figure g_i_airCell g_i_way g_i_seat g_i_shawls g_i_count g_i_steps g_i_numbers g_text_letters g_coats_sorts g_coats_sizes g_places g_coats_carried g_told g_refused g_oneHas g_otherHas g_k_shutBits g_k_airs g_k_crownedBits g_k_sitters g_k_onBits g_k_turn g_k_taken g_k_warmth g_k_kind g_k_figure g_k_airCell g_k_way g_k_seat g_k_shawls g_k_count g_k_steps g_k_numbers r_thrown r_at0 r_isBad r_statements r_stepsMany r_hasImage r_place0 r_isTaking r_keptIn r_seed r_warms r_shutAt r_kinds0 r_figures r_airAt r_ways r_crowned r_sitsAt r_shawls r_isOn r_stepOf r_stepBy r_refusals r_letters r_placeIn r_letterOf r_numbers r_stepsRead r_stepsBy r_kept r_keptWarms r_i_imaged r_imagedWarms r_turns0 r_turnWarms0 r_turnOf r_turnWarms r_row0 r_gains r_pegSort r_pegMany r_pegHolds r_coats r_coatsMoved hE hF hg hpc hpn hK hQ hPg hI hL hT hTl hO hR hG
  show Sim (F6_whatKind _ n0 n1) (F7_whatKind _ b n0 n1)
  rw [F6_whatKind_b, F7_whatKind_b]
  refine sim_o ?_
  unfold f_X6_whatKind f_X7_whatKind f_X6_whatKind_b41 f_X7_whatKind_b23
  have hV := hg.1
  obtain ⟨hA5, hS6, hH6, hT20, hK9⟩ := hV.1
  by_cases q : ixB n0 (aA H) = true
  · obtain ⟨a1, ha, rfl⟩ := ixB_t q
    by_cases q1 : ixB n1 2 = true
    · obtain ⟨j, hj, rfl⟩ := ixB_t q1
      rcases (show j = 0 ∨ j = 1 by omega) with rfl | rfl
      · refine Okt (c_isAir _ (by omega)) q (Okn (by decide) (Okp (by decide) (Okp (by decide) ?_)))
        refine lc_wk (N := 8) hTl ha rfl hV hg.2.2 hE 8 0 4096 0 _ _ _ _ _ _ _ _ _ _ _ _ _ _ _ _ _ (by omega) (by omega) ?_
        intro _ _ _ _ _ _ _ _ _ _ _ _ _ _ _ _ _
        refine Okt (r_isAir _ (by omega)) q (Okt (in_ix 2 (by decide)) q1 ?_)
        refine K_think hV hF ?_
        intro _ _ _ _ _ _ _ _ _ _ _ _ _ _ F1 Q1
        refine lr_wk (tl := g_told) hTl (fun i hi => (hO i hi).1) ha (Or.inl rfl) hV hg.2.2 8 0 4096 0 _ _ _ _ _ _ _ _ _ _ _ _ _ _ _ _ _ _ _ _ _ _ (by decide) (by omega) F1 Q1 ?_
        intro _ _ _ _ _ _ _ _ _ _ _ _ _ _ _ _ _ _ _ _ _ _ F3 Q3
        exact ⟨rfl, Rel_i H P pc pn I L T ⟨hE, F3, hg, rfl⟩ ⟨⟨hpc, hpn, rfl, rfl, rfl⟩, hK, hQ, hPg⟩ hI ⟨hL, rfl, rfl, hT⟩ ⟨hTl, rfl, rfl, hO⟩ hR hG⟩
      · refine Okt (c_isAir _ (by omega)) q (Okn (by decide) (Okp (by decide) (Okn (by decide) ?_)))
        refine lc_wk (N := 10) hTl ha rfl hV hg.2.2 hE 10 0 4096 0 _ _ _ _ _ _ _ _ _ _ _ _ _ _ _ _ _ (by omega) (by omega) ?_
        intro _ _ _ _ _ _ _ _ _ _ _ _ _ _ _ _ _
        refine Okt (r_isAir _ (by omega)) q (Okt (in_ix 2 (by decide)) q1 ?_)
        refine K_think hV hF ?_
        intro _ _ _ _ _ _ _ _ _ _ _ _ _ _ F1 Q1
        refine lr_wk (tl := g_told) hTl (fun i hi => (hO i hi).1) ha (Or.inr rfl) hV hg.2.2 10 0 4096 0 _ _ _ _ _ _ _ _ _ _ _ _ _ _ _ _ _ _ _ _ _ _ (by decide) (by omega) F1 Q1 ?_
        intro _ _ _ _ _ _ _ _ _ _ _ _ _ _ _ _ _ _ _ _ _ _ F3 Q3
        exact ⟨rfl, Rel_i H P pc pn I L T ⟨hE, F3, hg, rfl⟩ ⟨⟨hpc, hpn, rfl, rfl, rfl⟩, hK, hQ, hPg⟩ hI ⟨hL, rfl, rfl, hT⟩ ⟨hTl, rfl, rfl, hO⟩ hR hG⟩
    · rcases ix2 (by omega) q1 with w | ⟨w, w2⟩
      · refine Okt (c_isAir _ (by omega)) q (Okp w (Ok2 (c_refuse 2 (by omega) (by omega) _ (by decide)) (Okv ?_)))
        refine Okt (r_isAir _ (by omega)) q (Okf (in_ix 2 (by decide)) q1 (Okt (r_isAir _ (by omega)) q (Ok2 (r_refuse 2 (by omega) (by omega) _ (by decide)) (Okv ?_))))
        exact ⟨rfl, Rel_i H P pc pn I L T ⟨hE, hF, hg, rfl⟩ ⟨⟨hpc, hpn, rfl, rfl, rfl⟩, hK, hQ, hPg⟩ hI ⟨hL, rfl, rfl, hT⟩ ⟨hTl, rfl, rfl, hO⟩ (pRef_u hR) hG⟩
      · refine Okt (c_isAir _ (by omega)) q (Okn w (Okn (fun z => absurd (Int32.le_iff_toInt_le.mp (Int32.le_trans w2 z)) (by decide)) (Ok2 (c_refuse 2 (by omega) (by omega) _ (by decide)) (Okv ?_))))
        refine Okt (r_isAir _ (by omega)) q (Okf (in_ix 2 (by decide)) q1 (Okt (r_isAir _ (by omega)) q (Ok2 (r_refuse 2 (by omega) (by omega) _ (by decide)) (Okv ?_))))
        exact ⟨rfl, Rel_i H P pc pn I L T ⟨hE, hF, hg, rfl⟩ ⟨⟨hpc, hpn, rfl, rfl, rfl⟩, hK, hQ, hPg⟩ hI ⟨hL, rfl, rfl, hT⟩ ⟨hTl, rfl, rfl, hO⟩ (pRef_u hR) hG⟩
  · refine Okf (c_isAir _ (by omega)) q (Ok2 (c_refuse 1 (by omega) (by omega) _ (by decide)) (Okv ?_))
    refine Okf (r_isAir _ (by omega)) q (Okf (r_isAir _ (by omega)) q (Ok2 (r_refuse 1 (by omega) (by omega) _ (by decide)) (Okv ?_)))
    exact ⟨rfl, Rel_i H P pc pn I L T ⟨hE, hF, hg, rfl⟩ ⟨⟨hpc, hpn, rfl, rfl, rfl⟩, hK, hQ, hPg⟩ hI ⟨hL, rfl, rfl, hT⟩ ⟨hTl, rfl, rfl, hO⟩ (pRef_u hR) hG⟩
theorem s_lots {s : S6} {t : S7} (a b : Nat → Nat) (R : Rel s t) (n0 : Int32) (n1 : Int32) (n2 : Int32) : Sim (F6_lots s n0 n1 n2) (F7_lots t b n0 n1 n2) := by
  refine Rel_o (C := fun s t => Sim (F6_lots s n0 n1 n2) (F7_lots t b n0 n1 n2)) R ?_
  intro H P pc pn I L T g_hasImage g_n_warmth g_n_kind g_n_figure g_n_airCell g_n_way g_n_seat g_n_shawls g_n_steps g_n_numbers g_m_shutBits g_m_airs g_m_crownedBits g_m_sitters g_m_onBits g_m_turn g_m_taken g_m_warmth g_m_kind g_m_figure g_m_airCell g_m_way g_m_seat g_m_shawls g_m_count g_m_steps g_m_numbers g_i_shutBits g_i_airs g_i_crownedBits g_i_sitters g_i_onBits g_i_turn g_i_taken g_i_warmth g_i_kind g_i_figure g_i_airCell g_i_way g_i_seat g_i_shawls g_i_count g_i_steps g_i_numbers g_text_letters g_coats_sorts g_coats_sizes g_places g_coats_carried g_told g_refused g_oneHas g_otherHas g_k_shutBits g_k_airs g_k_crownedBits g_k_sitters g_k_onBits g_k_turn g_k_taken g_k_warmth g_k_kind g_k_figure g_k_airCell g_k_way g_k_seat g_k_shawls g_k_count g_k_steps g_k_numbers r_thrown r_at0 r_isBad r_statements r_stepsMany r_hasImage r_place0 r_isTaking r_keptIn r_seed r_warms r_shutAt r_kinds0 r_figures r_airAt r_ways r_crowned r_sitsAt r_shawls r_isOn r_stepOf r_stepBy r_refusals r_letters r_placeIn r_letterOf r_numbers r_stepsRead r_stepsBy r_kept r_keptWarms r_i_imaged r_imagedWarms r_turns0 r_turnWarms0 r_turnOf r_turnWarms r_row0 r_gains r_pegSort r_pegMany r_pegHolds r_coats r_coatsMoved hE hF hg hpc hpn hK hQ hPg hI hL hT hTl hO hR hG
  show Sim (F6_lots _ n0 n1 n2) (F7_lots _ b n0 n1 n2)
  rw [F6_lots_b, F7_lots_b]
  refine sim_o ?_
  unfold f_X6_lots f_X7_lots f_X7_lots_b36
  have hV := hg.1
  obtain ⟨hA5, hS6, hH6, hT20, hK9⟩ := hV.1
  rcases wr_3 n0 1 20 (by omega) (by omega) with ⟨w1, w2⟩ | ⟨w1, w2, w3⟩ | ⟨n, hn1, hn, rfl, w1⟩
  · refine Ok1 (c_wr w1) (Okn (by decide) (Ok2 (c_refuse 4 (by omega) (by omega) _ (by decide)) (Okv ?_)))
    refine Ok1 (r_wr w1) (Okn (by decide) (Okn (by decide) (Ok2 (r_refuse 4 (by omega) (by omega) _ (by decide)) (Okv ?_))))
    exact ⟨rfl, Rel_i H P pc pn I L T ⟨hE, hF, hg, rfl⟩ ⟨⟨hpc, hpn, rfl, rfl, rfl⟩, hK, hQ, hPg⟩ hI ⟨hL, rfl, rfl, hT⟩ ⟨hTl, rfl, rfl, hO⟩ (pRef_u hR) hG⟩
  · refine Ok1 (c_wr w1) (Okn (by decide) (Ok2 (c_refuse 6 (by omega) (by omega) _ (by decide)) (Okv ?_)))
    refine Ok1 (r_wr w1) (Okn (by decide) (Okn (by decide) (Ok2 (r_refuse 6 (by omega) (by omega) _ (by decide)) (Okv ?_))))
    exact ⟨rfl, Rel_i H P pc pn I L T ⟨hE, hF, hg, rfl⟩ ⟨⟨hpc, hpn, rfl, rfl, rfl⟩, hK, hQ, hPg⟩ hI ⟨hL, rfl, rfl, hT⟩ ⟨hTl, rfl, rfl, hO⟩ (pRef_u hR) hG⟩
  · by_cases q : ixB n2 2 = true
    · obtain ⟨j, hj, hn2⟩ := ixB_t q
      have b0 : ¬ n2 < 0 := by rw [hn2]; exact nI_pos (by omega)
      have b1 : n2 ≤ 1 := by rw [hn2]; exact nI_le (b := 1) (by omega) (by omega)
      refine Ok1 (c_wr w1) (Okp rfl (Okn b0 (Okp b1 ?_)))
      refine lc_lots hn hV hg.2.2 hE n 0 4096 n1 0 0 _ _ _ _ _ _ _ _ _ _ _ _ _ _ _ _ _ (by omega) (by omega) ?_
      intro _ _ _ _ _ _ _ _ _ _ _ _ _ _ _ _ _
      refine Ok1 (r_wr w1) (Okp rfl (Okt (in_ix 2 (by decide)) q (Okp (by decide) ?_)))
      refine K_think hV hF ?_
      intro _ _ _ _ _ _ _ _ _ _ _ _ _ _ F1 Q1
      refine lr_lots2 hn hV hg.2.2 n1 0 0 0 (by split <;> rfl) _ _ _ _ _ _ _ _ _ _ _ _ _ _ _ _ _ _ _ _ _ _ F1 Q1 ?_
      intro _ _ _ _ _ _ _ _ _ _ _ _ _ _ _ _ _ _ _ _ _ _ _ F3 Q3
      exact ⟨rfl, Rel_i H P pc pn I L T ⟨hE, F3, hg, rfl⟩ ⟨⟨hpc, hpn, rfl, rfl, rfl⟩, hK, hQ, hPg⟩ hI ⟨hL, rfl, rfl, hT⟩ ⟨hTl, rfl, rfl, hO⟩ hR hG⟩
    · rcases ix2 (by omega) q with w | ⟨w, w2⟩
      · refine Ok1 (c_wr w1) (Okp rfl (Okp w (Ok2 (c_refuse 2 (by omega) (by omega) _ (by decide)) (Okv ?_))))
        refine Ok1 (r_wr w1) (Okp rfl (Okf (in_ix 2 (by decide)) q (Okn (by decide) (Ok2 (r_refuse 2 (by omega) (by omega) _ (by decide)) (Okv ?_)))))
        exact ⟨rfl, Rel_i H P pc pn I L T ⟨hE, hF, hg, rfl⟩ ⟨⟨hpc, hpn, rfl, rfl, rfl⟩, hK, hQ, hPg⟩ hI ⟨hL, rfl, rfl, hT⟩ ⟨hTl, rfl, rfl, hO⟩ (pRef_u hR) hG⟩
      · refine Ok1 (c_wr w1) (Okp rfl (Okn w (Okn (fun z => absurd (Int32.le_iff_toInt_le.mp (Int32.le_trans w2 z)) (by decide)) (Ok2 (c_refuse 2 (by omega) (by omega) _ (by decide)) (Okv ?_)))))
        refine Ok1 (r_wr w1) (Okp rfl (Okf (in_ix 2 (by decide)) q (Okn (by decide) (Ok2 (r_refuse 2 (by omega) (by omega) _ (by decide)) (Okv ?_)))))
        exact ⟨rfl, Rel_i H P pc pn I L T ⟨hE, hF, hg, rfl⟩ ⟨⟨hpc, hpn, rfl, rfl, rfl⟩, hK, hQ, hPg⟩ hI ⟨hL, rfl, rfl, hT⟩ ⟨hTl, rfl, rfl, hO⟩ (pRef_u hR) hG⟩
