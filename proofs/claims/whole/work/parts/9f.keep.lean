/-! the reference: thinking, putting back, the turns that are kept -/
theorem HR_cg {h : AH} (V : aV h) {ai si hc tn tk : Int32} {wm : Nat → UInt32} {sh ki fi ac wy cr se sl on hs hn : Nat → Int32} (E : HR h ai si hc tn tk wm sh ki fi ac wy cr se sl on hs hn) {wm' : Nat → UInt32} {sh' ki' fi' ac' wy' cr' se' sl' on' hs' hn' : Nat → Int32} (h5 : ∀ i, i < 5 → ki' i = ki i ∧ fi' i = fi i ∧ ac' i = ac i ∧ wy' i = wy i ∧ cr' i = cr i) (h6 : ∀ i, i < 6 → se' i = se i ∧ sl' i = sl i ∧ on' i = on i ∧ hs' i = hs i ∧ hn' i = hn i) (h36 : ∀ c, c < 36 → sh' c = sh c ∧ wm' c = wm c) : HR h ai si hc tn tk wm' sh' ki' fi' ac' wy' cr' se' sl' on' hs' hn' := by
  obtain ⟨⟨v1, v2, v3, -, -⟩, -⟩ := V
  obtain ⟨E1, E2, E3, E4, E5, E6⟩ := E
  refine ⟨E1, fun i hi => ?_, fun i hi => ?_, fun i hi => ?_, fun c hc36 => (h36 c hc36).1.trans (E5 c hc36), fun c hc36 => (h36 c hc36).2.trans (E6 c hc36)⟩
  · obtain ⟨a1, a2, a3, a4, a5⟩ := E2 i hi
    obtain ⟨b1, b2, b3, b4, b5⟩ := h5 i (by omega)
    exact ⟨b1.trans a1, b2.trans a2, b3.trans a3, b4.trans a4, b5.trans a5⟩
  · obtain ⟨a1, a2, a3⟩ := E3 i hi
    obtain ⟨b1, b2, b3, b4, b5⟩ := h6 i (by omega)
    exact ⟨b1.trans a1, b2.trans a2, b3.trans a3⟩
  · obtain ⟨a1, a2⟩ := E4 i hi
    obtain ⟨b1, b2, b3, b4, b5⟩ := h6 i (by omega)
    exact ⟨b4.trans a1, b5.trans a2⟩
/-- a house in the reference's row -/
def HP (h : AH) (q : Nat → Int32) (qw : Nat → UInt32) : Prop := HR h (q 0) (q 1) (q 2) (q 3) (q 4) qw (fun c => q (60 + c)) (fun i => q (5 + 5 * i)) (fun i => q (6 + 5 * i)) (fun i => q (7 + 5 * i)) (fun i => q (8 + 5 * i)) (fun i => q (9 + 5 * i)) (fun i => q (30 + 5 * i)) (fun i => q (31 + 5 * i)) (fun i => q (32 + 5 * i)) (fun i => q (33 + 5 * i)) (fun i => q (34 + 5 * i))
theorem HP_cg {h : AH} (V : aV h) {q q' : Nat → Int32} {qw qw' : Nat → UInt32} (E : HP h q qw) (hq : ∀ j, j < 96 → q' j = q j) (hw : ∀ c, c < 36 → qw' c = qw c) : HP h q' qw' := by
  unfold HP at *
  rw [hq 0 (by omega), hq 1 (by omega), hq 2 (by omega), hq 3 (by omega), hq 4 (by omega)]
  exact HR_cg V E (fun i hi => ⟨hq _ (by omega), hq _ (by omega), hq _ (by omega), hq _ (by omega), hq _ (by omega)⟩) (fun i hi => ⟨hq _ (by omega), hq _ (by omega), hq _ (by omega), hq _ (by omega), hq _ (by omega)⟩) (fun c hc => ⟨hq _ (by omega), hw c hc⟩)
def pick5 (r : Nat) (a b c d e : Int32) : Int32 := if r = 0 then a else if r = 1 then b else if r = 2 then c else if r = 3 then d else e
/-- the row of what is carried -/
def packT (ai si hc tn tk : Int32) (sh ki fi ac wy cr se sl on hs hn : Nat → Int32) : Nat → Int32 := fun j => if j < 5 then pick5 j ai si hc tn tk else if j < 30 then pick5 (j % 5) (ki (j / 5 - 1)) (fi (j / 5 - 1)) (ac (j / 5 - 1)) (wy (j / 5 - 1)) (cr (j / 5 - 1)) else if j < 60 then pick5 (j % 5) (se (j / 5 - 6)) (sl (j / 5 - 6)) (on (j / 5 - 6)) (hs (j / 5 - 6)) (hn (j / 5 - 6)) else sh (j - 60)
theorem packT_5 {ai si hc tn tk : Int32} {sh ki fi ac wy cr se sl on hs hn : Nat → Int32} {i r : Nat} (hi : i < 5) (hr : r < 5) : packT ai si hc tn tk sh ki fi ac wy cr se sl on hs hn (5 + r + 5 * i) = pick5 r (ki i) (fi i) (ac i) (wy i) (cr i) := by
  unfold packT
  rw [if_neg (by omega), if_pos (by omega), show (5 + r + 5 * i) % 5 = r by omega, show (5 + r + 5 * i) / 5 - 1 = i by omega]
theorem packT_6 {ai si hc tn tk : Int32} {sh ki fi ac wy cr se sl on hs hn : Nat → Int32} {i r : Nat} (hi : i < 6) (hr : r < 5) : packT ai si hc tn tk sh ki fi ac wy cr se sl on hs hn (30 + r + 5 * i) = pick5 r (se i) (sl i) (on i) (hs i) (hn i) := by
  unfold packT
  rw [if_neg (by omega), if_neg (by omega), if_pos (by omega), show (30 + r + 5 * i) % 5 = r by omega, show (30 + r + 5 * i) / 5 - 6 = i by omega]
theorem packT_36 {ai si hc tn tk : Int32} {sh ki fi ac wy cr se sl on hs hn : Nat → Int32} {c : Nat} : packT ai si hc tn tk sh ki fi ac wy cr se sl on hs hn (60 + c) = sh c := by
  unfold packT
  rw [if_neg (by omega), if_neg (by omega), if_neg (by omega), show 60 + c - 60 = c by omega]
section PK
variable {h : AH} {q0 : Nat} {ai si hc tn tk : Int32} {wm : Nat → UInt32} {sh ki fi ac wy cr se sl on hs hn : Nat → Int32} {q : Nat → Int32} {qw : Nat → UInt32}
theorem r_takes (V : aV h) (E : HR h ai si hc tn tk wm sh ki fi ac wy cr se sl on hs hn) : ∃ (wm' : Nat → UInt32) (sh' ki' fi' ac' wy' cr' se' sl' on' hs' hn' q' : Nat → Int32) (qw' : Nat → UInt32), f_X7_carryAll q0 ai si hc tn tk wm sh ki fi ac wy cr se sl on hs hn q qw 1 = some (ai, si, hc, tn, tk, nI 96, 1, Value.ref q0, wm', sh', ki', fi', ac', wy', cr', se', sl', on', hs', hn', q', qw') ∧ HR h ai si hc tn tk wm' sh' ki' fi' ac' wy' cr' se' sl' on' hs' hn' ∧ HP h q' qw' := by
  have t5 : ∀ i, i < 5 → ki i = packT ai si hc tn tk sh ki fi ac wy cr se sl on hs hn (5 + 5 * i) ∧ fi i = packT ai si hc tn tk sh ki fi ac wy cr se sl on hs hn (6 + 5 * i) ∧ ac i = packT ai si hc tn tk sh ki fi ac wy cr se sl on hs hn (7 + 5 * i) ∧ wy i = packT ai si hc tn tk sh ki fi ac wy cr se sl on hs hn (8 + 5 * i) ∧ cr i = packT ai si hc tn tk sh ki fi ac wy cr se sl on hs hn (9 + 5 * i) := fun i hi => ⟨(packT_5 (r := 0) hi (by omega)).symm, (packT_5 (r := 1) hi (by omega)).symm, (packT_5 (r := 2) hi (by omega)).symm, (packT_5 (r := 3) hi (by omega)).symm, (packT_5 (r := 4) hi (by omega)).symm⟩
  have t6 : ∀ i, i < 6 → se i = packT ai si hc tn tk sh ki fi ac wy cr se sl on hs hn (30 + 5 * i) ∧ sl i = packT ai si hc tn tk sh ki fi ac wy cr se sl on hs hn (31 + 5 * i) ∧ on i = packT ai si hc tn tk sh ki fi ac wy cr se sl on hs hn (32 + 5 * i) ∧ hs i = packT ai si hc tn tk sh ki fi ac wy cr se sl on hs hn (33 + 5 * i) ∧ hn i = packT ai si hc tn tk sh ki fi ac wy cr se sl on hs hn (34 + 5 * i) := fun i hi => ⟨(packT_6 (r := 0) hi (by omega)).symm, (packT_6 (r := 1) hi (by omega)).symm, (packT_6 (r := 2) hi (by omega)).symm, (packT_6 (r := 3) hi (by omega)).symm, (packT_6 (r := 4) hi (by omega)).symm⟩
  have t36 : ∀ c, sh c = packT ai si hc tn tk sh ki fi ac wy cr se sl on hs hn (60 + c) := fun c => packT_36.symm
  obtain ⟨wm', sh', ki', fi', ac', wy', cr', se', sl', on', hs', hn', q', qw', f, z5, z6, zq, z36⟩ := r_carryAll (b := true) (T := packT ai si hc tn tk sh ki fi ac wy cr se sl on hs hn) (W := wm) (q0 := q0) (ai := ai) (si := si) (hc := hc) (tn := tn) (tk := tk) (wm := wm) (sh := sh) (ki := ki) (fi := fi) (ac := ac) (wy := wy) (cr := cr) (se := se) (sl := sl) (on := on) (hs := hs) (hn := hn) (q := q) (qw := qw) (fun _ => ⟨⟨rfl, rfl, rfl, rfl, rfl⟩, t5, t6, fun j _ => rfl, fun c _ => ⟨t36 c, rfl, rfl⟩⟩) (fun z => by cases z)
  refine ⟨wm', sh', ki', fi', ac', wy', cr', se', sl', on', hs', hn', q', qw', f, ?_, ?_⟩
  · refine HR_cg V E (fun i hi => ?_) (fun i hi => ?_) (fun c hc36 => ?_)
    · obtain ⟨a1, a2, a3, a4, a5⟩ := z5 i hi
      obtain ⟨b1, b2, b3, b4, b5⟩ := t5 i hi
      exact ⟨a1.trans b1.symm, a2.trans b2.symm, a3.trans b3.symm, a4.trans b4.symm, a5.trans b5.symm⟩
    · obtain ⟨a1, a2, a3, a4, a5⟩ := z6 i hi
      obtain ⟨b1, b2, b3, b4, b5⟩ := t6 i hi
      exact ⟨a1.trans b1.symm, a2.trans b2.symm, a3.trans b3.symm, a4.trans b4.symm, a5.trans b5.symm⟩
    · exact ⟨(z36 c hc36).1.trans (t36 c).symm, (z36 c hc36).2.1⟩
  · have e : HP h (packT ai si hc tn tk sh ki fi ac wy cr se sl on hs hn) wm := by
      refine HR_cg V E (fun i hi => ?_) (fun i hi => ?_) (fun c hc36 => ⟨(t36 c).symm, rfl⟩)
      · obtain ⟨b1, b2, b3, b4, b5⟩ := t5 i hi
        exact ⟨b1.symm, b2.symm, b3.symm, b4.symm, b5.symm⟩
      · obtain ⟨b1, b2, b3, b4, b5⟩ := t6 i hi
        exact ⟨b1.symm, b2.symm, b3.symm, b4.symm, b5.symm⟩
    exact HP_cg V e zq (fun c hc36 => (z36 c hc36).2.2)
theorem r_gives (V : aV h) (E : HP h q qw) : ∃ (wm' : Nat → UInt32) (sh' ki' fi' ac' wy' cr' se' sl' on' hs' hn' q' : Nat → Int32) (qw' : Nat → UInt32), f_X7_carryAll q0 ai si hc tn tk wm sh ki fi ac wy cr se sl on hs hn q qw 0 = some (q 0, q 1, q 2, q 3, q 4, nI 96, 0, Value.ref q0, wm', sh', ki', fi', ac', wy', cr', se', sl', on', hs', hn', q', qw') ∧ HR h (q 0) (q 1) (q 2) (q 3) (q 4) wm' sh' ki' fi' ac' wy' cr' se' sl' on' hs' hn' ∧ HP h q' qw' := by
  obtain ⟨wm', sh', ki', fi', ac', wy', cr', se', sl', on', hs', hn', q', qw', f, z5, z6, zq, z36⟩ := r_carryAll (b := false) (T := q) (W := qw) (q0 := q0) (ai := ai) (si := si) (hc := hc) (tn := tn) (tk := tk) (wm := wm) (sh := sh) (ki := ki) (fi := fi) (ac := ac) (wy := wy) (cr := cr) (se := se) (sl := sl) (on := on) (hs := hs) (hn := hn) (q := q) (qw := qw) (fun z => by cases z) (fun _ => ⟨fun j _ => rfl, fun c _ => rfl⟩)
  refine ⟨wm', sh', ki', fi', ac', wy', cr', se', sl', on', hs', hn', q', qw', f, ?_, ?_⟩
  · exact HR_cg V E z5 z6 (fun c hc36 => ⟨(z36 c hc36).1, (z36 c hc36).2.1⟩)
  · exact HP_cg V E zq (fun c hc36 => (z36 c hc36).2.2)
theorem r_think {a : Nat → Nat} (V : aV h) (E : HR h ai si hc tn tk wm sh ki fi ac wy cr se sl on hs hn) : ∃ (wm' : Nat → UInt32) (sh' ki' fi' ac' wy' cr' se' sl' on' hs' hn' q' : Nat → Int32) (qw' : Nat → UInt32), f_X7_think a ai si hc tn tk wm sh ki fi ac wy cr se sl on hs hn q qw = some (ai, si, hc, tn, tk, nI 96, 1, Value.ref (a 20), wm', sh', ki', fi', ac', wy', cr', se', sl', on', hs', hn', q', qw') ∧ HR h ai si hc tn tk wm' sh' ki' fi' ac' wy' cr' se' sl' on' hs' hn' ∧ HP h q' qw' := by
  obtain ⟨wm', sh', ki', fi', ac', wy', cr', se', sl', on', hs', hn', q', qw', f, g⟩ := r_takes (q0 := a 20) (q := q) (qw := qw) V E
  refine ⟨wm', sh', ki', fi', ac', wy', cr', se', sl', on', hs', hn', q', qw', ?_, g⟩
  unfold f_X7_think
  rw [dq_bd22_s f]
theorem r_again {a : Nat → Nat} (V : aV h) (E : HP h q qw) : ∃ (wm' : Nat → UInt32) (sh' ki' fi' ac' wy' cr' se' sl' on' hs' hn' q' : Nat → Int32) (qw' : Nat → UInt32), f_X7_again a ai si hc tn tk wm sh ki fi ac wy cr se sl on hs hn q qw = some (q 0, q 1, q 2, q 3, q 4, nI 96, 0, Value.ref (a 20), wm', sh', ki', fi', ac', wy', cr', se', sl', on', hs', hn', q', qw') ∧ HR h (q 0) (q 1) (q 2) (q 3) (q 4) wm' sh' ki' fi' ac' wy' cr' se' sl' on' hs' hn' ∧ HP h q' qw' := by
  obtain ⟨wm', sh', ki', fi', ac', wy', cr', se', sl', on', hs', hn', q', qw', f, g⟩ := r_gives (q0 := a 20) (ai := ai) (si := si) (hc := hc) (tn := tn) (tk := tk) (wm := wm) (sh := sh) (ki := ki) (fi := fi) (ac := ac) (wy := wy) (cr := cr) (se := se) (sl := sl) (on := on) (hs := hs) (hn := hn) V E
  refine ⟨wm', sh', ki', fi', ac', wy', cr', se', sl', on', hs', hn', q', qw', ?_, g⟩
  unfold f_X7_again
  rw [dq_bd22_s f]
end PK
