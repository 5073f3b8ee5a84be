/-! the reference's rows of a house: carried there and back -/
/-- the rows up to p hold T; all of them, where nothing is taken -/
def kI (b : Bool) (T : Nat → Int32) (p : Nat) (q : Nat → Int32) : Prop := (∀ j, j < p → q j = T j) ∧ (b = false → ∀ j, j < 96 → q j = T j)
theorem r_carry {b : Bool} {T q : Nat → Int32} {p : Nat} {v : Int32} (h : kI b T p q) (hp : p < 96) (hv : b = true → v = T p) : ∃ q' : Nat → Int32, f_X7_carry (nI p) (nB b) q v = some (T p, nI (p + 1), q') ∧ kI b T (p + 1) q' := by
  have hi : vp_in (nI p) 96 := vp_in_nI hp (by omega)
  have e1 : nI (p + 1) - (1 : Int32) = nI p := by rw [show (1 : Int32) = nI 1 from rfl, pk_sub (by omega)]; rfl
  unfold f_X7_carry
  cases b with
  | false =>
    rw [dq_if_pos (show nB false = 0 from rfl)]
    unfold f_X7_carry_b17
    simp only [dq_let]
    rw [show nI p + (1 : Int32) = nI (p + 1) from nI_1 p, e1, dq_gd_pos hi, nI_clamp (by omega), h.2 rfl p hp]
    exact ⟨q, rfl, fun j hj => h.2 rfl j (by omega), h.2⟩
  | true =>
    rw [dq_if_neg (by decide), dq_gd_pos hi]
    unfold f_X7_carry_b17
    simp only [dq_let]
    rw [show nI p + (1 : Int32) = nI (p + 1) from nI_1 p, e1, dq_gd_pos hi, nI_clamp (by omega), pk_us, hv rfl]
    refine ⟨_, rfl, fun j hj => ?_, fun z => by cases z⟩
    by_cases z : j = p
    · subst z; rw [pk_us]
    · rw [pk_un z]; exact h.1 j (by omega)
/-- what a row of the comps has by T: the done ones, and all where it is taken -/
def kR (b : Bool) (T : Nat → Int32) (o : Nat) (n k : Nat) (f : Nat → Int32) : Prop := ∀ i, i < n → (i < k ∨ b = true) → f i = T (o + 5 * i)
theorem kR_up {b : Bool} {T : Nat → Int32} {o n k : Nat} {f : Nat → Int32} (h : kR b T o n k f) : kR b T o n (k + 1) (upd f k (T (o + 5 * k))) := by
  intro i hi hh
  by_cases z : i = k
  · subst z; rw [pk_us]
  · rw [pk_un z]
    refine h i hi ?_
    rcases hh with hh | hh
    · exact Or.inl (by omega)
    · exact Or.inr hh
theorem kR_v {b : Bool} {T : Nat → Int32} {o n k : Nat} {f : Nat → Int32} (h : kR b T o n k f) (hk : k < n) : b = true → f k = T (o + 5 * k) := fun hb => h k hk (Or.inr hb)
section PCA
variable {b : Bool} {T : Nat → Int32} {W : Nat → UInt32} {q0 : Nat}
theorem r_cellsA {ki fi ac wy cr se sl on hs hn : Nat → Int32} {t0 t1 t2 t3 t4 : Int32} : ∀ (d k m : Nat) (wm : Nat → UInt32) (sh q : Nat → Int32) (qw : Nat → UInt32), k + d = 36 → d < m → kI b T (60 + k) q → (∀ c, c < 36 → (c < k ∨ b = true) → sh c = T (60 + c) ∧ wm c = W c) → (∀ c, c < 36 → (c < k ∨ b = false) → qw c = W c) → ∃ (wm' : Nat → UInt32) (sh' q' : Nat → Int32) (qw' : Nat → UInt32), f_X7_carryAll_b289 q0 (nB b) t0 t1 t2 t3 t4 ki fi ac wy cr se sl on hs hn m (nI k) (nI (60 + k)) wm sh q qw = some (t0, t1, t2, t3, t4, nI 96, nB b, Value.ref q0, wm', sh', ki, fi, ac, wy, cr, se, sl, on, hs, hn, q', qw') ∧ (∀ j, j < 96 → q' j = T j) ∧ (∀ c, c < 36 → sh' c = T (60 + c) ∧ wm' c = W c ∧ qw' c = W c)
  | d, k, 0, _, _, _, _, _, z, _, _, _ => absurd z (by omega)
  | 0, k, m + 1, wm, sh, q, qw, hk, _, hq, hc, hw => by
    have : k = 36 := by omega
    subst this
    refine ⟨wm, sh, q, qw, ?_, fun j hj => hq.1 j (by omega), fun c hc36 => ⟨(hc c hc36 (Or.inl hc36)).1, (hc c hc36 (Or.inl hc36)).2, hw c hc36 (Or.inl hc36)⟩⟩
    rw [f_X7_carryAll_b289, dq_if_pos (by decide)]
  | d + 1, k, m + 1, wm, sh, q, qw, hk, hm, hq, hc, hw => by
    have hkl : k < 36 := by omega
    have hi : vp_in (nI k) 36 := vp_in_nI hkl (by omega)
    obtain ⟨q1, f1, hq1⟩ := r_carry hq (v := sh k) (by omega) (fun hb => (hc k hkl (Or.inr hb)).1)
    rw [f_X7_carryAll_b289, show (36 : Int32) = nI 36 from rfl, dq_if_neg (nI_ge hkl (by omega)), dq_gd_pos hi, nI_clamp (by omega), dq_bd3_s f1, dq_gd_pos hi]
    simp only [dq_let]
    have go : ∀ v : UInt32, v = W k → ∃ (wm' : Nat → UInt32) (sh' q' : Nat → Int32) (qw' : Nat → UInt32), f_X7_carryAll_b335 (nI k) wm qw (nI (60 + k + 1)) q1 (upd sh k (T (60 + k))) (f_X7_carryAll_b289 q0 (nB b) t0 t1 t2 t3 t4 ki fi ac wy cr se sl on hs hn m) (nI k) v = some (t0, t1, t2, t3, t4, nI 96, nB b, Value.ref q0, wm', sh', ki, fi, ac, wy, cr, se, sl, on, hs, hn, q', qw') ∧ (∀ j, j < 96 → q' j = T j) ∧ (∀ c, c < 36 → sh' c = T (60 + c) ∧ wm' c = W c ∧ qw' c = W c) := by
      rintro v rfl
      unfold f_X7_carryAll_b335
      rw [dq_gd_pos hi]
      simp only [dq_let]
      rw [dq_gd_pos hi, dq_gd_pos hi, nI_clamp (by omega), vf_s, show nI k + (1 : Int32) = nI (k + 1) from nI_1 k, show 60 + k + 1 = 60 + (k + 1) by omega]
      refine r_cellsA d (k + 1) m _ _ _ _ (by omega) (by omega) hq1 (fun c hc36 hh => ?_) (fun c hc36 hh => ?_)
      · by_cases z : c = k
        · subst z; rw [pk_us, vf_s]; exact ⟨rfl, rfl⟩
        · rw [pk_un z, vf_n z]
          exact hc c hc36 (hh.imp (fun y => by omega) id)
      · by_cases z : c = k
        · subst z; rw [vf_s]
        · rw [vf_n z]
          exact hw c hc36 (hh.imp (fun y => by omega) id)
    cases b with
    | false =>
      rw [dq_if_pos (show nB false = 0 from rfl), dq_gd_pos hi]
      exact go _ (hw k hkl (Or.inr rfl))
    | true =>
      rw [dq_if_neg (by decide), dq_gd_pos hi]
      exact go _ (hc k hkl (Or.inr rfl)).2
/-- what is carried at the end -/
def kZ (T : Nat → Int32) (W : Nat → UInt32) (wm : Nat → UInt32) (sh ki fi ac wy cr se sl on hs hn q : Nat → Int32) (qw : Nat → UInt32) : Prop := (∀ i, i < 5 → ki i = T (5 + 5 * i) ∧ fi i = T (6 + 5 * i) ∧ ac i = T (7 + 5 * i) ∧ wy i = T (8 + 5 * i) ∧ cr i = T (9 + 5 * i)) ∧ (∀ i, i < 6 → se i = T (30 + 5 * i) ∧ sl i = T (31 + 5 * i) ∧ on i = T (32 + 5 * i) ∧ hs i = T (33 + 5 * i) ∧ hn i = T (34 + 5 * i)) ∧ (∀ j, j < 96 → q j = T j) ∧ (∀ c, c < 36 → sh c = T (60 + c) ∧ wm c = W c ∧ qw c = W c)
theorem r_sitsA {wm : Nat → UInt32} {sh ki fi ac wy cr : Nat → Int32} {qw : Nat → UInt32} {t0 t1 t2 t3 t4 : Int32} (hc : b = true → ∀ c, c < 36 → sh c = T (60 + c) ∧ wm c = W c) (hw : b = false → ∀ c, c < 36 → qw c = W c) (ha : ∀ i, i < 5 → ki i = T (5 + 5 * i) ∧ fi i = T (6 + 5 * i) ∧ ac i = T (7 + 5 * i) ∧ wy i = T (8 + 5 * i) ∧ cr i = T (9 + 5 * i)) : ∀ (d k m : Nat) (se sl on hs hn q : Nat → Int32), k + d = 6 → d < m → kI b T (30 + 5 * k) q → kR b T 30 6 k se → kR b T 31 6 k sl → kR b T 32 6 k on → kR b T 33 6 k hs → kR b T 34 6 k hn → ∃ (wm' : Nat → UInt32) (sh' se' sl' on' hs' hn' q' : Nat → Int32) (qw' : Nat → UInt32), f_X7_carryAll_b183 q0 (nB b) wm sh qw t0 t1 t2 t3 t4 ki fi ac wy cr m (nI k) (nI (30 + 5 * k)) se sl on hs hn q = some (t0, t1, t2, t3, t4, nI 96, nB b, Value.ref q0, wm', sh', ki, fi, ac, wy, cr, se', sl', on', hs', hn', q', qw') ∧ kZ T W wm' sh' ki fi ac wy cr se' sl' on' hs' hn' q' qw'
  | d, k, 0, _, _, _, _, _, _, _, z, _, _, _, _, _, _ => absurd z (by omega)
  | 0, k, m + 1, se, sl, on, hs, hn, q, hk, _, hq, h1, h2, h3, h4, h5 => by
    have : k = 6 := by omega
    subst this
    obtain ⟨wm', sh', q', qw', f, g1, g2⟩ := r_cellsA (b := b) (T := T) (W := W) (q0 := q0) (ki := ki) (fi := fi) (ac := ac) (wy := wy) (cr := cr) (se := se) (sl := sl) (on := on) (hs := hs) (hn := hn) (t0 := t0) (t1 := t1) (t2 := t2) (t3 := t3) (t4 := t4) 36 0 4096 wm sh q qw (by omega) (by omega) hq (fun c hc36 hh => hc (hh.resolve_left (by omega)) c hc36) (fun c hc36 hh => hw (hh.resolve_left (by omega)) c hc36)
    refine ⟨wm', sh', se, sl, on, hs, hn, q', qw', ?_, ha, fun i hi => ⟨h1 i hi (Or.inl hi), h2 i hi (Or.inl hi), h3 i hi (Or.inl hi), h4 i hi (Or.inl hi), h5 i hi (Or.inl hi)⟩, g1, g2⟩
    rw [f_X7_carryAll_b183, dq_if_pos (by decide)]
    exact f
  | d + 1, k, m + 1, se, sl, on, hs, hn, q, hk, hm, hq, h1, h2, h3, h4, h5 => by
    have hkl : k < 6 := by omega
    have hi : vp_in (nI k) 6 := vp_in_nI hkl (by omega)
    obtain ⟨q1, f1, hq1⟩ := r_carry hq (v := se k) (by omega) (kR_v h1 hkl)
    rw [show 30 + 5 * k + 1 = 31 + 5 * k by omega] at f1 hq1
    obtain ⟨q2, f2, hq2⟩ := r_carry hq1 (v := sl k) (by omega) (kR_v h2 hkl)
    rw [show 31 + 5 * k + 1 = 32 + 5 * k by omega] at f2 hq2
    obtain ⟨q3, f3, hq3⟩ := r_carry hq2 (v := on k) (by omega) (kR_v h3 hkl)
    rw [show 32 + 5 * k + 1 = 33 + 5 * k by omega] at f3 hq3
    obtain ⟨q4, f4, hq4⟩ := r_carry hq3 (v := hs k) (by omega) (kR_v h4 hkl)
    rw [show 33 + 5 * k + 1 = 34 + 5 * k by omega] at f4 hq4
    obtain ⟨q5, f5, hq5⟩ := r_carry hq4 (v := hn k) (by omega) (kR_v h5 hkl)
    rw [show 34 + 5 * k + 1 = 30 + 5 * (k + 1) by omega] at f5 hq5
    rw [f_X7_carryAll_b183, show (6 : Int32) = nI 6 from rfl, dq_if_neg (nI_ge hkl (by omega)), dq_gd_pos hi, nI_clamp (by omega), dq_bd3_s f1]
    simp only [dq_let]
    rw [dq_gd_pos hi, dq_gd_pos hi, dq_bd3_s f2, dq_gd_pos hi, dq_gd_pos hi, dq_bd3_s f3, dq_gd_pos hi, dq_gd_pos hi, dq_bd3_s f4, dq_gd_pos hi, dq_gd_pos hi, dq_bd3_s f5, dq_gd_pos hi, show nI k + (1 : Int32) = nI (k + 1) from nI_1 k]
    exact r_sitsA hc hw ha d (k + 1) m _ _ _ _ _ _ (by omega) (by omega) hq5 (kR_up h1) (kR_up h2) (kR_up h3) (kR_up h4) (kR_up h5)
theorem r_airsA {wm : Nat → UInt32} {sh se sl on hs hn : Nat → Int32} {qw : Nat → UInt32} {t0 t1 t2 t3 t4 : Int32} (hc : b = true → ∀ c, c < 36 → sh c = T (60 + c) ∧ wm c = W c) (hw : b = false → ∀ c, c < 36 → qw c = W c) (hss : kR b T 30 6 0 se ∧ kR b T 31 6 0 sl ∧ kR b T 32 6 0 on ∧ kR b T 33 6 0 hs ∧ kR b T 34 6 0 hn) : ∀ (d k m : Nat) (ki fi ac wy cr q : Nat → Int32), k + d = 5 → d < m → kI b T (5 + 5 * k) q → kR b T 5 5 k ki → kR b T 6 5 k fi → kR b T 7 5 k ac → kR b T 8 5 k wy → kR b T 9 5 k cr → ∃ (wm' : Nat → UInt32) (sh' ki' fi' ac' wy' cr' se' sl' on' hs' hn' q' : Nat → Int32) (qw' : Nat → UInt32), f_X7_carryAll_b78 q0 (nB b) wm sh se sl on hs hn qw t0 t1 t2 t3 t4 m (nI k) (nI (5 + 5 * k)) ki fi ac wy cr q = some (t0, t1, t2, t3, t4, nI 96, nB b, Value.ref q0, wm', sh', ki', fi', ac', wy', cr', se', sl', on', hs', hn', q', qw') ∧ kZ T W wm' sh' ki' fi' ac' wy' cr' se' sl' on' hs' hn' q' qw'
  | d, k, 0, _, _, _, _, _, _, _, z, _, _, _, _, _, _ => absurd z (by omega)
  | 0, k, m + 1, ki, fi, ac, wy, cr, q, hk, _, hq, h1, h2, h3, h4, h5 => by
    have : k = 5 := by omega
    subst this
    obtain ⟨wm', sh', se', sl', on', hs', hn', q', qw', f, g⟩ := r_sitsA (b := b) (T := T) (W := W) (q0 := q0) (t0 := t0) (t1 := t1) (t2 := t2) (t3 := t3) (t4 := t4) hc hw (fun i hi => ⟨h1 i hi (Or.inl hi), h2 i hi (Or.inl hi), h3 i hi (Or.inl hi), h4 i hi (Or.inl hi), h5 i hi (Or.inl hi)⟩) 6 0 4096 se sl on hs hn q (by omega) (by omega) hq hss.1 hss.2.1 hss.2.2.1 hss.2.2.2.1 hss.2.2.2.2
    refine ⟨wm', sh', ki, fi, ac, wy, cr, se', sl', on', hs', hn', q', qw', ?_, g⟩
    rw [f_X7_carryAll_b78, dq_if_pos (by decide)]
    exact f
  | d + 1, k, m + 1, ki, fi, ac, wy, cr, q, hk, hm, hq, h1, h2, h3, h4, h5 => by
    have hkl : k < 5 := by omega
    have hi : vp_in (nI k) 5 := vp_in_nI hkl (by omega)
    obtain ⟨q1, f1, hq1⟩ := r_carry hq (v := ki k) (by omega) (kR_v h1 hkl)
    rw [show 5 + 5 * k + 1 = 6 + 5 * k by omega] at f1 hq1
    obtain ⟨q2, f2, hq2⟩ := r_carry hq1 (v := fi k) (by omega) (kR_v h2 hkl)
    rw [show 6 + 5 * k + 1 = 7 + 5 * k by omega] at f2 hq2
    obtain ⟨q3, f3, hq3⟩ := r_carry hq2 (v := ac k) (by omega) (kR_v h3 hkl)
    rw [show 7 + 5 * k + 1 = 8 + 5 * k by omega] at f3 hq3
    obtain ⟨q4, f4, hq4⟩ := r_carry hq3 (v := wy k) (by omega) (kR_v h4 hkl)
    rw [show 8 + 5 * k + 1 = 9 + 5 * k by omega] at f4 hq4
    obtain ⟨q5, f5, hq5⟩ := r_carry hq4 (v := cr k) (by omega) (kR_v h5 hkl)
    rw [show 9 + 5 * k + 1 = 5 + 5 * (k + 1) by omega] at f5 hq5
    rw [f_X7_carryAll_b78, show (5 : Int32) = nI 5 from rfl, dq_if_neg (nI_ge hkl (by omega)), dq_gd_pos hi, nI_clamp (by omega), dq_bd3_s f1]
    simp only [dq_let]
    rw [dq_gd_pos hi, dq_gd_pos hi, dq_bd3_s f2, dq_gd_pos hi, dq_gd_pos hi, dq_bd3_s f3, dq_gd_pos hi, dq_gd_pos hi, dq_bd3_s f4, dq_gd_pos hi, dq_gd_pos hi, dq_bd3_s f5, dq_gd_pos hi, show nI k + (1 : Int32) = nI (k + 1) from nI_1 k]
    exact r_airsA hc hw hss d (k + 1) m _ _ _ _ _ _ (by omega) (by omega) hq5 (kR_up h1) (kR_up h2) (kR_up h3) (kR_up h4) (kR_up h5)
theorem r_carryAll {ai si hc tn tk : Int32} {wm : Nat → UInt32} {sh ki fi ac wy cr se sl on hs hn q : Nat → Int32} {qw : Nat → UInt32} (hb : b = true → (ai = T 0 ∧ si = T 1 ∧ hc = T 2 ∧ tn = T 3 ∧ tk = T 4) ∧ kZ T W wm sh ki fi ac wy cr se sl on hs hn T W) (hf : b = false → (∀ j, j < 96 → q j = T j) ∧ ∀ c, c < 36 → qw c = W c) : ∃ (wm' : Nat → UInt32) (sh' ki' fi' ac' wy' cr' se' sl' on' hs' hn' q' : Nat → Int32) (qw' : Nat → UInt32), f_X7_carryAll q0 ai si hc tn tk wm sh ki fi ac wy cr se sl on hs hn q qw (nB b) = some (T 0, T 1, T 2, T 3, T 4, nI 96, nB b, Value.ref q0, wm', sh', ki', fi', ac', wy', cr', se', sl', on', hs', hn', q', qw') ∧ kZ T W wm' sh' ki' fi' ac' wy' cr' se' sl' on' hs' hn' q' qw' := by
  have i0 : kI b T 0 q := ⟨fun j hj => absurd hj (by omega), fun z => (hf z).1⟩
  obtain ⟨q1, f1, hq1⟩ := r_carry i0 (v := ai) (by omega) (fun z => (hb z).1.1)
  obtain ⟨q2, f2, hq2⟩ := r_carry hq1 (v := si) (by omega) (fun z => (hb z).1.2.1)
  obtain ⟨q3, f3, hq3⟩ := r_carry hq2 (v := hc) (by omega) (fun z => (hb z).1.2.2.1)
  obtain ⟨q4, f4, hq4⟩ := r_carry hq3 (v := tn) (by omega) (fun z => (hb z).1.2.2.2.1)
  obtain ⟨q5, f5, hq5⟩ := r_carry hq4 (v := tk) (by omega) (fun z => (hb z).1.2.2.2.2)
  have kr : ∀ (o n : Nat) (f : Nat → Int32), (b = true → ∀ i, i < n → f i = T (o + 5 * i)) → kR b T o n 0 f := fun o n f h i hi hh => h (hh.resolve_left (by omega)) i hi
  obtain ⟨wm', sh', ki', fi', ac', wy', cr', se', sl', on', hs', hn', q', qw', f6, g⟩ := r_airsA (b := b) (T := T) (W := W) (q0 := q0) (wm := wm) (sh := sh) (qw := qw) (se := se) (sl := sl) (on := on) (hs := hs) (hn := hn) (t0 := T 0) (t1 := T 1) (t2 := T 2) (t3 := T 3) (t4 := T 4) (fun z c hc36 => ⟨((hb z).2.2.2.2 c hc36).1, ((hb z).2.2.2.2 c hc36).2.1⟩) (fun z c hc36 => (hf z).2 c hc36) ⟨kr _ _ _ (fun z i hi => ((hb z).2.2.1 i hi).1), kr _ _ _ (fun z i hi => ((hb z).2.2.1 i hi).2.1), kr _ _ _ (fun z i hi => ((hb z).2.2.1 i hi).2.2.1), kr _ _ _ (fun z i hi => ((hb z).2.2.1 i hi).2.2.2.1), kr _ _ _ (fun z i hi => ((hb z).2.2.1 i hi).2.2.2.2)⟩ 5 0 4096 ki fi ac wy cr q5 (by omega) (by omega) hq5 (kr _ _ _ (fun z i hi => ((hb z).2.1 i hi).1)) (kr _ _ _ (fun z i hi => ((hb z).2.1 i hi).2.1)) (kr _ _ _ (fun z i hi => ((hb z).2.1 i hi).2.2.1)) (kr _ _ _ (fun z i hi => ((hb z).2.1 i hi).2.2.2.1)) (kr _ _ _ (fun z i hi => ((hb z).2.1 i hi).2.2.2.2))
  refine ⟨wm', sh', ki', fi', ac', wy', cr', se', sl', on', hs', hn', q', qw', ?_, g⟩
  have hz : dq_z (nB b) := by cases b <;> unfold dq_z nB <;> decide
  unfold f_X7_carryAll
  rw [dq_gd_pos hz, show (0 : Int32) = nI 0 from nI_0.symm, dq_bd3_s f1, dq_bd3_s f2, dq_bd3_s f3, dq_bd3_s f4, dq_bd3_s f5]
  exact f6
end PCA
