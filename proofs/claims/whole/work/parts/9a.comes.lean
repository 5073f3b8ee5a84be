/-! a house taken; who comes; what is shut -/
theorem cpy_s {α : Type} {f g : Nat → α} {n : Int32} {k N : Nat} (hN : n.toNatClampNeg = N) (hk : k < N) : va_cpy f g (0 : Int32).toNatClampNeg (0 : Int32).toNatClampNeg n.toNatClampNeg k = f k := by
  unfold va_cpy
  rw [show (0 : Int32).toNatClampNeg = 0 from rfl, hN, if_pos (by omega)]
  congr 1
  omega
section PC
variable {h : AH} {sb : Int64} {ai cb si ob tn tk hc : Int32} {wm : Nat → UInt32} {ki fi ac wy se sl hs hn : Nat → Int32}
theorem c_take (V : aV h) (E : HC h sb ai cb si ob tn tk wm ki fi ac wy se sl hc hs hn) (wm0 : Nat → UInt32) (ki0 fi0 ac0 wy0 se0 sl0 hs0 hn0 : Nat → Int32) : ∃ (wm' : Nat → UInt32) (ki' fi' ac' wy' se' sl' hs' hn' : Nat → Int32), f_X2_take wm0 ki0 fi0 ac0 wy0 se0 sl0 hs0 hn0 sb ai cb si ob tn tk wm ki fi ac wy se sl hc hs hn = some (sb, ai, cb, si, ob, tn, tk, wm', ki', fi', ac', wy', se', sl', hc, hs', hn') ∧ HC h sb ai cb si ob tn tk wm' ki' fi' ac' wy' se' sl' hc hs' hn' := by
  obtain ⟨⟨v1, v2, v3, -, -⟩, -⟩ := V
  obtain ⟨E1, E2, E3, E4, E5, E6⟩ := E
  refine ⟨_, _, _, _, _, _, _, _, _, rfl, E1, E2, fun i hi => ?_, fun i hi => ?_, fun i hi => ?_, fun c hc36 => ?_⟩
  · obtain ⟨a1, a2, a3, a4⟩ := E3 i hi
    exact ⟨(cpy_s (N := 5) rfl (by omega)).trans a1, (cpy_s (N := 5) rfl (by omega)).trans a2, (cpy_s (N := 5) rfl (by omega)).trans a3, (cpy_s (N := 5) rfl (by omega)).trans a4⟩
  · obtain ⟨a1, a2⟩ := E4 i hi
    exact ⟨(cpy_s (N := 6) rfl (by omega)).trans a1, (cpy_s (N := 6) rfl (by omega)).trans a2⟩
  · obtain ⟨a1, a2⟩ := E5 i hi
    exact ⟨(cpy_s (N := 6) rfl (by omega)).trans a1, (cpy_s (N := 6) rfl (by omega)).trans a2⟩
  · exact (cpy_s (N := 36) rfl hc36).trans (E6 c hc36)
/-- a new air, a new sitter -/
def addAirS (h : AH) (kd fg c w : Nat) : AH := ((aA h + 1, h.1.2), (up (aKd h) (aA h) kd, up (aFg h) (aA h) fg, up (aAc h) (aA h) c, up (aWy h) (aA h) w, up (aCr h) (aA h) false), h.2.2)
def addSitS (h : AH) (c n : Nat) : AH := ((aA h, aS h + 1, h.1.2.2), h.2.1, (up (aSt h) (aS h) c, up (aSh h) (aS h) n, up (aOn h) (aS h) true), h.2.2.2)
def toggleS (h : AH) (c : Nat) : AH := (h.1, h.2.1, h.2.2.1, h.2.2.2.1, (up (aSd h) c (!aSd h c), aWm h))
def takenS (h : AH) (c : Nat) : Bool := (airAt h c).isSome || (sitAt h c).isSome
def addStepS (h : AH) (st n : Nat) : AH := ((aA h, aS h, aHc h + 1, aTn h, aTk h), h.2.1, h.2.2.1, (up (aHs h) (aHc h) st, up (aHn h) (aHc h) n), h.2.2.2.2)
theorem addAirS_V (V : aV h) (hA : aA h < 5) {kd fg c w : Nat} (hk : kd < 8) (hf : fg ≤ 9) (hc : c < 36) (hw : w < 4) : aV (addAirS h kd fg c w) := by
  obtain ⟨v1, v2, v3⟩ := V
  refine ⟨⟨hA, v1.2⟩, fun i hi => ?_, v3⟩
  show up (aKd h) (aA h) kd i < 8 ∧ up (aFg h) (aA h) fg i ≤ 9 ∧ up (aAc h) (aA h) c i < 36 ∧ up (aWy h) (aA h) w i < 4
  by_cases q : i = aA h
  · subst q
    rw [up_s, up_s, up_s, up_s]
    exact ⟨hk, hf, hc, hw⟩
  · rw [up_n q, up_n q, up_n q, up_n q]
    exact v2 i (by have : i < aA h + 1 := hi; omega)
theorem addSitS_V (V : aV h) (hS : aS h < 6) {c n : Nat} (hc : c < 36) (hn : n ≤ 9) : aV (addSitS h c n) := by
  obtain ⟨v1, v2, v3, v4⟩ := V
  refine ⟨⟨v1.1, hS, v1.2.2⟩, v2, fun i hi => ?_, v4⟩
  show up (aSt h) (aS h) c i < 36 ∧ up (aSh h) (aS h) n i ≤ 9
  by_cases q : i = aS h
  · subst q
    rw [up_s, up_s]
    exact ⟨hc, hn⟩
  · rw [up_n q, up_n q]
    exact v3 i (by have : i < aS h + 1 := hi; omega)
theorem addStepS_V (V : aV h) (hH : aHc h < 6) {st n : Nat} (hs : st < 7) (hn : n ≤ 99) : aV (addStepS h st n) := by
  obtain ⟨v1, v2, v3, v4, v5⟩ := V
  refine ⟨⟨v1.1, v1.2.1, hH, v1.2.2.2⟩, v2, v3, fun i hi => ?_, v5⟩
  show up (aHs h) (aHc h) st i < 7 ∧ up (aHn h) (aHc h) n i ≤ 99
  by_cases q : i = aHc h
  · subst q
    rw [up_s, up_s]
    exact ⟨hs, hn⟩
  · rw [up_n q, up_n q]
    exact v4 i (by have : i < aHc h + 1 := hi; omega)
theorem bN_up (p : Nat → Bool) (n : Nat) : bN (up p n false) (n + 1) = bN p n := by
  show bN (up p n false) n + (if up p n false n = true then 2 ^ n else 0) = bN p n
  rw [up_s, if_neg (by decide), Nat.add_zero]
  exact bN_ext (fun i hi => up_n (by omega))
theorem upup {α : Type} {f : Nat → α} {k : Nat} {u v : α} : up (up f k u) k v = up f k v := by
  funext j
  unfold up
  split <;> rfl
theorem c_isTaken (V : aV h) (E : HC h sb ai cb si ob tn tk wm ki fi ac wy se sl hc hs hn) {c : Nat} (hc36 : c < 36) : f_X2_isTaken ai si ob ac se (nI c) = some (if takenS h c = true then 1 else 0) := by
  unfold f_X2_isTaken
  rw [dq_bd_s (c_airOn V E hc36)]
  unfold takenS
  by_cases h2 : (airAt h c).isNone = true
  · rw [dq_if_pos ((eN_9 (fun a q => airAt_lt V q)).mpr h2), dq_bd_s (c_sitterOn V E hc36)]
    have e2 : (airAt h c).isSome = false := by cases q : airAt h c <;> simp_all
    rw [e2]
    by_cases h3 : (sitAt h c).isNone = true
    · have e3 : (sitAt h c).isSome = false := by cases q : sitAt h c <;> simp_all
      rw [dq_if_pos ((eN_9 (fun a q => sitAt_lt V q)).mpr h3), e3]
      rfl
    · have e3 : (sitAt h c).isSome = true := by cases q : sitAt h c <;> simp_all
      rw [dq_if_neg (fun q => h3 ((eN_9 (fun a q => sitAt_lt V q)).mp q)), e3]
      rfl
  · have e2 : (airAt h c).isSome = true := by cases q : airAt h c <;> simp_all
    rw [dq_if_neg (fun q => h2 ((eN_9 (fun a q => airAt_lt V q)).mp q)), e2]
    rfl
theorem c_addAir (V : aV h) (E : HC h sb ai cb si ob tn tk wm ki fi ac wy se sl hc hs hn) {kd fg c w : Nat} (hc36 : c < 36) : ∃ (ai' : Int32) (ki' fi' ac' wy' : Nat → Int32), f_X2_addAir sb ai si ob ki fi ac wy se (nI kd) (nI fg) (nI c) (nI w) = some (if aA h < 5 ∧ freeS h c = true then 1 else 0, ai', ki', fi', ac', wy') ∧ HC (if aA h < 5 ∧ freeS h c = true then addAirS h kd fg c w else h) sb ai' cb si ob tn tk wm ki' fi' ac' wy' se sl hc hs hn := by
  have hA := V.1.1
  unfold f_X2_addAir
  by_cases q : aA h < 5
  · rw [dq_if_neg (by rw [E.1.1, show (5 : Int32) = nI 5 from rfl]; exact nI_ge q (by omega)), dq_bd_s (c_isFree V E hc36)]
    by_cases q2 : freeS h c = true
    · have hi5 : vp_in ai 5 := by rw [E.1.1]; exact vp_in_nI q (by omega)
      have hcl : ai.toNatClampNeg = aA h := by rw [E.1.1]; exact nI_clamp (by omega)
      rw [if_pos q2, dq_if_neg (by decide), dq_gd_pos hi5]
      simp only [dq_let]
      rw [dq_gd_pos hi5, dq_gd_pos hi5, dq_gd_pos hi5, if_pos ⟨q, q2⟩, if_pos ⟨q, q2⟩]
      refine ⟨_, _, _, _, _, rfl, ⟨?_, E.1.2⟩, ⟨?_, E.2.1.2⟩, fun i hi => ?_, E.2.2.2⟩
      · rw [E.1.1]
        exact nI_1 _
      · show cb = nI (bN (up (aCr h) (aA h) false) (aA h + 1))
        rw [bN_up, E.2.1.1]
      · rw [hcl]
        show upd ki (aA h) (nI kd) i = nI (up (aKd h) (aA h) kd i) ∧ upd fi (aA h) (nI fg) i = nI (up (aFg h) (aA h) fg i) ∧ upd ac (aA h) (nI c) i = nI (up (aAc h) (aA h) c i) ∧ upd wy (aA h) (nI w) i = nI (up (aWy h) (aA h) w i)
        by_cases z : i = aA h
        · subst z
          rw [pk_us, pk_us, pk_us, pk_us, up_s, up_s, up_s, up_s]
          exact ⟨rfl, rfl, rfl, rfl⟩
        · rw [pk_un z, pk_un z, pk_un z, pk_un z, up_n z, up_n z, up_n z, up_n z]
          exact E.2.2.1 i (by have : i < aA h + 1 := hi; omega)
    · rw [if_neg q2, dq_if_pos rfl, if_neg (fun z => q2 z.2), if_neg (fun z => q2 z.2)]
      exact ⟨ai, ki, fi, ac, wy, rfl, E⟩
  · rw [dq_if_pos (by rw [E.1.1, show (5 : Int32) = nI 5 from rfl]; exact nI_le (by omega) (by omega)), if_neg (fun z => q z.1), if_neg (fun z => q z.1)]
    exact ⟨ai, ki, fi, ac, wy, rfl, E⟩
theorem c_addSitter (V : aV h) (E : HC h sb ai cb si ob tn tk wm ki fi ac wy se sl hc hs hn) {c n : Nat} (hc36 : c < 36) : ∃ (si' ob' : Int32) (se' sl' : Nat → Int32), f_X2_addSitter sb ai si ob ac se sl (nI c) (nI n) = some (if aS h < 6 ∧ freeS h c = true then 1 else 0, si', ob', se', sl') ∧ HC (if aS h < 6 ∧ freeS h c = true then addSitS h c n else h) sb ai cb si' ob' tn tk wm ki fi ac wy se' sl' hc hs hn := by
  have hS := V.1.2.1
  unfold f_X2_addSitter
  by_cases q : aS h < 6
  · rw [dq_if_neg (by rw [E.1.2.1, show (6 : Int32) = nI 6 from rfl]; exact nI_ge q (by omega)), dq_bd_s (c_isFree V E hc36)]
    by_cases q2 : freeS h c = true
    · have hi6 : vp_in si 6 := by rw [E.1.2.1]; exact vp_in_nI q (by omega)
      have hcl : si.toNatClampNeg = aS h := by rw [E.1.2.1]; exact nI_clamp (by omega)
      rw [if_pos q2, dq_if_neg (by decide), dq_gd_pos hi6]
      simp only [dq_let]
      rw [dq_gd_pos hi6, if_pos ⟨q, q2⟩, if_pos ⟨q, q2⟩]
      refine ⟨_, _, _, _, rfl, ⟨E.1.1, ?_, E.1.2.2⟩, ⟨E.2.1.1, ?_, E.2.1.2.2⟩, E.2.2.1, fun i hi => ?_, E.2.2.2.2⟩
      · rw [E.1.2.1]
        exact nI_1 _
      · show (ob ||| (1 : Int32) <<< (si &&& 31)) = nI (bN (up (aOn h) (aS h) true) (aS h + 1))
        rw [E.2.1.2.1, E.1.2.1, ← bN_up, bits_set (by omega) (by omega), upup]
      · rw [hcl]
        show upd se (aS h) (nI c) i = nI (up (aSt h) (aS h) c i) ∧ upd sl (aS h) (nI n) i = nI (up (aSh h) (aS h) n i)
        by_cases z : i = aS h
        · subst z
          rw [pk_us, pk_us, up_s, up_s]
          exact ⟨rfl, rfl⟩
        · rw [pk_un z, pk_un z, up_n z, up_n z]
          exact E.2.2.2.1 i (by have : i < aS h + 1 := hi; omega)
    · rw [if_neg q2, dq_if_pos rfl, if_neg (fun z => q2 z.2), if_neg (fun z => q2 z.2)]
      exact ⟨si, ob, se, sl, rfl, E⟩
  · rw [dq_if_pos (by rw [E.1.2.1, show (6 : Int32) = nI 6 from rfl]; exact nI_le (by omega) (by omega)), if_neg (fun z => q z.1), if_neg (fun z => q z.1)]
    exact ⟨si, ob, se, sl, rfl, E⟩
theorem wb_xor {a b : Nat} (ha : a < 2 ^ 64) (hb : b < 2 ^ 64) : lN a ^^^ lN b = lN (a ^^^ b) := by
  apply wb_inj
  rw [Int64.toBitVec_xor, wb_tb, wb_tb, wb_tb]
  apply BitVec.eq_of_toNat_eq
  rw [BitVec.toNat_xor, BitVec.toNat_ofNat, BitVec.toNat_ofNat, BitVec.toNat_ofNat, Nat.mod_eq_of_lt ha, Nat.mod_eq_of_lt hb, Nat.mod_eq_of_lt (Nat.xor_lt_two_pow ha hb)]
theorem toggle_b {sd : Nat → Bool} {c : Nat} (hc : c < 36) : bN sd 36 ^^^ 2 ^ c = bN (up sd c (!sd c)) 36 := by
  refine bN_of (Nat.xor_lt_two_pow (bN_lt sd 36) (Nat.pow_lt_pow_right (by decide) hc)) (fun i hi => ?_)
  rw [Nat.testBit_xor, bN_bit sd 36 i hi, Nat.testBit_two_pow]
  by_cases q : i = c
  · subst q
    rw [up_s]
    simp
  · rw [up_n q, decide_eq_false (fun z => q z.symm)]
    simp
theorem c_toggle (E : HC h sb ai cb si ob tn tk wm ki fi ac wy se sl hc hs hn) {c : Nat} (hc36 : c < 36) : ∃ sb' : Int64, f_X2_toggleShut sb (nI c) = some sb' ∧ HC (toggleS h c) sb' ai cb si ob tn tk wm ki fi ac wy se sl hc hs hn := by
  refine ⟨lN (bN (up (aSd h) c (!aSd h c)) 36), ?_, E.1, ⟨E.2.1.1, E.2.1.2.1, rfl⟩, E.2.2⟩
  unfold f_X2_toggleShut
  simp only [dq_let]
  have hb : bN (aSd h) 36 < 2 ^ 64 := Nat.lt_trans (bN_lt _ 36) (by decide)
  have hp : 2 ^ c < 2 ^ 64 := Nat.pow_lt_pow_right (by decide) (by omega)
  rw [E.2.1.2.2, show (1 : Int64) = lN 1 from rfl, wb_shl 1 (by omega), Nat.one_mul, wb_xor hb hp, toggle_b hc36]
theorem c_addStep (V : aV h) (E : HC h sb ai cb si ob tn tk wm ki fi ac wy se sl hc hs hn) (hH : aHc h < 6) {st n : Nat} : ∃ (hc' : Int32) (hs' hn' : Nat → Int32), f_X1_add hc hs hn (nI st) (nI n) = some (hc', hs', hn') ∧ HC (addStepS h st n) sb ai cb si ob tn tk wm ki fi ac wy se sl hc' hs' hn' := by
  have hi6 : vp_in hc 6 := by rw [E.1.2.2.1]; exact vp_in_nI hH (by omega)
  have hcl : hc.toNatClampNeg = aHc h := by rw [E.1.2.2.1]; exact nI_clamp (by omega)
  unfold f_X1_add
  rw [dq_if_neg (by rw [E.1.2.2.1, show (6 : Int32) = nI 6 from rfl]; exact nI_ge hH (by omega)), dq_gd_pos hi6]
  simp only [dq_let]
  rw [dq_gd_pos hi6]
  refine ⟨_, _, _, rfl, ⟨E.1.1, E.1.2.1, ?_, E.1.2.2.2⟩, E.2.1, E.2.2.1, E.2.2.2.1, fun i hi => ?_, E.2.2.2.2.2⟩
  · rw [E.1.2.2.1]
    exact nI_1 _
  · rw [hcl]
    show upd hs (aHc h) (nI st) i = nI (up (aHs h) (aHc h) st i) ∧ upd hn (aHc h) (nI n) i = nI (up (aHn h) (aHc h) n i)
    by_cases z : i = aHc h
    · subst z
      rw [pk_us, pk_us, up_s, up_s]
      exact ⟨rfl, rfl⟩
    · rw [pk_un z, pk_un z, up_n z, up_n z]
      exact E.2.2.2.2.1 i (by have : i < aHc h + 1 := hi; omega)
end PC
