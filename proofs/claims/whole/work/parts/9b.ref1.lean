/-! THE REFERENCE'S HOUSE, in the abstract house's words -/
def nB (b : Bool) : Int32 := if b = true then 1 else 0
theorem nB_1 {b : Bool} : nB b = 1 ↔ b = true := by cases b <;> decide
theorem nB_0 {b : Bool} : nB b = 0 ↔ ¬ b = true := by cases b <;> decide
/-- a step's number as the reference keeps it -/
def hN (h : AH) (i : Nat) : Nat := if aHs h i = 6 then 0 else aHn h i
def HR (h : AH) (ai si hc tn tk : Int32) (wm : Nat → UInt32) (sh ki fi ac wy cr se sl on hs hn : Nat → Int32) : Prop :=
  (ai = nI (aA h) ∧ si = nI (aS h) ∧ hc = nI (aHc h) ∧ tn = nI (aTn h) ∧ tk = nI (aTk h)) ∧
  (∀ i, i < aA h → ki i = nI (aKd h i) ∧ fi i = nI (aFg h i) ∧ ac i = nI (aAc h i) ∧ wy i = nI (aWy h i) ∧ cr i = nB (aCr h i)) ∧ (∀ i, i < aS h → se i = nI (aSt h i) ∧ sl i = nI (aSh h i) ∧ on i = nB (aOn h i)) ∧ (∀ i, i < aHc h → hs i = nI (aHs h i) ∧ hn i = nI (hN h i)) ∧ (∀ c, c < 36 → sh c = nB (aSd h c)) ∧ (∀ c, c < 36 → wm c = aWm h c)
theorem r_stepped : f_X7_stepped = f_X1_stepped := by
  funext a b c
  rfl
theorem r_held : f_X7_heldWarm = f_X1_held := by
  funext a
  rfl
theorem r_gust : f_X7_gustOf = f_X0_gust := by
  funext a
  rfl
theorem r_sigh (a : Int32) (b : UInt32) : f_X7_sighOf b a = f_X0_sigh a b := rfl
theorem nI_dn (k : Nat) : nI (k + 1) + (-1 : Int32) = nI k := by
  rw [← nI_1 k, Int32.add_assoc, show (1 : Int32) + (-1) = 0 from rfl, Int32.add_zero]
theorem nI_dn' (k : Nat) : nI k - (1 : Int32) = nI k + (-1 : Int32) := Int32.sub_eq_add_neg ..
/-- the least match at or above k, as a number -/
def rP (p : Nat → Bool) (A k : Nat) (x : Int32) : Prop := (x = -9 ∧ ∀ b, k ≤ b → b < A → p b = false) ∨ ∃ a, k ≤ a ∧ a < A ∧ x = nI a ∧ p a = true ∧ ∀ b, k ≤ b → b < a → p b = false
theorem rP_0 {p : Nat → Bool} {A : Nat} {x : Int32} (h : rP p A 0 x) : x = eN (-9) (fM p A) := by
  rcases h with ⟨h1, h2⟩ | ⟨a, -, h2, h3, h4, h5⟩
  · rw [fM_none.mpr (fun b hb => h2 b (Nat.zero_le _) hb)]
    exact h1
  · rw [fM_some.mpr ⟨h2, h4, fun b hb => h5 b (Nat.zero_le _) hb⟩]
    exact h3
theorem rP_s {p : Nat → Bool} {A k : Nat} (hk : k < A) (hp : p k = true) : rP p A k (nI k) := Or.inr ⟨k, Nat.le_refl _, hk, rfl, hp, fun b h1 h2 => absurd h1 (by omega)⟩
theorem rP_n {p : Nat → Bool} {A k : Nat} {x : Int32} (hp : p k = false) (h : rP p A (k + 1) x) : rP p A k x := by
  rcases h with ⟨h1, h2⟩ | ⟨a, h1, h2, h3, h4, h5⟩
  · refine Or.inl ⟨h1, fun b hb hb2 => ?_⟩
    by_cases q : b = k
    · subst q; exact hp
    · exact h2 b (by omega) hb2
  · refine Or.inr ⟨a, by omega, h2, h3, h4, fun b hb hb2 => ?_⟩
    by_cases q : b = k
    · subst q; exact hp
    · exact h5 b (by omega) hb2
theorem rP_z (p : Nat → Bool) (A : Nat) : rP p A A (-9) := Or.inl ⟨rfl, fun b h1 h2 => absurd h1 (by omega)⟩
section PR
variable {h : AH} {ai si hc tn tk : Int32} {wm : Nat → UInt32} {sh ki fi ac wy cr se sl on hs hn : Nat → Int32}
theorem r_airOn_loop {A c : Nat} {ap : Nat → Nat} (hA : A ≤ 5) (he : ∀ i, i < A → ac i = nI (ap i)) (hr : ∀ i, i < A → ap i < 36) (hc : c < 36) : ∀ (k m : Nat) (x : Int32), k ≤ A → k < m → rP (fun i => ap i == c) A k x → f_X7_airOn_b10 (nI c) ac m x (nI k + (-1)) = some (eN (-9) (fM (fun i => ap i == c) A))
  | k, 0, _, _, q, _ => absurd q (by omega)
  | 0, m + 1, x, _, _, hx => by
    rw [f_X7_airOn_b10, dq_if_pos (by rw [nI_0]; decide), rP_0 hx]
  | k + 1, m + 1, x, hk, hm, hx => by
    rw [nI_dn, f_X7_airOn_b10, dq_if_neg (nI_pos (by omega)), dq_gd_pos (vp_in_nI (by omega) (by omega)), nI_clamp (by omega), he k (by omega)]
    by_cases q : ap k = c
    · rw [dq_if_pos (by rw [q])]
      exact r_airOn_loop hA he hr hc k m (nI k) (by omega) (by omega) (rP_s (by omega) (by simpa using q))
    · rw [dq_if_neg (fun z => q ((nI_eq (by have := hr k (by omega); omega) (by omega)).mp z))]
      exact r_airOn_loop hA he hr hc k m x (by omega) (by omega) (rP_n (by simpa using q) hx)
theorem r_airOn (V : aV h) (E : HR h ai si hc tn tk wm sh ki fi ac wy cr se sl on hs hn) {c : Nat} (hc36 : c < 36) : f_X7_airOn ai ac (nI c) = some (eN (-9) (airAt h c)) := by
  have hA := V.1.1
  unfold f_X7_airOn
  simp only [dq_let]
  rw [E.1.1, nI_dn']
  exact r_airOn_loop hA (fun i hi => (E.2.1 i hi).2.2.1) (fun i hi => (V.2.1 i hi).2.2.1) hc36 (aA h) 4096 (-9) (Nat.le_refl _) (by omega) (rP_z _ _)
theorem r_sitterOn_loop {S c : Nat} {st : Nat → Nat} {p : Nat → Bool} (hS : S ≤ 6) (he : ∀ i, i < S → se i = nI (st i) ∧ on i = nB (p i)) (hr : ∀ i, i < S → st i < 36) (hc : c < 36) : ∀ (k m : Nat) (x : Int32), k ≤ S → k < m → rP (fun i => st i == c && p i) S k x → f_X7_sitterOn_b10 (nI c) se on m x (nI k + (-1)) = some (eN (-9) (fM (fun i => st i == c && p i) S))
  | k, 0, _, _, q, _ => absurd q (by omega)
  | 0, m + 1, x, _, _, hx => by
    rw [f_X7_sitterOn_b10, dq_if_pos (by rw [nI_0]; decide), rP_0 hx]
  | k + 1, m + 1, x, hk, hm, hx => by
    have hi : vp_in (nI k) 6 := vp_in_nI (by omega) (by omega)
    rw [nI_dn, f_X7_sitterOn_b10, dq_if_neg (nI_pos (by omega)), dq_gd_pos hi, nI_clamp (by omega), (he k (by omega)).1]
    by_cases q : st k = c
    · rw [dq_if_pos (by rw [q]), dq_gd_pos hi, (he k (by omega)).2]
      by_cases z : p k = true
      · rw [dq_if_pos (nB_1.mpr z)]
        exact r_sitterOn_loop hS he hr hc k m (nI k) (by omega) (by omega) (rP_s (by omega) (by simp [q, z]))
      · rw [dq_if_neg (fun w => z (nB_1.mp w))]
        exact r_sitterOn_loop hS he hr hc k m x (by omega) (by omega) (rP_n (by simp [q]; simpa using z) hx)
    · rw [dq_if_neg (fun z => q ((nI_eq (by have := hr k (by omega); omega) (by omega)).mp z))]
      exact r_sitterOn_loop hS he hr hc k m x (by omega) (by omega) (rP_n (by simp [q]) hx)
theorem r_sitterOn (V : aV h) (E : HR h ai si hc tn tk wm sh ki fi ac wy cr se sl on hs hn) {c : Nat} (hc36 : c < 36) : f_X7_sitterOn si se on (nI c) = some (eN (-9) (sitAt h c)) := by
  have hS := V.1.2.1
  unfold f_X7_sitterOn
  simp only [dq_let]
  rw [E.1.2.1, nI_dn']
  exact r_sitterOn_loop hS (fun i hi => ⟨(E.2.2.1 i hi).1, (E.2.2.1 i hi).2.2⟩) (fun i hi => (V.2.2.1 i hi).1) hc36 (aS h) 4096 (-9) (Nat.le_refl _) (by omega) (rP_z _ _)
theorem eN_p {o : Option Nat} (h : ∀ a, o = some a → a < 36) : 0 ≤ eN (-9) o ↔ o.isSome = true := by
  cases o with
  | none => simp [eN]
  | some a =>
    simp only [eN, Option.isSome_some, iff_true]
    exact nI_pos' (by have := h a rfl; omega)
theorem r_isEmpty (V : aV h) (E : HR h ai si hc tn tk wm sh ki fi ac wy cr se sl on hs hn) {c : Nat} (hc36 : c < 36) : f_X7_isEmpty ai si ac se on (nI c) = some (nB (!takenS h c)) := by
  unfold f_X7_isEmpty takenS
  rw [dq_bd_s (r_airOn V E hc36)]
  by_cases q : (airAt h c).isSome = true
  · rw [dq_if_pos ((eN_p (fun a z => airAt_lt V z)).mpr q), q]
    rfl
  · rw [dq_if_neg (fun z => q ((eN_p (fun a z => airAt_lt V z)).mp z)), dq_bd_s (r_sitterOn V E hc36)]
    simp only [Bool.not_eq_true] at q
    rw [q]
    by_cases q2 : (sitAt h c).isSome = true
    · rw [dq_if_pos ((eN_p (fun a z => sitAt_lt V z)).mpr q2), q2]
      rfl
    · rw [dq_if_neg (fun z => q2 ((eN_p (fun a z => sitAt_lt V z)).mp z))]
      simp only [Bool.not_eq_true] at q2
      rw [q2]
      rfl
theorem freeS_eq (h : AH) (c : Nat) : freeS h c = (!aSd h c && !takenS h c) := by
  unfold freeS takenS
  cases aSd h c <;> cases airAt h c <;> cases sitAt h c <;> rfl
theorem r_isFree (V : aV h) (E : HR h ai si hc tn tk wm sh ki fi ac wy cr se sl on hs hn) {c : Nat} (hc36 : c < 36) : f_X7_isFree ai si sh ac se on (nI c) = some (nB (freeS h c)) := by
  unfold f_X7_isFree
  rw [dq_gd_pos (vp_in_nI hc36 (by omega)), nI_clamp (by omega), E.2.2.2.2.1 c hc36, freeS_eq]
  by_cases q : aSd h c = true
  · rw [dq_if_neg (fun z => nB_0.mp z q), q]
    rfl
  · rw [dq_if_pos (nB_0.mpr q), dq_bd_s (r_isEmpty V E hc36)]
    simp only [Bool.not_eq_true] at q
    rw [q]
    cases takenS h c <;> simp [nB, dq_if_ite]
/-- two cells on -/
def nx2 (c w : Nat) : Option Nat := match nxt c w with
  | none => none
  | some o => nxt o w
theorem away_dec : ∀ (c : Fin 36) (w : Fin 4), f_X7_awayOf (nI c.val) (nI w.val) 1 = some (eN (-1) (nxt c.val w.val)) ∧ f_X7_awayOf (nI c.val) (nI w.val) 2 = some (eN (-1) (nx2 c.val w.val)) := by
  unfold f_X7_awayOf f_X7_awayOf_b20 f_X7_awayOf_b37 f_X7_in
  simp only [dq_let, dq_if_ite, dq_bd]
  decide +kernel
theorem away1 {c w : Nat} (hc : c < 36) (hw : w < 4) : f_X7_awayOf (nI c) (nI w) 1 = some (eN (-1) (nxt c w)) := (away_dec ⟨c, hc⟩ ⟨w, hw⟩).1
theorem away2 {c w : Nat} (hc : c < 36) (hw : w < 4) : f_X7_awayOf (nI c) (nI w) 2 = some (eN (-1) (nx2 c w)) := (away_dec ⟨c, hc⟩ ⟨w, hw⟩).2
theorem r_leaps_dec : ∀ (k : Fin 8) (f : Fin 10), f_X7_leapsOf (fun _ => nI k.val) (fun _ => nI f.val) 0 = some (nI (leapsS k.val f.val)) := by
  unfold f_X7_leapsOf f_X7_held
  simp only [dq_let, dq_if_ite, dq_gd_ite, dq_bd, vp_in]
  decide +kernel
theorem r_leapsOf {a kd fg : Nat} (ha : a < 5) (e1 : ki a = nI kd) (e2 : fi a = nI fg) (hk : kd < 8) (hf : fg ≤ 9) : f_X7_leapsOf ki fi (nI a) = some (nI (leapsS kd fg)) := by
  have h5 : vp_in (nI a) 5 := vp_in_nI ha (by omega)
  have h0 : vp_in (0 : Int32) 5 := by unfold vp_in; decide
  have := r_leaps_dec ⟨kd, hk⟩ ⟨fg, by omega⟩
  unfold f_X7_leapsOf at *
  rw [dq_gd_pos h0] at this
  rw [dq_gd_pos h5]
  simp only [dq_let] at *
  rw [dq_gd_pos h0] at this
  rw [dq_gd_pos h5, nI_clamp (by omega), e1, e2]
  exact this
theorem par_t1 {tn : Nat} : tn % 2 = 0 ∨ tn % 2 = 1 := by omega
theorem r_chilled {kd fg t : Nat} {w : UInt32} (hw : fB 134 w) (hk : kd < 8) (hf : fg ≤ 9) (ht : t < 2 ^ 30) : f_X7_chilled (nI t) (nI kd) (nI fg) w = some (chillF kd fg t w) := by
  have g1 := gust_b hw (by omega) (by omega)
  have g2 := gust_b g1.2 (by omega) (by omega)
  have e1 : f_X7_gustOf w = some (gustF w) := by rw [r_gust]; exact gust_ok hw (by omega) (by omega)
  have e2 : f_X7_gustOf (gustF w) = some (gustF (gustF w)) := by rw [r_gust]; exact gust_ok g1.2 (by omega) (by omega)
  have s2 : f_X7_sighOf w (nI fg) = some (sighF fg w) := by rw [r_sigh]; exact sigh_ok hw hf
  have l1 := flue_b hw hf
  have n1 : vf_n32 (FP.fdiv w (FP.i2f (nI (fg + 1)))) := l1.n (by omega)
  unfold f_X7_chilled
  rw [dq_bd_s e1, dq_bd_s e2, dq_bd_s s2, show nI fg + (1 : Int32) = nI (fg + 1) from nI_1 fg, dq_gd_pos n1]
  simp only [dq_let]
  rw [show FP.fdiv w (FP.i2f (nI (fg + 1))) = flueF fg w from rfl]
  rcases (show kd = 0 ∨ kd = 1 ∨ kd = 2 ∨ kd = 3 ∨ kd = 4 ∨ kd = 5 ∨ kd = 6 ∨ kd = 7 by omega) with rfl | rfl | rfl | rfl | rfl | rfl | rfl | rfl
  · iterate 7 rw [dq_if_neg (by decide)]
    rw [dq_gd_pos (g1.1.n (by omega))]
    rfl
  · rw [dq_if_pos (by decide), dq_bd_s e1]
    rfl
  · rw [dq_if_neg (by decide), dq_if_pos (by decide)]
    rfl
  · iterate 2 rw [dq_if_neg (by decide)]
    rw [dq_if_pos (by decide)]
    rfl
  · iterate 3 rw [dq_if_neg (by decide)]
    rw [dq_if_pos (by decide)]
    rfl
  · iterate 4 rw [dq_if_neg (by decide)]
    rw [dq_if_pos (by decide)]
    rfl
  · have a3 : fB 145 (FP.fsub (gustF (gustF w)) FP.fconst1) := fB_sub (K := 140) (g2.2.mono (by omega)) (by unfold fB; decide) (by omega) (by omega)
    iterate 5 rw [dq_if_neg (by decide)]
    rw [dq_if_pos (by decide), par_t ht]
    show dq_if _ _ _ = some (if t % 2 = 0 then gustF (gustF w) else FP.fsub (gustF (gustF w)) FP.fconst1)
    rcases par_t1 (tn := t) with q | q
    · rw [if_pos q, q, dq_if_neg (by decide)]
    · rw [if_neg (by omega), q, dq_if_pos (by decide), dq_gd_pos (a3.n (by omega))]
  · have b1 : fB 140 (FP.fmul w 1056964608) := fB_mul hw c50 (by omega) (by omega) (by omega)
    have b2 : fB 145 (FP.fmul (flueF fg w) 1056964608) := fB_mul l1 c50 (by omega) (by omega) (by omega)
    have b3 : fB 150 (FP.fadd (FP.fmul w 1056964608) (FP.fmul (flueF fg w) 1056964608)) := fB_add (b1.mono (L := 145) (by omega)) b2 (by omega) (by omega)
    iterate 6 rw [dq_if_neg (by decide)]
    rw [dq_if_pos (by decide), dq_gd_pos (b1.n (by omega)), dq_gd_pos (b2.n (by omega)), dq_gd_pos (b3.n (by omega))]
    rfl
end PR
