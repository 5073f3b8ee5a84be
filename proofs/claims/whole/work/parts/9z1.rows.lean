/-! two who change places or not -/
theorem Okb19 {A0 A1 A2 A3 A4 A5 A6 A7 A8 A9 A10 A11 A12 A13 A14 A15 A16 A17 A18 α : Type} {x : Option (A0 × A1 × A2 × A3 × A4 × A5 × A6 × A7 × A8 × A9 × A10 × A11 × A12 × A13 × A14 × A15 × A16 × A17 × A18)} {f : A0 → A1 → A2 → A3 → A4 → A5 → A6 → A7 → A8 → A9 → A10 → A11 → A12 → A13 → A14 → A15 → A16 → A17 → A18 → Option α} {Q : α → Prop} {R : (A0 × A1 × A2 × A3 × A4 × A5 × A6 × A7 × A8 × A9 × A10 × A11 × A12 × A13 × A14 × A15 × A16 × A17 × A18) → Prop} (h : Ok x R) (k : ∀ x0 x1 x2 x3 x4 x5 x6 x7 x8 x9 x10 x11 x12 x13 x14 x15 x16 x17 x18, R (x0, x1, x2, x3, x4, x5, x6, x7, x8, x9, x10, x11, x12, x13, x14, x15, x16, x17, x18) → Ok (f x0 x1 x2 x3 x4 x5 x6 x7 x8 x9 x10 x11 x12 x13 x14 x15 x16 x17 x18) Q) : Ok (dq_bd19 x f) Q := by
  obtain ⟨⟨x0, x1, x2, x3, x4, x5, x6, x7, x8, x9, x10, x11, x12, x13, x14, x15, x16, x17, x18⟩, e, r⟩ := h
  exact Ok19 e (k x0 x1 x2 x3 x4 x5 x6 x7 x8 x9 x10 x11 x12 x13 x14 x15 x16 x17 x18 r)
def onN (h : AH) (s : Nat) : Nat := if aOn h s = true then 1 else 0
theorem onN_1 {h : AH} {s : Nat} (y : aOn h s = true) : onN h s = 1 := if_pos y
theorem onN_0 {h : AH} {s : Nat} (y : aOn h s = false) : onN h s = 0 := if_neg (by rw [y]; decide)
theorem onN_B {h : AH} {s : Nat} : nB (aOn h s) = nI (onN h s) := by
  unfold onN
  cases aOn h s <;> rfl
def onL (s : Nat) : Nat → AH → Nat → Nat
  | 0, _, x => x
  | d + 1, h, x => onL s d (turnS h) (x + onN (turnS h) s)
theorem onL_le {s : Nat} : ∀ (d : Nat) (h : AH) (x : Nat), onL s d h x ≤ x + d
  | 0, _, x => Nat.le_refl x
  | d + 1, h, x => by
    have := onL_le (s := s) d (turnS h) (x + onN (turnS h) s)
    have l : onN (turnS h) s ≤ 1 := by unfold onN; split <;> omega
    show onL s d (turnS h) (x + onN (turnS h) s) ≤ x + (d + 1)
    omega
def tw1 (h : AH) (s1 s2 k : Nat) : Nat := min ((if k / 2 = 0 then aSh h s1 else 0) + (if k % 2 = 0 then 0 else aSh h s2)) 9
def tw2 (h : AH) (s1 s2 k : Nat) : Nat := min ((if k % 2 = 0 then aSh h s2 else 0) + (if k / 2 = 0 then 0 else aSh h s1)) 9
def twoH (h : AH) (s1 s2 k : Nat) : AH := wrapS (wrapS h s1 (tw1 h s1 s2 k)) s2 (tw2 h s1 s2 k)
theorem twoH_V {h : AH} (V : aV h) {s1 s2 k : Nat} : aV (twoH h s1 s2 k) := wrapS_V (wrapS_V V (Nat.min_le_right _ _)) (Nat.min_le_right _ _)
def twG1 (h : AH) (s1 s2 n k : Nat) : Nat := onL s1 n (twoH h s1 s2 k) (if k / 2 = 0 then 0 else 2)
def twG2 (h : AH) (s1 s2 n k : Nat) : Nat := onL s2 n (twoH h s1 s2 k) (if k % 2 = 0 then 0 else 2)
theorem twG1_lt {h : AH} {s1 s2 n k : Nat} (hn : n ≤ 30) : twG1 h s1 s2 n k < 2 ^ 20 := by
  have := onL_le (s := s1) n (twoH h s1 s2 k) (if k / 2 = 0 then 0 else 2)
  unfold twG1
  have : (if k / 2 = 0 then 0 else 2) ≤ 2 := by split <;> omega
  omega
theorem twG2_lt {h : AH} {s1 s2 n k : Nat} (hn : n ≤ 30) : twG2 h s1 s2 n k < 2 ^ 20 := by
  have := onL_le (s := s2) n (twoH h s1 s2 k) (if k % 2 = 0 then 0 else 2)
  unfold twG2
  have : (if k % 2 = 0 then 0 else 2) ≤ 2 := by split <;> omega
  omega
def sw2 (k : Nat) : Nat := (k + 2) % 4
def sw1 (k : Nat) : Nat := if k % 2 = 0 then k + 1 else k - 1
theorem sw_c : ∀ k : Fin 4, (nI k.val ^^^ (2 : Int32)) = nI (sw2 k.val) ∧ (nI k.val ^^^ (1 : Int32)) = nI (sw1 k.val) ∧ sw2 k.val < 4 ∧ sw1 k.val < 4 ∧ ((10 : Int32) * (nI k.val >>> ((1 : Int32) &&& 31)) + (nI k.val &&& (1 : Int32))) = nI (10 * (k.val / 2) + k.val % 2) := by decide +kernel
theorem sw_r : ∀ k : Fin 4, ((2 : Int32) * ((1 : Int32) - nI k.val / 2)) + (nI k.val - nI k.val / 2 * 2) = nI (sw2 k.val) ∧ ((2 : Int32) * (nI k.val / 2) + 1) - (nI k.val - nI k.val / 2 * 2) = nI (sw1 k.val) ∧ ((10 : Int32) * (nI k.val / 2) + (nI k.val - nI k.val / 2 * 2)) = nI (10 * (k.val / 2) + k.val % 2) ∧ (2 : Int32) * nI k.val = nI (2 * k.val) ∧ (2 : Int32) * nI (sw2 k.val) = nI (2 * sw2 k.val) ∧ (2 : Int32) * nI (sw1 k.val) = nI (2 * sw1 k.val) := by decide +kernel
def twoS (g1 g2 : Nat → Nat) : Nat → Nat → Int32
  | 0, _ => -9
  | d + 1, k => if g1 k < g1 (sw2 k) then twoS g1 g2 d (k + 1) else if g2 k < g2 (sw1 k) then twoS g1 g2 d (k + 1) else nI (10 * (k / 2) + k % 2)
theorem held9 {x y : Int32} {p q : Nat} (hx : x = nI p) (hy : y = nI q) (hp : p ≤ 9) (hq : q ≤ 9) : (if (9 : Int32) < x + y then (9 : Int32) else x + y) = nI (min (p + q) 9) := by
  subst hx hy
  rw [nI_add]
  by_cases z : 9 < p + q
  · rw [if_pos (show (9 : Int32) < nI (p + q) from nI_lt (a := 9) z (by omega)), show min (p + q) 9 = 9 by omega]
    rfl
  · rw [if_neg (show ¬ (9 : Int32) < nI (p + q) from nI_nlt (a := 9) (by omega) (by omega)), show min (p + q) 9 = p + q by omega]
theorem heldR {x y : Int32} {p q : Nat} (hx : x = nI p) (hy : y = nI q) (hp : p ≤ 9) (hq : q ≤ 9) : f_X7_held (x + y) 9 = some (nI (min (p + q) 9)) := by
  subst hx hy
  rw [nI_add]
  exact r_heldN (hi := 9) (by omega) (by omega)
theorem lc_play {sb : Int64} {ai si hc : Int32} {ki fi se hs hn p1 p2 : Nat → Int32} {s1 s2 n k : Nat} (hk4 : k < 4) (hn30 : n ≤ 30) {Q : (Int64 × Int32 × Int32 × Int32 × Int32 × Int32 × Int32 × (Nat → UInt32) × (Nat → Int32) × (Nat → Int32) × (Nat → Int32) × (Nat → Int32) × (Nat → Int32) × (Nat → Int32) × Int32 × (Nat → Int32) × (Nat → Int32) × (Nat → Int32) × (Nat → Int32)) → Prop} : ∀ (d x m : Nat) (h : AH) (cb ob tn tk : Int32) (wm : Nat → UInt32) (ac wy sl o1 o2 : Nat → Int32) (p r : Nat), x + d = n → d < m → aV h → s1 < aS h → s2 < aS h → aTn h + d < 2 ^ 20 → HC h sb ai cb si ob tn tk wm ki fi ac wy se sl hc hs hn → o1 k = nI p → o2 k = nI r → (∀ i, i ≠ k → o1 i = p1 i ∧ o2 i = p2 i) → (∀ (sb' : Int64) (ai' cb' si' ob' tn' tk' : Int32) (wm' : Nat → UInt32) (ki' fi' ac' wy' se' sl' : Nat → Int32) (hc' : Int32) (hs' hn' : Nat → Int32) (o1' o2' : Nat → Int32), o1' k = nI (onL s1 d h p) → o2' k = nI (onL s2 d h r) → (∀ i, i ≠ k → o1' i = p1 i ∧ o2' i = p2 i) → Q (sb', ai', cb', si', ob', tn', tk', wm', ki', fi', ac', wy', se', sl', hc', hs', hn', o1', o2')) → Ok (f_X6_play_b174 (nI s1) (nI s2) (nI n) (nI k) sb ai si ki fi se hc hs hn m (nI x) cb ob tn tk wm ac wy sl o1 o2) Q
  | d, x, 0, _, _, _, _, _, _, _, _, _, _, _, _, _, _, q, _, _, _, _, _, _, _, _, _ => absurd q (by omega)
  | 0, x, m + 1, h, cb, ob, tn, tk, wm, ac, wy, sl, o1, o2, p, r, hx, _, V, _, _, _, E, e1, e2, e3, K => by
    rw [f_X6_play_b174]
    exact Okp (nI_le (by omega) (by omega)) (Okv (K _ _ _ _ _ _ _ _ _ _ _ _ _ _ _ _ _ o1 o2 e1 e2 e3))
  | d + 1, x, m + 1, h, cb, ob, tn, tk, wm, ac, wy, sl, o1, o2, p, r, hx, hm, V, h1, h2, ht, E, e1, e2, e3, K => by
    have vk : vp_in (nI k) 4 := vp_in_nI (by omega) (by omega)
    have ck : (nI k).toNatClampNeg = k := nI_clamp (by omega)
    obtain ⟨V1, gA, gS, t1⟩ := turnS_V V (by omega)
    have h1' : s1 < aS (turnS h) := by rw [gS]; exact h1
    have h2' : s2 < aS (turnS h) := by rw [gS]; exact h2
    rw [f_X6_play_b174, show (1 : Int32) = nI 1 from rfl]
    refine Okn (nI_ge (by omega) (by omega)) ?_
    refine K_goOn (n := 1) (by omega) V (by omega) E ?_
    intro cb' ob' tn' tk' wm' ac' wy' sl' E2
    have E3 : HC (turnS h) sb ai cb' si ob' tn' tk' wm' ki fi ac' wy' se sl' hc hs hn := E2
    have R3 : ∀ u v : Int32, ∀ i, i ≠ k → upd o1 k u i = p1 i ∧ upd o2 k v i = p2 i := fun u v i hi => by
      rw [pk_un hi, pk_un hi]
      exact e3 i hi
    refine Okg vk ?_
    rw [ck]
    unfold f_X6_play_b212
    refine Okbd (c_isO V1 E3 h1') (fun y1 => ?_) (fun y1 => ?_)
    · refine Okg vk (Okl (Okg vk ?_))
      rw [ck]
      refine Okbd (c_isO V1 E3 h2') (fun y2 => ?_) (fun y2 => ?_)
      · refine Okg vk (Okl (Okl ?_))
        rw [nI_1 x]
        exact lc_play hk4 hn30 d (x + 1) m (turnS h) cb' ob' tn' tk' wm' ac' wy' sl' _ _ (p + onN (turnS h) s1) (r + onN (turnS h) s2) (by omega) (by omega) V1 h1' h2' (by omega) E3 (by rw [pk_us, e1, onN_1 y1]; exact nI_add p 1) (by rw [pk_us, e2, onN_1 y2]; exact nI_add r 1) (R3 _ _) K
      · refine Okg vk (Okl (Okl ?_))
        rw [nI_1 x]
        exact lc_play hk4 hn30 d (x + 1) m (turnS h) cb' ob' tn' tk' wm' ac' wy' sl' _ _ (p + onN (turnS h) s1) (r + onN (turnS h) s2) (by omega) (by omega) V1 h1' h2' (by omega) E3 (by rw [pk_us, e1, onN_1 y1]; exact nI_add p 1) (by rw [pk_us, e2, onN_0 y2]; exact nI_add r 0) (R3 _ _) K
    · refine Okg vk (Okl (Okg vk ?_))
      rw [ck]
      refine Okbd (c_isO V1 E3 h2') (fun y2 => ?_) (fun y2 => ?_)
      · refine Okg vk (Okl (Okl ?_))
        rw [nI_1 x]
        exact lc_play hk4 hn30 d (x + 1) m (turnS h) cb' ob' tn' tk' wm' ac' wy' sl' _ _ (p + onN (turnS h) s1) (r + onN (turnS h) s2) (by omega) (by omega) V1 h1' h2' (by omega) E3 (by rw [pk_us, e1, onN_0 y1]; exact nI_add p 0) (by rw [pk_us, e2, onN_1 y2]; exact nI_add r 1) (R3 _ _) K
      · refine Okg vk (Okl (Okl ?_))
        rw [nI_1 x]
        exact lc_play hk4 hn30 d (x + 1) m (turnS h) cb' ob' tn' tk' wm' ac' wy' sl' _ _ (p + onN (turnS h) s1) (r + onN (turnS h) s2) (by omega) (by omega) V1 h1' h2' (by omega) E3 (by rw [pk_us, e1, onN_0 y1]; exact nI_add p 0) (by rw [pk_us, e2, onN_0 y2]; exact nI_add r 0) (R3 _ _) K
theorem ok_play {h : AH} {sb : Int64} {ai : Int32} {cb : Int32} {si : Int32} {ob : Int32} {tn : Int32} {tk : Int32} {wm : Nat → UInt32} {ki : Nat → Int32} {fi : Nat → Int32} {ac : Nat → Int32} {wy : Nat → Int32} {se : Nat → Int32} {sl : Nat → Int32} {hc : Int32} {hs : Nat → Int32} {hn : Nat → Int32} {wm0 : Nat → UInt32} {ki0 : Nat → Int32} {fi0 : Nat → Int32} {ac0 : Nat → Int32} {wy0 : Nat → Int32} {se0 : Nat → Int32} {sl0 : Nat → Int32} {hs0 : Nat → Int32} {hn0 : Nat → Int32} {o1 o2 : Nat → Int32} {s1 s2 n k : Nat} (hk4 : k < 4) (hn30 : n ≤ 30) (V : aV h) (hs1 : s1 < aS h) (hs2 : s2 < aS h) (ht : aTn h + n < 2 ^ 20) (E : HC h sb ai cb si ob tn tk wm ki fi ac wy se sl hc hs hn) {Q : (Int64 × Int32 × Int32 × Int32 × Int32 × Int32 × Int32 × (Nat → UInt32) × (Nat → Int32) × (Nat → Int32) × (Nat → Int32) × (Nat → Int32) × (Nat → Int32) × (Nat → Int32) × Int32 × (Nat → Int32) × (Nat → Int32) × (Nat → Int32) × (Nat → Int32)) → Prop} (K : ∀ (sb' : Int64) (ai' cb' si' ob' tn' tk' : Int32) (wm' : Nat → UInt32) (ki' fi' ac' wy' se' sl' : Nat → Int32) (hc' : Int32) (hs' hn' : Nat → Int32) (o1' o2' : Nat → Int32), o1' k = nI (twG1 h s1 s2 n k) → o2' k = nI (twG2 h s1 s2 n k) → (∀ i, i ≠ k → o1' i = o1 i ∧ o2' i = o2 i) → Q (sb', ai', cb', si', ob', tn', tk', wm', ki', fi', ac', wy', se', sl', hc', hs', hn', o1', o2')) : Ok (f_X6_play sb ai cb si ob tn tk wm ki fi ac wy se sl hc hs hn wm0 ki0 fi0 ac0 wy0 se0 sl0 hs0 hn0 o1 o2 (nI s1) (nI s2) (nI n) (nI k)) Q := by
  have hS := V.1.2.1
  have v1 : vp_in (nI s1) 6 := vp_in_nI (by omega) (by omega)
  have v2 : vp_in (nI s2) 6 := vp_in_nI (by omega) (by omega)
  have c1 : (nI s1).toNatClampNeg = s1 := nI_clamp (by omega)
  have c2 : (nI s2).toNatClampNeg = s2 := nI_clamp (by omega)
  have vk : vp_in (nI k) 4 := vp_in_nI (by omega) (by omega)
  have ck : (nI k).toNatClampNeg = k := nI_clamp (by omega)
  have e1 := (E.2.2.2.1 s1 hs1).2
  have e2 := (E.2.2.2.1 s2 hs2).2
  have b1 := (V.2.2.1 s1 hs1).2
  have b2 := (V.2.2.1 s2 hs2).2
  rcases (show k = 0 ∨ k = 1 ∨ k = 2 ∨ k = 3 by omega) with rfl | rfl | rfl | rfl
  · unfold f_X6_play
    refine Okn (by decide) ?_
    unfold f_X6_play_b13
    refine Okn (by decide) ?_
    unfold f_X6_play_b28
    refine Okg v1 (Okl (Okg v2 (Okl ?_)))
    rw [c1, c2, e1, e2]
    refine K_take V E ?_
    intro wm' ki' fi' ac' wy' se' sl' hs' hn' E1
    refine Okp (by decide) ?_
    unfold f_X6_play_b82
    refine Okp (by decide) ?_
    unfold f_X6_play_b93
    refine Okl ?_
    rw [held9 (x := nI (aSh h s1)) (y := 0) (p := (aSh h s1)) (q := 0) rfl nI_0.symm b1 (by omega)]
    refine Okg v1 (Okl ?_)
    rw [c1]
    refine Okp (by decide) ?_
    unfold f_X6_play_b119
    refine Okp (by decide) ?_
    unfold f_X6_play_b130
    refine Okl ?_
    rw [held9 (x := nI (aSh h s2)) (y := 0) (p := (aSh h s2)) (q := 0) rfl nI_0.symm b2 (by omega)]
    refine Okg v2 (Okl ?_)
    rw [c2]
    refine Okp (by decide) ?_
    unfold f_X6_play_b153
    refine Okg vk (Okl ?_)
    refine Okp (by decide) ?_
    unfold f_X6_play_b170
    refine Okg vk (Okl ?_)
    rw [ck]
    exact lc_play (k := 0) (p1 := o1) (p2 := o2) (by omega) hn30 n 0 4096 (twoH h s1 s2 0) _ _ _ _ _ _ _ _ _ _ 0 0 (by omega) (by omega) (twoH_V V) hs1 hs2 ht (wrapS_C (wrapS_C E1)) pk_us pk_us (fun i hi => ⟨pk_un hi, pk_un hi⟩) K
  · unfold f_X6_play
    refine Okn (by decide) ?_
    unfold f_X6_play_b13
    refine Okp (by decide) ?_
    unfold f_X6_play_b28
    refine Okg v1 (Okl (Okg v2 (Okl ?_)))
    rw [c1, c2, e1, e2]
    refine K_take V E ?_
    intro wm' ki' fi' ac' wy' se' sl' hs' hn' E1
    refine Okp (by decide) ?_
    unfold f_X6_play_b82
    refine Okn (by decide) ?_
    unfold f_X6_play_b93
    refine Okl ?_
    rw [held9 (x := nI (aSh h s1)) (y := nI (aSh h s2)) (p := (aSh h s1)) (q := (aSh h s2)) rfl rfl b1 b2]
    refine Okg v1 (Okl ?_)
    rw [c1]
    refine Okn (by decide) ?_
    unfold f_X6_play_b119
    refine Okp (by decide) ?_
    unfold f_X6_play_b130
    refine Okl ?_
    rw [held9 (x := 0) (y := 0) (p := 0) (q := 0) nI_0.symm nI_0.symm (by omega) (by omega)]
    refine Okg v2 (Okl ?_)
    rw [c2]
    refine Okp (by decide) ?_
    unfold f_X6_play_b153
    refine Okg vk (Okl ?_)
    refine Okn (by decide) ?_
    unfold f_X6_play_b170
    refine Okg vk (Okl ?_)
    rw [ck]
    exact lc_play (k := 1) (p1 := o1) (p2 := o2) (by omega) hn30 n 0 4096 (twoH h s1 s2 1) _ _ _ _ _ _ _ _ _ _ 0 2 (by omega) (by omega) (twoH_V V) hs1 hs2 ht (wrapS_C (wrapS_C E1)) pk_us pk_us (fun i hi => ⟨pk_un hi, pk_un hi⟩) K
  · unfold f_X6_play
    refine Okp (by decide) ?_
    unfold f_X6_play_b13
    refine Okn (by decide) ?_
    unfold f_X6_play_b28
    refine Okg v1 (Okl (Okg v2 (Okl ?_)))
    rw [c1, c2, e1, e2]
    refine K_take V E ?_
    intro wm' ki' fi' ac' wy' se' sl' hs' hn' E1
    refine Okn (by decide) ?_
    unfold f_X6_play_b82
    refine Okp (by decide) ?_
    unfold f_X6_play_b93
    refine Okl ?_
    rw [held9 (x := 0) (y := 0) (p := 0) (q := 0) nI_0.symm nI_0.symm (by omega) (by omega)]
    refine Okg v1 (Okl ?_)
    rw [c1]
    refine Okp (by decide) ?_
    unfold f_X6_play_b119
    refine Okn (by decide) ?_
    unfold f_X6_play_b130
    refine Okl ?_
    rw [held9 (x := nI (aSh h s2)) (y := nI (aSh h s1)) (p := (aSh h s2)) (q := (aSh h s1)) rfl rfl b2 b1]
    refine Okg v2 (Okl ?_)
    rw [c2]
    refine Okn (by decide) ?_
    unfold f_X6_play_b153
    refine Okg vk (Okl ?_)
    refine Okp (by decide) ?_
    unfold f_X6_play_b170
    refine Okg vk (Okl ?_)
    rw [ck]
    exact lc_play (k := 2) (p1 := o1) (p2 := o2) (by omega) hn30 n 0 4096 (twoH h s1 s2 2) _ _ _ _ _ _ _ _ _ _ 2 0 (by omega) (by omega) (twoH_V V) hs1 hs2 ht (wrapS_C (wrapS_C E1)) pk_us pk_us (fun i hi => ⟨pk_un hi, pk_un hi⟩) K
  · unfold f_X6_play
    refine Okp (by decide) ?_
    unfold f_X6_play_b13
    refine Okp (by decide) ?_
    unfold f_X6_play_b28
    refine Okg v1 (Okl (Okg v2 (Okl ?_)))
    rw [c1, c2, e1, e2]
    refine K_take V E ?_
    intro wm' ki' fi' ac' wy' se' sl' hs' hn' E1
    refine Okn (by decide) ?_
    unfold f_X6_play_b82
    refine Okn (by decide) ?_
    unfold f_X6_play_b93
    refine Okl ?_
    rw [held9 (x := 0) (y := nI (aSh h s2)) (p := 0) (q := (aSh h s2)) nI_0.symm rfl (by omega) b2]
    refine Okg v1 (Okl ?_)
    rw [c1]
    refine Okn (by decide) ?_
    unfold f_X6_play_b119
    refine Okn (by decide) ?_
    unfold f_X6_play_b130
    refine Okl ?_
    rw [held9 (x := 0) (y := nI (aSh h s1)) (p := 0) (q := (aSh h s1)) nI_0.symm rfl (by omega) b1]
    refine Okg v2 (Okl ?_)
    rw [c2]
    refine Okn (by decide) ?_
    unfold f_X6_play_b153
    refine Okg vk (Okl ?_)
    refine Okn (by decide) ?_
    unfold f_X6_play_b170
    refine Okg vk (Okl ?_)
    rw [ck]
    exact lc_play (k := 3) (p1 := o1) (p2 := o2) (by omega) hn30 n 0 4096 (twoH h s1 s2 3) _ _ _ _ _ _ _ _ _ _ 2 2 (by omega) (by omega) (twoH_V V) hs1 hs2 ht (wrapS_C (wrapS_C E1)) pk_us pk_us (fun i hi => ⟨pk_un hi, pk_un hi⟩) K
theorem lc_twoS {g_refused : (Nat → Int32)} {g_m_shutBits_27 : Int64} {g_m_airs_28 : Int32} {g_m_crownedBits_29 : Int32} {g_m_sitters_30 : Int32} {g_m_onBits_31 : Int32} {g_m_turn_32 : Int32} {g_m_taken_33 : Int32} {g_m_warmth_34 : (Nat → UInt32)} {g_m_kind_35 : (Nat → Int32)} {g_m_figure_36 : (Nat → Int32)} {g_m_airCell_37 : (Nat → Int32)} {g_m_way_38 : (Nat → Int32)} {g_m_seat_39 : (Nat → Int32)} {g_m_shawls_40 : (Nat → Int32)} {g_m_count_41 : Int32} {g_m_steps_42 : (Nat → Int32)} {g_m_numbers_43 : (Nat → Int32)} {o1 o2 : Nat → Int32} {g1 g2 : Nat → Nat} {Q : (Int32 × Int64 × Int32 × Int32 × Int32 × Int32 × Int32 × Int32 × (Nat → UInt32) × (Nat → Int32) × (Nat → Int32) × (Nat → Int32) × (Nat → Int32) × (Nat → Int32) × (Nat → Int32) × Int32 × (Nat → Int32) × (Nat → Int32) × (Nat → Int32) × (Nat → Int32) × (Nat → Int32)) → Prop} (hg : ∀ i, i < 4 → o1 i = nI (g1 i) ∧ o2 i = nI (g2 i) ∧ g1 i < 2 ^ 20 ∧ g2 i < 2 ^ 20) : ∀ (d k m : Nat), k + d = 4 → d < m → Q (twoS g1 g2 d k, g_m_shutBits_27, g_m_airs_28, g_m_crownedBits_29, g_m_sitters_30, g_m_onBits_31, g_m_turn_32, g_m_taken_33, g_m_warmth_34, g_m_kind_35, g_m_figure_36, g_m_airCell_37, g_m_way_38, g_m_seat_39, g_m_shawls_40, g_m_count_41, g_m_steps_42, g_m_numbers_43, g_refused, o1, o2) → Ok (f_X6_two_b104 g_refused g_m_shutBits_27 g_m_airs_28 g_m_crownedBits_29 g_m_sitters_30 g_m_onBits_31 g_m_turn_32 g_m_taken_33 g_m_warmth_34 g_m_kind_35 g_m_figure_36 g_m_airCell_37 g_m_way_38 g_m_seat_39 g_m_shawls_40 g_m_count_41 g_m_steps_42 g_m_numbers_43 o1 o2 m (nI k)) Q
  | d, k, 0, _, q, _ => absurd q (by omega)
  | 0, k, m + 1, hk, _, K => by
    rw [f_X6_two_b104]
    exact Okp (nI_le (a := 4) (by omega) (by omega)) (Okv K)
  | d + 1, k, m + 1, hk, hm, K => by
    have hk4 : k < 4 := by omega
    obtain ⟨w1, w2, w3, w4, w5⟩ := sw_c ⟨k, hk4⟩
    simp only at w1 w2 w3 w4 w5
    have vk : vp_in (nI k) 4 := vp_in_nI (by omega) (by omega)
    have ck : (nI k).toNatClampNeg = k := nI_clamp (by omega)
    have lk : twoS g1 g2 (d + 1) k = if g1 k < g1 (sw2 k) then twoS g1 g2 d (k + 1) else if g2 k < g2 (sw1 k) then twoS g1 g2 d (k + 1) else nI (10 * (k / 2) + k % 2) := rfl
    obtain ⟨a1, a2, a3, a4⟩ := hg k hk4
    obtain ⟨b1, -, b3, -⟩ := hg _ w3
    obtain ⟨-, d2, -, d4⟩ := hg _ w4
    rw [f_X6_two_b104]
    refine Okn (nI_ge (b := 4) hk4 (by omega)) (Okg vk ?_)
    rw [w1, w2, ck, nI_clamp (n := sw2 k) (by omega), a1, b1]
    refine Okg (vp_in_nI w3 (by omega)) ?_
    by_cases z : g1 k < g1 (sw2 k)
    · rw [lk, if_pos z] at K
      refine Okp (nI_lt z (by omega)) (Okl ?_)
      rw [nI_1 k]
      exact lc_twoS hg d (k + 1) m (by omega) (by omega) K
    · rw [lk, if_neg z] at K
      refine Okn (nI_nlt (by omega) (by omega)) (Okg vk (Okg (vp_in_nI w4 (by omega)) ?_))
      rw [nI_clamp (n := sw1 k) (by omega), a2, d2]
      by_cases y : g2 k < g2 (sw1 k)
      · rw [if_pos y] at K
        refine Okp (nI_lt y (by omega)) (Okl ?_)
        rw [nI_1 k]
        exact lc_twoS hg d (k + 1) m (by omega) (by omega) K
      · rw [if_neg y] at K
        refine Okn (nI_nlt (by omega) (by omega)) ?_
        rw [w5]
        exact Okv K
theorem lc_two {H : AH} {g_n_shutBits : Int64} {g_n_airs : Int32} {g_n_crownedBits : Int32} {g_n_sitters : Int32} {g_n_onBits : Int32} {g_n_turn : Int32} {g_n_taken : Int32} {g_n_warmth : (Nat → UInt32)} {g_n_kind : (Nat → Int32)} {g_n_figure : (Nat → Int32)} {g_n_airCell : (Nat → Int32)} {g_n_way : (Nat → Int32)} {g_n_seat : (Nat → Int32)} {g_n_shawls : (Nat → Int32)} {g_n_count : Int32} {g_n_steps : (Nat → Int32)} {g_n_numbers : (Nat → Int32)} {g_refused : (Nat → Int32)} {s1 s2 n : Nat} (hn30 : n ≤ 30) (V : aV H) (hs1 : s1 < aS H) (hs2 : s2 < aS H) (ht : aTn H ≤ 999) (E : HC H g_n_shutBits g_n_airs g_n_crownedBits g_n_sitters g_n_onBits g_n_turn g_n_taken g_n_warmth g_n_kind g_n_figure g_n_airCell g_n_way g_n_seat g_n_shawls g_n_count g_n_steps g_n_numbers) {Q : (Int32 × Int64 × Int32 × Int32 × Int32 × Int32 × Int32 × Int32 × (Nat → UInt32) × (Nat → Int32) × (Nat → Int32) × (Nat → Int32) × (Nat → Int32) × (Nat → Int32) × (Nat → Int32) × Int32 × (Nat → Int32) × (Nat → Int32) × (Nat → Int32) × (Nat → Int32) × (Nat → Int32)) → Prop} : ∀ (d k m : Nat) (sb : Int64) (ai cb si ob tn tk : Int32) (wm : Nat → UInt32) (ki fi ac wy se sl : Nat → Int32) (hc : Int32) (hs hn : Nat → Int32) (o1 o2 : Nat → Int32), k + d = 4 → d < m → (∀ i, i < k → o1 i = nI (twG1 H s1 s2 n i) ∧ o2 i = nI (twG2 H s1 s2 n i)) → (∀ (sb' : Int64) (ai' cb' si' ob' tn' tk' : Int32) (wm' : Nat → UInt32) (ki' fi' ac' wy' se' sl' : Nat → Int32) (hc' : Int32) (hs' hn' : Nat → Int32) (o1' o2' : Nat → Int32), Q (twoS (twG1 H s1 s2 n) (twG2 H s1 s2 n) 4 0, sb', ai', cb', si', ob', tn', tk', wm', ki', fi', ac', wy', se', sl', hc', hs', hn', g_refused, o1', o2')) → Ok (f_X6_two_b80 (nI s1) (nI s2) (nI n) g_n_shutBits g_n_airs g_n_crownedBits g_n_sitters g_n_onBits g_n_turn g_n_taken g_n_warmth g_n_kind g_n_figure g_n_airCell g_n_way g_n_seat g_n_shawls g_n_count g_n_steps g_n_numbers g_refused m (nI k) sb ai cb si ob tn tk wm ki fi ac wy se sl hc hs hn o1 o2) Q
  | d, k, 0, _, _, _, _, _, _, _, _, _, _, _, _, _, _, _, _, _, _, _, _, q, _, _ => absurd q (by omega)
  | 0, k, m + 1, sb, ai, cb, si, ob, tn, tk, wm, ki, fi, ac, wy, se, sl, hc, hs, hn, o1, o2, hk, _, G, K => by
    rw [f_X6_two_b80]
    refine Okp (nI_le (a := 4) (by omega) (by omega)) ?_
    rw [← nI_0]
    exact lc_twoS (g1 := twG1 H s1 s2 n) (g2 := twG2 H s1 s2 n) (fun i hi => ⟨(G i (by omega)).1, (G i (by omega)).2, twG1_lt hn30, twG2_lt hn30⟩) 4 0 4096 (by omega) (by omega) (K _ _ _ _ _ _ _ _ _ _ _ _ _ _ _ _ _ o1 o2)
  | d + 1, k, m + 1, sb, ai, cb, si, ob, tn, tk, wm, ki, fi, ac, wy, se, sl, hc, hs, hn, o1, o2, hk, hm, G, K => by
    rw [f_X6_two_b80]
    refine Okn (nI_ge (b := 4) (by omega) (by omega)) ?_
    refine Okb19 (R := fun y => y.2.2.2.2.2.2.2.2.2.2.2.2.2.2.2.2.2.1 k = nI (twG1 H s1 s2 n k) ∧ y.2.2.2.2.2.2.2.2.2.2.2.2.2.2.2.2.2.2 k = nI (twG2 H s1 s2 n k) ∧ ∀ i, i ≠ k → y.2.2.2.2.2.2.2.2.2.2.2.2.2.2.2.2.2.1 i = o1 i ∧ y.2.2.2.2.2.2.2.2.2.2.2.2.2.2.2.2.2.2 i = o2 i) (ok_play (by omega) hn30 V hs1 hs2 (by omega) E (fun _ _ _ _ _ _ _ _ _ _ _ _ _ _ _ _ _ o1' o2' h1 h2 h3 => ⟨h1, h2, h3⟩)) ?_
    intro sb' ai' cb' si' ob' tn' tk' wm' ki' fi' ac' wy' se' sl' hc' hs' hn' o1' o2' ⟨h1, h2, h3⟩
    refine Okl ?_
    rw [nI_1 k]
    refine lc_two hn30 V hs1 hs2 ht E d (k + 1) m _ _ _ _ _ _ _ _ _ _ _ _ _ _ _ _ _ o1' o2' (by omega) (by omega) (fun i hi => ?_) K
    by_cases z : i = k
    · subst z
      exact ⟨h1, h2⟩
    · exact ⟨(h3 i z).1.trans (G i (by omega)).1, (h3 i z).2.trans (G i (by omega)).2⟩
theorem lr_play {H : AH} {a : Nat → Nat} {ai si hc : Int32} {sh ki fi se hs hn q g0 : Nat → Int32} {qw : Nat → UInt32} {k91 : (Int32 → Int32 → Int32 → Int32 → Int32 → Int32 → Int32 → Int32 → Value → (Nat → UInt32) → (Nat → Int32) → (Nat → Int32) → (Nat → Int32) → (Nat → Int32) → (Nat → Int32) → (Nat → Int32) → (Nat → Int32) → (Nat → Int32) → (Nat → Int32) → (Nat → Int32) → (Nat → Int32) → (Nat → Int32) → (Nat → UInt32) → (Nat → Int32) → Option (Int32 × Int32 × Int32 × Int32 × Int32 × Int32 × Int32 × Int32 × Int32 × Value × (Nat → UInt32) × (Nat → Int32) × (Nat → Int32) × (Nat → Int32) × (Nat → Int32) × (Nat → Int32) × (Nat → Int32) × (Nat → Int32) × (Nat → Int32) × (Nat → Int32) × (Nat → Int32) × (Nat → Int32) × (Nat → Int32) × (Nat → Int32) × (Nat → UInt32) × (Nat → Int32)))} {s1 s2 n k : Nat} (hk4 : k < 4) (hn30 : n ≤ 30) (VH : aV H) (QH : HP H q qw) {Q : (Int32 × Int32 × Int32 × Int32 × Int32 × Int32 × Int32 × Int32 × Int32 × Value × (Nat → UInt32) × (Nat → Int32) × (Nat → Int32) × (Nat → Int32) × (Nat → Int32) × (Nat → Int32) × (Nat → Int32) × (Nat → Int32) × (Nat → Int32) × (Nat → Int32) × (Nat → Int32) × (Nat → Int32) × (Nat → Int32) × (Nat → Int32) × (Nat → UInt32) × (Nat → Int32)) → Prop} : ∀ (d x m : Nat) (h : AH) (tn tk : Int32) (wm : Nat → UInt32) (ac wy cr sl on g : Nat → Int32) (p r : Nat), x + d = n → d < m → aV h → s1 < aS h → s2 < aS h → aTn h + d < 2 ^ 20 → HR h ai si hc tn tk wm sh ki fi ac wy cr se sl on hs hn → g (2 * k) = nI p → g (2 * k + 1) = nI r → (∀ i, i < k → g (2 * i) = g0 (2 * i) ∧ g (2 * i + 1) = g0 (2 * i + 1)) → (∀ (ai' si' hc' tn' tk' : Int32) (wm' : Nat → UInt32) (sh' ki' fi' ac' wy' cr' se' sl' on' hs' hn' q' : Nat → Int32) (qw' : Nat → UInt32) (g' : Nat → Int32), HR H ai' si' hc' tn' tk' wm' sh' ki' fi' ac' wy' cr' se' sl' on' hs' hn' → HP H q' qw' → g' (2 * k) = nI (onL s1 d h p) → g' (2 * k + 1) = nI (onL s2 d h r) → (∀ i, i < k → g' (2 * i) = g0 (2 * i) ∧ g' (2 * i + 1) = g0 (2 * i + 1)) → Ok (k91 (nI (k + 1)) ai' si' hc' tn' tk' (nI 96) 0 (Value.ref (a 20)) wm' sh' ki' fi' ac' wy' cr' se' sl' on' hs' hn' q' qw' g') Q) → Ok (f_X7_two_b254 a (nI s1) (nI s2) (nI n) 0 (nI k) ai si hc sh ki fi se hs hn q qw k91 m (nI x) tn tk wm ac wy cr sl on g) Q
  | d, x, 0, _, _, _, _, _, _, _, _, _, _, _, _, _, q, _, _, _, _, _, _, _, _, _ => absurd q (by omega)
  | 0, x, m + 1, h, tn, tk, wm, ac, wy, cr, sl, on, g, p, r, hx, _, V, _, _, _, F, e1, e2, e3, K => by
    rw [f_X7_two_b254]
    refine Okp (nI_le (by omega) (by omega)) ?_
    refine K_again VH QH ?_
    intro _ _ _ _ _ _ _ _ _ _ _ _ _ _ _ _ _ _ _ F3 Q3
    refine Okl ?_
    rw [nI_1 k]
    exact K _ _ _ _ _ _ _ _ _ _ _ _ _ _ _ _ _ _ _ g F3 Q3 e1 e2 e3
  | d + 1, x, m + 1, h, tn, tk, wm, ac, wy, cr, sl, on, g, p, r, hx, hm, V, h1, h2, ht, F, e1, e2, e3, K => by
    have hS := V.1.2.1
    have v1 : vp_in (nI s1) 6 := vp_in_nI (by omega) (by omega)
    have v2 : vp_in (nI s2) 6 := vp_in_nI (by omega) (by omega)
    have c1 : (nI s1).toNatClampNeg = s1 := nI_clamp (by omega)
    have c2 : (nI s2).toNatClampNeg = s2 := nI_clamp (by omega)
    have va : vp_in (nI (2 * k)) 8 := vp_in_nI (by omega) (by omega)
    have vb : vp_in (nI (2 * k + 1)) 8 := vp_in_nI (by omega) (by omega)
    have ca : (nI (2 * k)).toNatClampNeg = 2 * k := nI_clamp (by omega)
    have cb : (nI (2 * k + 1)).toNatClampNeg = 2 * k + 1 := nI_clamp (by omega)
    obtain ⟨V1, gA, gS, t1⟩ := turnS_V V (by omega)
    have h1' : s1 < aS (turnS h) := by rw [gS]; exact h1
    have h2' : s2 < aS (turnS h) := by rw [gS]; exact h2
    rw [f_X7_two_b254]
    refine Okn (nI_ge (by omega) (by omega)) ?_
    refine K_turn V (by omega) F ?_
    intro tn' tk' wm' ac' wy' cr' sl' on' F2
    have f1 := (F2.2.2.1 s1 h1').2.2
    have f2 := (F2.2.2.1 s2 h2').2.2
    rw [onN_B] at f1 f2
    refine Okl ?_
    rw [show (2 : Int32) * nI k = nI (2 * k) from pk_mul 2 k]
    refine Okg va (Okg v1 (Okg va (Okl (Okl ?_))))
    rw [nI_1 (2 * k)]
    refine Okg vb (Okg v2 (Okg vb (Okl (Okl ?_))))
    rw [nI_1 x, ca, cb, c1, c2, f1, f2]
    have i1 : upd g (2 * k) (g (2 * k) + nI (onN (turnS h) s1)) (2 * k + 1) = g (2 * k + 1) := pk_un (by omega)
    rw [i1, e1, e2, nI_add, nI_add]
    exact lr_play hk4 hn30 VH QH d (x + 1) m (turnS h) tn' tk' wm' ac' wy' cr' sl' on' _ (p + onN (turnS h) s1) (r + onN (turnS h) s2) (by omega) (by omega) V1 h1' h2' (by omega) F2 (by rw [pk_un (by omega), pk_us]) pk_us (fun i hi => by rw [pk_un (by omega), pk_un (by omega), pk_un (by omega), pk_un (by omega)]; exact e3 i hi) K
theorem lr_twoS {r_refusals : (Nat → Int32)} {r_airs_42 : Int32} {r_sitters_43 : Int32} {r_stepMany_44 : Int32} {r_today_45 : Int32} {r_taken_46 : Int32} {r_place0_47 : Int32} {r_isTaking_48 : Int32} {r_keptIn_49 : Value} {r_warms_50 : (Nat → UInt32)} {r_shutAt_51 : (Nat → Int32)} {r_kinds0_52 : (Nat → Int32)} {r_figures_53 : (Nat → Int32)} {r_airAt_54 : (Nat → Int32)} {r_ways_55 : (Nat → Int32)} {r_crowned_56 : (Nat → Int32)} {r_sitsAt_57 : (Nat → Int32)} {r_shawls_58 : (Nat → Int32)} {r_isOn_59 : (Nat → Int32)} {r_stepOf_60 : (Nat → Int32)} {r_stepBy_61 : (Nat → Int32)} {r_kept_62 : (Nat → Int32)} {r_keptWarms_63 : (Nat → UInt32)} {g : Nat → Int32} {g1 g2 : Nat → Nat} {Q : (Int32 × Int32 × Int32 × Int32 × Int32 × Int32 × Int32 × Int32 × Int32 × Value × (Nat → UInt32) × (Nat → Int32) × (Nat → Int32) × (Nat → Int32) × (Nat → Int32) × (Nat → Int32) × (Nat → Int32) × (Nat → Int32) × (Nat → Int32) × (Nat → Int32) × (Nat → Int32) × (Nat → Int32) × (Nat → Int32) × (Nat → Int32) × (Nat → UInt32) × (Nat → Int32)) → Prop} (hg : ∀ i, i < 4 → g (2 * i) = nI (g1 i) ∧ g (2 * i + 1) = nI (g2 i) ∧ g1 i < 2 ^ 20 ∧ g2 i < 2 ^ 20) : ∀ (d k m : Nat), k + d = 4 → d < m → Q (twoS g1 g2 d k, r_airs_42, r_sitters_43, r_stepMany_44, r_today_45, r_taken_46, 0, r_place0_47, r_isTaking_48, r_keptIn_49, r_warms_50, r_shutAt_51, r_kinds0_52, r_figures_53, r_airAt_54, r_ways_55, r_crowned_56, r_sitsAt_57, r_shawls_58, r_isOn_59, r_stepOf_60, r_stepBy_61, r_refusals, r_kept_62, r_keptWarms_63, g) → Ok (f_X7_two_b321 r_refusals r_airs_42 r_sitters_43 r_stepMany_44 r_today_45 r_taken_46 r_place0_47 r_isTaking_48 r_keptIn_49 r_warms_50 r_shutAt_51 r_kinds0_52 r_figures_53 r_airAt_54 r_ways_55 r_crowned_56 r_sitsAt_57 r_shawls_58 r_isOn_59 r_stepOf_60 r_stepBy_61 r_kept_62 r_keptWarms_63 g m (nI k)) Q
  | d, k, 0, _, q, _ => absurd q (by omega)
  | 0, k, m + 1, hk, _, K => by
    rw [f_X7_two_b321]
    exact Okp (nI_le (a := 4) (by omega) (by omega)) (Okv K)
  | d + 1, k, m + 1, hk, hm, K => by
    have hk4 : k < 4 := by omega
    obtain ⟨w1, w2, w3, w4, w5, w6⟩ := sw_r ⟨k, hk4⟩
    obtain ⟨-, -, u3, u4, -⟩ := sw_c ⟨k, hk4⟩
    simp only at w1 w2 w3 w4 w5 w6 u3 u4
    have lk : twoS g1 g2 (d + 1) k = if g1 k < g1 (sw2 k) then twoS g1 g2 d (k + 1) else if g2 k < g2 (sw1 k) then twoS g1 g2 d (k + 1) else nI (10 * (k / 2) + k % 2) := rfl
    obtain ⟨a1, a2, a3, a4⟩ := hg k hk4
    obtain ⟨b1, -, b3, -⟩ := hg _ u3
    obtain ⟨-, d2, -, d4⟩ := hg _ u4
    rw [f_X7_two_b321]
    refine Okn (nI_ge (b := 4) hk4 (by omega)) (Okl (Okl ?_))
    rw [w1, w2, w3, w4, w5, w6, nI_clamp (n := 2 * k) (by omega), nI_clamp (n := 2 * sw2 k) (by omega), a1, b1]
    refine Okg (vp_in_nI (by omega) (by omega)) (Okg (vp_in_nI (by omega) (by omega)) ?_)
    by_cases z : g1 k < g1 (sw2 k)
    · rw [lk, if_pos z] at K
      refine Okp (nI_lt z (by omega)) (Okl ?_)
      rw [nI_1 k]
      exact lr_twoS hg d (k + 1) m (by omega) (by omega) K
    · rw [lk, if_neg z] at K
      refine Okn (nI_nlt (by omega) (by omega)) ?_
      rw [nI_1 (2 * k), nI_1 (2 * sw1 k)]
      refine Okg (vp_in_nI (by omega) (by omega)) (Okg (vp_in_nI (by omega) (by omega)) ?_)
      rw [nI_clamp (n := 2 * k + 1) (by omega), nI_clamp (n := 2 * sw1 k + 1) (by omega), a2, d2]
      by_cases y : g2 k < g2 (sw1 k)
      · rw [if_pos y] at K
        refine Okp (nI_lt y (by omega)) (Okl ?_)
        rw [nI_1 k]
        exact lr_twoS hg d (k + 1) m (by omega) (by omega) K
      · rw [if_neg y] at K
        exact Okn (nI_nlt (by omega) (by omega)) (Okv K)
theorem lr_two {H : AH} {a : Nat → Nat} {r_refusals : Nat → Int32} {s1 s2 n : Nat} (hn30 : n ≤ 30) (V : aV H) (hs1 : s1 < aS H) (hs2 : s2 < aS H) (ht : aTn H ≤ 999) {Q : (Int32 × Int32 × Int32 × Int32 × Int32 × Int32 × Int32 × Int32 × Int32 × Value × (Nat → UInt32) × (Nat → Int32) × (Nat → Int32) × (Nat → Int32) × (Nat → Int32) × (Nat → Int32) × (Nat → Int32) × (Nat → Int32) × (Nat → Int32) × (Nat → Int32) × (Nat → Int32) × (Nat → Int32) × (Nat → Int32) × (Nat → Int32) × (Nat → UInt32) × (Nat → Int32)) → Prop} : ∀ (d k m : Nat) (ai si hc tn tk pl it : Int32) (ke : Value) (wm : Nat → UInt32) (sh ki fi ac wy cr se sl on hs hn q : Nat → Int32) (qw : Nat → UInt32) (g : Nat → Int32), k + d = 4 → d < m → HR H ai si hc tn tk wm sh ki fi ac wy cr se sl on hs hn → HP H q qw → (∀ i, i < k → g (2 * i) = nI (twG1 H s1 s2 n i) ∧ g (2 * i + 1) = nI (twG2 H s1 s2 n i)) → (∀ (ai' si' hc' tn' tk' pl' it' : Int32) (ke' : Value) (wm' : Nat → UInt32) (sh' ki' fi' ac' wy' cr' se' sl' on' hs' hn' q' : Nat → Int32) (qw' : Nat → UInt32) (g' : Nat → Int32), HR H ai' si' hc' tn' tk' wm' sh' ki' fi' ac' wy' cr' se' sl' on' hs' hn' → HP H q' qw' → Q (twoS (twG1 H s1 s2 n) (twG2 H s1 s2 n) 4 0, ai', si', hc', tn', tk', 0, pl', it', ke', wm', sh', ki', fi', ac', wy', cr', se', sl', on', hs', hn', r_refusals, q', qw', g')) → Ok (f_X7_two_b91 a (nI s1) (nI s2) (nI n) 0 r_refusals m (nI k) ai si hc tn tk pl it ke wm sh ki fi ac wy cr se sl on hs hn q qw g) Q
  | d, k, 0, _, _, _, _, _, _, _, _, _, _, _, _, _, _, _, _, _, _, _, _, _, _, _, _, q, _, _, _, _ => absurd q (by omega)
  | 0, k, m + 1, ai, si, hc, tn, tk, pl, it, ke, wm, sh, ki, fi, ac, wy, cr, se, sl, on, hs, hn, q, qw, g, hk, _, F, QH, G, K => by
    rw [f_X7_two_b91]
    refine Okp (nI_le (a := 4) (by omega) (by omega)) ?_
    rw [← nI_0]
    refine lr_twoS (g1 := twG1 H s1 s2 n) (g2 := twG2 H s1 s2 n) (fun i hi => ⟨(G i (by omega)).1, (G i (by omega)).2, twG1_lt hn30, twG2_lt hn30⟩) 4 0 4096 (by omega) (by omega) ?_
    exact K _ _ _ _ _ _ _ _ _ _ _ _ _ _ _ _ _ _ _ _ _ _ g F QH
  | d + 1, k, m + 1, ai, si, hc, tn, tk, pl, it, ke, wm, sh, ki, fi, ac, wy, cr, se, sl, on, hs, hn, q, qw, g, hk, hm, F, QH, G, K => by
    have hS := V.1.2.1
    have v1 : vp_in (nI s1) 6 := vp_in_nI (by omega) (by omega)
    have v2 : vp_in (nI s2) 6 := vp_in_nI (by omega) (by omega)
    have c1 : (nI s1).toNatClampNeg = s1 := nI_clamp (by omega)
    have c2 : (nI s2).toNatClampNeg = s2 := nI_clamp (by omega)
    have va : vp_in (nI (2 * k)) 8 := vp_in_nI (by omega) (by omega)
    have vb : vp_in (nI (2 * k + 1)) 8 := vp_in_nI (by omega) (by omega)
    have ca : (nI (2 * k)).toNatClampNeg = 2 * k := nI_clamp (by omega)
    have cb : (nI (2 * k + 1)).toNatClampNeg = 2 * k + 1 := nI_clamp (by omega)
    have e1 := (F.2.2.1 s1 hs1).2.1
    have e2 := (F.2.2.1 s2 hs2).2.1
    have b1 := (V.2.2.1 s1 hs1).2
    have b2 := (V.2.2.1 s2 hs2).2
    have ext : ∀ (k : Nat) (g' : Nat → Int32), g' (2 * k) = nI (twG1 H s1 s2 n k) → g' (2 * k + 1) = nI (twG2 H s1 s2 n k) → (∀ i, i < k → g' (2 * i) = nI (twG1 H s1 s2 n i) ∧ g' (2 * i + 1) = nI (twG2 H s1 s2 n i)) → ∀ i, i < k + 1 → g' (2 * i) = nI (twG1 H s1 s2 n i) ∧ g' (2 * i + 1) = nI (twG2 H s1 s2 n i) := fun k g' h1 h2 h3 i hi => by
      by_cases z : i = k
      · subst z
        exact ⟨h1, h2⟩
      · exact h3 i (by omega)
    rw [f_X7_two_b91]
    refine Okn (nI_ge (b := 4) (by omega) (by omega)) (Okg v1 (Okl (Okg v2 (Okl ?_))))
    rw [c1, c2, e1, e2]
    rcases (show k = 0 ∨ k = 1 ∨ k = 2 ∨ k = 3 by omega) with rfl | rfl | rfl | rfl
    · refine Okn (by decide) ?_
      unfold f_X7_two_b126
      refine Okn (by decide) ?_
      unfold f_X7_two_b141
      refine Okp (by decide) ?_
      unfold f_X7_two_b159
      refine Okp (by decide) ?_
      unfold f_X7_two_b170
      refine Ok1 (heldR (x := nI (aSh H s1)) (y := 0) (p := (aSh H s1)) (q := 0) rfl nI_0.symm b1 (by omega)) (Okg v1 (Okl ?_))
      rw [c1]
      refine Okp (by decide) ?_
      unfold f_X7_two_b193
      refine Okp (by decide) ?_
      unfold f_X7_two_b204
      refine Ok1 (heldR (x := nI (aSh H s2)) (y := 0) (p := (aSh H s2)) (q := 0) rfl nI_0.symm b2 (by omega)) (Okg v2 (Okl ?_))
      rw [c2]
      refine Okp (by decide) ?_
      unfold f_X7_two_b229
      rw [show (2 : Int32) * nI 0 = nI (2 * 0) from pk_mul 2 0]
      refine Okg va (Okl ?_)
      refine Okp (by decide) ?_
      unfold f_X7_two_b250
      rw [nI_1 (2 * 0)]
      refine Okg vb (Okl ?_)
      rw [ca, cb]
      refine lr_play (k := 0) (g0 := g) (by omega) hn30 V QH n 0 4096 (twoH H s1 s2 0) _ _ _ _ _ _ _ _ _ 0 0 (by omega) (by omega) (twoH_V V) hs1 hs2 (show aTn H + n < 2 ^ 20 by omega) (wrapS_R (wrapS_R F)) ((pk_un (by omega)).trans pk_us) pk_us (fun i hi => ⟨(pk_un (by omega)).trans (pk_un (by omega)), (pk_un (by omega)).trans (pk_un (by omega))⟩) ?_
      intro _ _ _ _ _ _ _ _ _ _ _ _ _ _ _ _ _ _ _ g' F3 Q3 h1 h2 h3
      exact lr_two hn30 V hs1 hs2 ht d (0 + 1) m _ _ _ _ _ _ _ _ _ _ _ _ _ _ _ _ _ _ _ _ _ _ g' (by omega) (by omega) F3 Q3 (ext 0 g' h1 h2 (fun i hi => ⟨(h3 i hi).1.trans (G i hi).1, (h3 i hi).2.trans (G i hi).2⟩)) K
    · refine Okn (by decide) ?_
      unfold f_X7_two_b126
      refine Okp (by decide) ?_
      unfold f_X7_two_b141
      refine Okp (by decide) ?_
      unfold f_X7_two_b159
      refine Okn (by decide) ?_
      unfold f_X7_two_b170
      refine Ok1 (heldR (x := nI (aSh H s1)) (y := nI (aSh H s2)) (p := (aSh H s1)) (q := (aSh H s2)) rfl rfl b1 b2) (Okg v1 (Okl ?_))
      rw [c1]
      refine Okn (by decide) ?_
      unfold f_X7_two_b193
      refine Okp (by decide) ?_
      unfold f_X7_two_b204
      refine Ok1 (heldR (x := 0) (y := 0) (p := 0) (q := 0) nI_0.symm nI_0.symm (by omega) (by omega)) (Okg v2 (Okl ?_))
      rw [c2]
      refine Okp (by decide) ?_
      unfold f_X7_two_b229
      rw [show (2 : Int32) * nI 1 = nI (2 * 1) from pk_mul 2 1]
      refine Okg va (Okl ?_)
      refine Okn (by decide) ?_
      unfold f_X7_two_b250
      rw [nI_1 (2 * 1)]
      refine Okg vb (Okl ?_)
      rw [ca, cb]
      refine lr_play (k := 1) (g0 := g) (by omega) hn30 V QH n 0 4096 (twoH H s1 s2 1) _ _ _ _ _ _ _ _ _ 0 2 (by omega) (by omega) (twoH_V V) hs1 hs2 (show aTn H + n < 2 ^ 20 by omega) (wrapS_R (wrapS_R F)) ((pk_un (by omega)).trans pk_us) pk_us (fun i hi => ⟨(pk_un (by omega)).trans (pk_un (by omega)), (pk_un (by omega)).trans (pk_un (by omega))⟩) ?_
      intro _ _ _ _ _ _ _ _ _ _ _ _ _ _ _ _ _ _ _ g' F3 Q3 h1 h2 h3
      exact lr_two hn30 V hs1 hs2 ht d (1 + 1) m _ _ _ _ _ _ _ _ _ _ _ _ _ _ _ _ _ _ _ _ _ _ g' (by omega) (by omega) F3 Q3 (ext 1 g' h1 h2 (fun i hi => ⟨(h3 i hi).1.trans (G i hi).1, (h3 i hi).2.trans (G i hi).2⟩)) K
    · refine Okp (by decide) ?_
      unfold f_X7_two_b126
      refine Okn (by decide) ?_
      unfold f_X7_two_b141
      refine Okn (by decide) ?_
      unfold f_X7_two_b159
      refine Okp (by decide) ?_
      unfold f_X7_two_b170
      refine Ok1 (heldR (x := 0) (y := 0) (p := 0) (q := 0) nI_0.symm nI_0.symm (by omega) (by omega)) (Okg v1 (Okl ?_))
      rw [c1]
      refine Okp (by decide) ?_
      unfold f_X7_two_b193
      refine Okn (by decide) ?_
      unfold f_X7_two_b204
      refine Ok1 (heldR (x := nI (aSh H s2)) (y := nI (aSh H s1)) (p := (aSh H s2)) (q := (aSh H s1)) rfl rfl b2 b1) (Okg v2 (Okl ?_))
      rw [c2]
      refine Okn (by decide) ?_
      unfold f_X7_two_b229
      rw [show (2 : Int32) * nI 2 = nI (2 * 2) from pk_mul 2 2]
      refine Okg va (Okl ?_)
      refine Okp (by decide) ?_
      unfold f_X7_two_b250
      rw [nI_1 (2 * 2)]
      refine Okg vb (Okl ?_)
      rw [ca, cb]
      refine lr_play (k := 2) (g0 := g) (by omega) hn30 V QH n 0 4096 (twoH H s1 s2 2) _ _ _ _ _ _ _ _ _ 2 0 (by omega) (by omega) (twoH_V V) hs1 hs2 (show aTn H + n < 2 ^ 20 by omega) (wrapS_R (wrapS_R F)) ((pk_un (by omega)).trans pk_us) pk_us (fun i hi => ⟨(pk_un (by omega)).trans (pk_un (by omega)), (pk_un (by omega)).trans (pk_un (by omega))⟩) ?_
      intro _ _ _ _ _ _ _ _ _ _ _ _ _ _ _ _ _ _ _ g' F3 Q3 h1 h2 h3
      exact lr_two hn30 V hs1 hs2 ht d (2 + 1) m _ _ _ _ _ _ _ _ _ _ _ _ _ _ _ _ _ _ _ _ _ _ g' (by omega) (by omega) F3 Q3 (ext 2 g' h1 h2 (fun i hi => ⟨(h3 i hi).1.trans (G i hi).1, (h3 i hi).2.trans (G i hi).2⟩)) K
    · refine Okp (by decide) ?_
      unfold f_X7_two_b126
      refine Okp (by decide) ?_
      unfold f_X7_two_b141
      refine Okn (by decide) ?_
      unfold f_X7_two_b159
      refine Okn (by decide) ?_
      unfold f_X7_two_b170
      refine Ok1 (heldR (x := 0) (y := nI (aSh H s2)) (p := 0) (q := (aSh H s2)) nI_0.symm rfl (by omega) b2) (Okg v1 (Okl ?_))
      rw [c1]
      refine Okn (by decide) ?_
      unfold f_X7_two_b193
      refine Okn (by decide) ?_
      unfold f_X7_two_b204
      refine Ok1 (heldR (x := 0) (y := nI (aSh H s1)) (p := 0) (q := (aSh H s1)) nI_0.symm rfl (by omega) b1) (Okg v2 (Okl ?_))
      rw [c2]
      refine Okn (by decide) ?_
      unfold f_X7_two_b229
      rw [show (2 : Int32) * nI 3 = nI (2 * 3) from pk_mul 2 3]
      refine Okg va (Okl ?_)
      refine Okn (by decide) ?_
      unfold f_X7_two_b250
      rw [nI_1 (2 * 3)]
      refine Okg vb (Okl ?_)
      rw [ca, cb]
      refine lr_play (k := 3) (g0 := g) (by omega) hn30 V QH n 0 4096 (twoH H s1 s2 3) _ _ _ _ _ _ _ _ _ 2 2 (by omega) (by omega) (twoH_V V) hs1 hs2 (show aTn H + n < 2 ^ 20 by omega) (wrapS_R (wrapS_R F)) ((pk_un (by omega)).trans pk_us) pk_us (fun i hi => ⟨(pk_un (by omega)).trans (pk_un (by omega)), (pk_un (by omega)).trans (pk_un (by omega))⟩) ?_
      intro _ _ _ _ _ _ _ _ _ _ _ _ _ _ _ _ _ _ _ g' F3 Q3 h1 h2 h3
      exact lr_two hn30 V hs1 hs2 ht d (3 + 1) m _ _ _ _ _ _ _ _ _ _ _ _ _ _ _ _ _ _ _ _ _ _ g' (by omega) (by omega) F3 Q3 (ext 3 g' h1 h2 (fun i hi => ⟨(h3 i hi).1.trans (G i hi).1, (h3 i hi).2.trans (G i hi).2⟩)) K
theorem s_two {s : S6} {t : S7} (a b : Nat → Nat) (R : Rel s t) (n0 : Int32) (n1 : Int32) (n2 : Int32) : Sim (F6_two s n0 n1 n2) (F7_two t b n0 n1 n2) := by
  refine Rel_o (C := fun s t => Sim (F6_two s n0 n1 n2) (F7_two t b n0 n1 n2)) R ?_
  intro H P pc pn I L T g_hasImage g_n_warmth g_n_kind g_n_figure g_n_airCell g_n_way g_n_seat g_n_shawls g_n_steps g_n_numbers g_m_shutBits g_m_airs g_m_crownedBits g_m_sitters g_m_onBits g_m_turn g_m_taken g_m_warmth g_m_kind g_m_figure g_m_airCell g_m_way g_m_seat g_m_shawls g_m_count g_m_steps g_m_numbers g_i_shutBits g_i_airs g_i_crownedBits g_i_sitters g_i_onBits g_i_turn g_i_taken g_i_warmth g_i_kind g_i_figure g_i_airCell g_i_way g_i_seat g_i_shawls g_i_count g_i_steps g_i_numbers g_text_letters g_coats_sorts g_coats_sizes g_places g_coats_carried g_told g_refused g_oneHas g_otherHas g_k_shutBits g_k_airs g_k_crownedBits g_k_sitters g_k_onBits g_k_turn g_k_taken g_k_warmth g_k_kind g_k_figure g_k_airCell g_k_way g_k_seat g_k_shawls g_k_count g_k_steps g_k_numbers r_thrown r_at0 r_isBad r_statements r_stepsMany r_hasImage r_place0 r_isTaking r_keptIn r_seed r_warms r_shutAt r_kinds0 r_figures r_airAt r_ways r_crowned r_sitsAt r_shawls r_isOn r_stepOf r_stepBy r_refusals r_letters r_placeIn r_letterOf r_numbers r_stepsRead r_stepsBy r_kept r_keptWarms r_i_imaged r_imagedWarms r_turns0 r_turnWarms0 r_turnOf r_turnWarms r_row0 r_gains r_pegSort r_pegMany r_pegHolds r_coats r_coatsMoved hE hF hg hpc hpn hK hQ hPg hI hL hT hTl hO hR hG
  show Sim (F6_two _ n0 n1 n2) (F7_two _ b n0 n1 n2)
  rw [F6_two_b, F7_two_b]
  refine sim_o ?_
  unfold f_X6_two f_X7_two f_X7_two_b70
  have hV := hg.1
  obtain ⟨hA5, hS6, hH6, hT20, hK9⟩ := hV.1
  by_cases q : ixB n0 (aS H) = true
  · obtain ⟨s1, hs1, rfl⟩ := ixB_t q
    by_cases q1 : ixB n1 (aS H) = true
    · obtain ⟨s2, hs2, rfl⟩ := ixB_t q1
      by_cases e : nI s1 = nI s2
      · refine Okt (c_isSitter _ (by omega)) q (Okt (c_isSitter _ (by omega)) q1 (Okp e (Ok2 (c_refuse 1 (by omega) (by omega) _ (by decide)) (Okv ?_))))
        refine Okt (r_isSitter _ (by omega)) q (Okt (r_isSitter _ (by omega)) q1 (Okp e (Ok2 (r_refuse 1 (by omega) (by omega) _ (by decide)) (Okv ?_))))
        exact ⟨rfl, Rel_i H P pc pn I L T ⟨hE, hF, hg, rfl⟩ ⟨⟨hpc, hpn, rfl, rfl, rfl⟩, hK, hQ, hPg⟩ hI ⟨hL, rfl, rfl, hT⟩ ⟨hTl, rfl, rfl, hO⟩ (pRef_u hR) hG⟩
      · rcases wr_3 n2 1 30 (by omega) (by omega) with ⟨w1, w2⟩ | ⟨w1, w2, w3⟩ | ⟨n, hn1, hn, rfl, w1⟩
        · refine Okt (c_isSitter _ (by omega)) q (Okt (c_isSitter _ (by omega)) q1 (Okn e (Ok1 (c_wr w1) (Okn (by decide) (Ok2 (c_refuse 4 (by omega) (by omega) _ (by decide)) (Okv ?_))))))
          refine Okt (r_isSitter _ (by omega)) q (Okt (r_isSitter _ (by omega)) q1 (Okn e (Ok1 (r_wr w1) (Okn (by decide) (Okn (by decide) (Ok2 (r_refuse 4 (by omega) (by omega) _ (by decide)) (Okv ?_)))))))
          exact ⟨rfl, Rel_i H P pc pn I L T ⟨hE, hF, hg, rfl⟩ ⟨⟨hpc, hpn, rfl, rfl, rfl⟩, hK, hQ, hPg⟩ hI ⟨hL, rfl, rfl, hT⟩ ⟨hTl, rfl, rfl, hO⟩ (pRef_u hR) hG⟩
        · refine Okt (c_isSitter _ (by omega)) q (Okt (c_isSitter _ (by omega)) q1 (Okn e (Ok1 (c_wr w1) (Okn (by decide) (Ok2 (c_refuse 6 (by omega) (by omega) _ (by decide)) (Okv ?_))))))
          refine Okt (r_isSitter _ (by omega)) q (Okt (r_isSitter _ (by omega)) q1 (Okn e (Ok1 (r_wr w1) (Okn (by decide) (Okn (by decide) (Ok2 (r_refuse 6 (by omega) (by omega) _ (by decide)) (Okv ?_)))))))
          exact ⟨rfl, Rel_i H P pc pn I L T ⟨hE, hF, hg, rfl⟩ ⟨⟨hpc, hpn, rfl, rfl, rfl⟩, hK, hQ, hPg⟩ hI ⟨hL, rfl, rfl, hT⟩ ⟨hTl, rfl, rfl, hO⟩ (pRef_u hR) hG⟩
        · have v1 : vp_in (nI s1) 6 := vp_in_nI (by omega) (by omega)
          have v2 : vp_in (nI s2) 6 := vp_in_nI (by omega) (by omega)
          have c1 : (nI s1).toNatClampNeg = s1 := nI_clamp (by omega)
          have c2 : (nI s2).toNatClampNeg = s2 := nI_clamp (by omega)
          have e1 := (hF.2.2.1 s1 hs1).2.2
          have e2 := (hF.2.2.1 s2 hs2).2.2
          have ci : f_X2_isOn (nI (bN (aOn H) (aS H))) (nI s1) = some (nB (aOn H s1)) := c_isO hV hE hs1
          have cj : f_X2_isOn (nI (bN (aOn H) (aS H))) (nI s2) = some (nB (aOn H s2)) := c_isO hV hE hs2
          rw [c1, c2, e1, e2]
          by_cases o1 : aOn H s1 = true
          · by_cases o2 : aOn H s2 = true
            · refine Okt (c_isSitter _ (by omega)) q (Okt (c_isSitter _ (by omega)) q1 (Okn e (Ok1 (c_wr w1) (Okp rfl (Okt ci o1 (Okt cj o2 ?_))))))
              rw [← nI_0]
              refine lc_two hn hV hs1 hs2 hg.2.2 hE 4 0 4096 _ _ _ _ _ _ _ _ _ _ _ _ _ _ _ _ _ _ _ (by omega) (by omega) (fun i hi => absurd hi (by omega)) ?_
              intro _ _ _ _ _ _ _ _ _ _ _ _ _ _ _ _ _ _ _
              refine Okt (r_isSitter _ (by omega)) q (Okt (r_isSitter _ (by omega)) q1 (Okn e (Ok1 (r_wr w1) (Okp rfl (Okg v1 (Okg v2 (Okp (by rw [o1, o2]; decide) (Okp (by decide) ?_))))))))
              refine K_think hV hF ?_
              intro _ _ _ _ _ _ _ _ _ _ _ _ _ _ F1 Q1
              refine lr_two hn hV hs1 hs2 hg.2.2 4 0 4096 _ _ _ _ _ _ _ _ _ _ _ _ _ _ _ _ _ _ _ _ _ _ _ (by omega) (by omega) F1 Q1 (fun i hi => absurd hi (by omega)) ?_
              intro _ _ _ _ _ _ _ _ _ _ _ _ _ _ _ _ _ _ _ _ _ _ _ F3 Q3
              exact ⟨rfl, Rel_i H P pc pn I L T ⟨hE, F3, hg, rfl⟩ ⟨⟨hpc, hpn, rfl, rfl, rfl⟩, hK, hQ, hPg⟩ hI ⟨hL, rfl, rfl, hT⟩ ⟨hTl, rfl, rfl, hO⟩ hR hG⟩
            · refine Okt (c_isSitter _ (by omega)) q (Okt (c_isSitter _ (by omega)) q1 (Okn e (Ok1 (c_wr w1) (Okp rfl (Okt ci o1 (Okf cj o2 (Ok2 (c_refuse 3 (by omega) (by omega) _ (by decide)) (Okv ?_))))))))
              refine Okt (r_isSitter _ (by omega)) q (Okt (r_isSitter _ (by omega)) q1 (Okn e (Ok1 (r_wr w1) (Okp rfl (Okg v1 (Okg v2 (Okn (by rw [o1, show aOn H s2 = false by simpa using o2]; decide) (Okn (by decide) (Ok2 (r_refuse 3 (by omega) (by omega) _ (by decide)) (Okv ?_))))))))))
              exact ⟨rfl, Rel_i H P pc pn I L T ⟨hE, hF, hg, rfl⟩ ⟨⟨hpc, hpn, rfl, rfl, rfl⟩, hK, hQ, hPg⟩ hI ⟨hL, rfl, rfl, hT⟩ ⟨hTl, rfl, rfl, hO⟩ (pRef_u hR) hG⟩
          · refine Okt (c_isSitter _ (by omega)) q (Okt (c_isSitter _ (by omega)) q1 (Okn e (Ok1 (c_wr w1) (Okp rfl (Okf ci o1 (Ok2 (c_refuse 3 (by omega) (by omega) _ (by decide)) (Okv ?_)))))))
            refine Okt (r_isSitter _ (by omega)) q (Okt (r_isSitter _ (by omega)) q1 (Okn e (Ok1 (r_wr w1) (Okp rfl (Okg v1 (Okg v2 (Okn (by rw [show aOn H s1 = false by simpa using o1]; cases aOn H s2 <;> decide) (Okn (by decide) (Ok2 (r_refuse 3 (by omega) (by omega) _ (by decide)) (Okv ?_))))))))))
            exact ⟨rfl, Rel_i H P pc pn I L T ⟨hE, hF, hg, rfl⟩ ⟨⟨hpc, hpn, rfl, rfl, rfl⟩, hK, hQ, hPg⟩ hI ⟨hL, rfl, rfl, hT⟩ ⟨hTl, rfl, rfl, hO⟩ (pRef_u hR) hG⟩
    · refine Okt (c_isSitter _ (by omega)) q (Okf (c_isSitter _ (by omega)) q1 (Ok2 (c_refuse 1 (by omega) (by omega) _ (by decide)) (Okv ?_)))
      refine Okt (r_isSitter _ (by omega)) q (Okf (r_isSitter _ (by omega)) q1 (Ok2 (r_refuse 1 (by omega) (by omega) _ (by decide)) (Okv ?_)))
      exact ⟨rfl, Rel_i H P pc pn I L T ⟨hE, hF, hg, rfl⟩ ⟨⟨hpc, hpn, rfl, rfl, rfl⟩, hK, hQ, hPg⟩ hI ⟨hL, rfl, rfl, hT⟩ ⟨hTl, rfl, rfl, hO⟩ (pRef_u hR) hG⟩
  · refine Okf (c_isSitter _ (by omega)) q (Ok2 (c_refuse 1 (by omega) (by omega) _ (by decide)) (Okv ?_))
    refine Okf (r_isSitter _ (by omega)) q (Ok2 (r_refuse 1 (by omega) (by omega) _ (by decide)) (Okv ?_))
    exact ⟨rfl, Rel_i H P pc pn I L T ⟨hE, hF, hg, rfl⟩ ⟨⟨hpc, hpn, rfl, rfl, rfl⟩, hK, hQ, hPg⟩ hI ⟨hL, rfl, rfl, hT⟩ ⟨hTl, rfl, rfl, hO⟩ (pRef_u hR) hG⟩
