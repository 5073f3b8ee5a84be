/-! houses told in letters: what is told comes -/
theorem Okb2 {A0 A1 α : Type} {x : Option (A0 × A1)} {f : A0 → A1 → Option α} {Q : α → Prop} {R : (A0 × A1) → Prop} (h : Ok x R) (k : ∀ x0 x1, R (x0, x1) → Ok (f x0 x1) Q) : Ok (dq_bd2 x f) Q := by
  obtain ⟨⟨x0, x1⟩, e, r⟩ := h
  exact Ok2 e (k x0 x1 r)
theorem Okb4 {A0 A1 A2 A3 α : Type} {x : Option (A0 × A1 × A2 × A3)} {f : A0 → A1 → A2 → A3 → Option α} {Q : α → Prop} {R : (A0 × A1 × A2 × A3) → Prop} (h : Ok x R) (k : ∀ x0 x1 x2 x3, R (x0, x1, x2, x3) → Ok (f x0 x1 x2 x3) Q) : Ok (dq_bd4 x f) Q := by
  obtain ⟨⟨x0, x1, x2, x3⟩, e, r⟩ := h
  exact Ok4 e (k x0 x1 x2 x3 r)
theorem Okb5 {A0 A1 A2 A3 A4 α : Type} {x : Option (A0 × A1 × A2 × A3 × A4)} {f : A0 → A1 → A2 → A3 → A4 → Option α} {Q : α → Prop} {R : (A0 × A1 × A2 × A3 × A4) → Prop} (h : Ok x R) (k : ∀ x0 x1 x2 x3 x4, R (x0, x1, x2, x3, x4) → Ok (f x0 x1 x2 x3 x4) Q) : Ok (dq_bd5 x f) Q := by
  obtain ⟨⟨x0, x1, x2, x3, x4⟩, e, r⟩ := h
  exact Ok5 e (k x0 x1 x2 x3 x4 r)
theorem Okb6 {A0 A1 A2 A3 A4 A5 α : Type} {x : Option (A0 × A1 × A2 × A3 × A4 × A5)} {f : A0 → A1 → A2 → A3 → A4 → A5 → Option α} {Q : α → Prop} {R : (A0 × A1 × A2 × A3 × A4 × A5) → Prop} (h : Ok x R) (k : ∀ x0 x1 x2 x3 x4 x5, R (x0, x1, x2, x3, x4, x5) → Ok (f x0 x1 x2 x3 x4 x5) Q) : Ok (dq_bd6 x f) Q := by
  obtain ⟨⟨x0, x1, x2, x3, x4, x5⟩, e, r⟩ := h
  exact Ok6 e (k x0 x1 x2 x3 x4 x5 r)
theorem Okb7 {A0 A1 A2 A3 A4 A5 A6 α : Type} {x : Option (A0 × A1 × A2 × A3 × A4 × A5 × A6)} {f : A0 → A1 → A2 → A3 → A4 → A5 → A6 → Option α} {Q : α → Prop} {R : (A0 × A1 × A2 × A3 × A4 × A5 × A6) → Prop} (h : Ok x R) (k : ∀ x0 x1 x2 x3 x4 x5 x6, R (x0, x1, x2, x3, x4, x5, x6) → Ok (f x0 x1 x2 x3 x4 x5 x6) Q) : Ok (dq_bd7 x f) Q := by
  obtain ⟨⟨x0, x1, x2, x3, x4, x5, x6⟩, e, r⟩ := h
  exact Ok7 e (k x0 x1 x2 x3 x4 x5 x6 r)
theorem Okb9 {A0 A1 A2 A3 A4 A5 A6 A7 A8 α : Type} {x : Option (A0 × A1 × A2 × A3 × A4 × A5 × A6 × A7 × A8)} {f : A0 → A1 → A2 → A3 → A4 → A5 → A6 → A7 → A8 → Option α} {Q : α → Prop} {R : (A0 × A1 × A2 × A3 × A4 × A5 × A6 × A7 × A8) → Prop} (h : Ok x R) (k : ∀ x0 x1 x2 x3 x4 x5 x6 x7 x8, R (x0, x1, x2, x3, x4, x5, x6, x7, x8) → Ok (f x0 x1 x2 x3 x4 x5 x6 x7 x8) Q) : Ok (dq_bd9 x f) Q := by
  obtain ⟨⟨x0, x1, x2, x3, x4, x5, x6, x7, x8⟩, e, r⟩ := h
  exact Ok9 e (k x0 x1 x2 x3 x4 x5 x6 x7 x8 r)

def tlC (o : Option AH) (y : Int32 × Int64 × Int32 × Int32 × Int32 × Int32 × Int32 × Int32 × (Nat → UInt32) × (Nat → Int32) × (Nat → Int32) × (Nat → Int32) × (Nat → Int32) × (Nat → Int32) × (Nat → Int32) × Int32 × (Nat → Int32) × (Nat → Int32)) : Prop := match o with
  | none => y.1 = 0
  | some h' => y.1 = 1 ∧ HC h' y.2.1 y.2.2.1 y.2.2.2.1 y.2.2.2.2.1 y.2.2.2.2.2.1 y.2.2.2.2.2.2.1 y.2.2.2.2.2.2.2.1 y.2.2.2.2.2.2.2.2.1 y.2.2.2.2.2.2.2.2.2.1 y.2.2.2.2.2.2.2.2.2.2.1 y.2.2.2.2.2.2.2.2.2.2.2.1 y.2.2.2.2.2.2.2.2.2.2.2.2.1 y.2.2.2.2.2.2.2.2.2.2.2.2.2.1 y.2.2.2.2.2.2.2.2.2.2.2.2.2.2.1 y.2.2.2.2.2.2.2.2.2.2.2.2.2.2.2.1 y.2.2.2.2.2.2.2.2.2.2.2.2.2.2.2.2.1 y.2.2.2.2.2.2.2.2.2.2.2.2.2.2.2.2.2
def tlR (o : Option AH) (y : Int32 × Int32 × Int32 × Int32 × Int32 × Int32 × (Nat → UInt32) × (Nat → Int32) × (Nat → Int32) × (Nat → Int32) × (Nat → Int32) × (Nat → Int32) × (Nat → Int32) × (Nat → Int32) × (Nat → Int32) × (Nat → Int32) × (Nat → Int32) × (Nat → Int32)) : Prop := match o with
  | none => y.1 = 0
  | some h' => y.1 = 1 ∧ HR h' y.2.1 y.2.2.1 y.2.2.2.1 y.2.2.2.2.1 y.2.2.2.2.2.1 y.2.2.2.2.2.2.1 y.2.2.2.2.2.2.2.1 y.2.2.2.2.2.2.2.2.1 y.2.2.2.2.2.2.2.2.2.1 y.2.2.2.2.2.2.2.2.2.2.1 y.2.2.2.2.2.2.2.2.2.2.2.1 y.2.2.2.2.2.2.2.2.2.2.2.2.1 y.2.2.2.2.2.2.2.2.2.2.2.2.2.1 y.2.2.2.2.2.2.2.2.2.2.2.2.2.2.1 y.2.2.2.2.2.2.2.2.2.2.2.2.2.2.2.1 y.2.2.2.2.2.2.2.2.2.2.2.2.2.2.2.2.1 y.2.2.2.2.2.2.2.2.2.2.2.2.2.2.2.2.2
theorem tlC_z {o : Option AH} {y : Int32 × Int64 × Int32 × Int32 × Int32 × Int32 × Int32 × Int32 × (Nat → UInt32) × (Nat → Int32) × (Nat → Int32) × (Nat → Int32) × (Nat → Int32) × (Nat → Int32) × (Nat → Int32) × Int32 × (Nat → Int32) × (Nat → Int32)} (h : tlC o y) : dq_z y.1 := by
  unfold dq_z
  cases o with
  | none => exact Or.inl h
  | some h' => exact Or.inr h.1
theorem tlR_z {o : Option AH} {y : Int32 × Int32 × Int32 × Int32 × Int32 × Int32 × (Nat → UInt32) × (Nat → Int32) × (Nat → Int32) × (Nat → Int32) × (Nat → Int32) × (Nat → Int32) × (Nat → Int32) × (Nat → Int32) × (Nat → Int32) × (Nat → Int32) × (Nat → Int32) × (Nat → Int32)} (h : tlR o y) : dq_z y.1 := by
  unfold dq_z
  cases o with
  | none => exact Or.inl h
  | some h' => exact Or.inr h.1
def tellA (kd fg c w : Nat) (h : AH) : Option AH := if kd < 8 ∧ c < 36 ∧ w < 4 ∧ aA h < 5 ∧ freeS h c = true then some (addAirS h kd fg c w) else none
def tellP (c n : Nat) (h : AH) : Option AH := if c < 36 ∧ aS h < 6 ∧ freeS h c = true then some (addSitS h c n) else none
def tellD (c : Nat) (h : AH) : Option AH := if c < 36 ∧ takenS h c = false then some (toggleS h c) else none
def tellW (c n : Nat) (h : AH) : Option AH := if c < 36 then some (warmS h c (FP.i2f (nI n))) else none
def tellT (n : Nat) (h : AH) : Option AH := if 1 ≤ n ∧ n ≤ 60 ∧ aTn h + n ≤ 999 then some (goS n h) else none
def stI (lt : Nat → Int32) (q : Nat) : Nat := (stp (lt q)).toInt.toNat
def hthS (lt : Nat → Int32) : Nat → Nat → AH → AH
  | 0, _, h => h
  | n + 1, q, h => hthS lt n (nx lt q) (addStepS h (stI lt q) (stA lt q))
def tellL (lt : Nat → Int32) (q : Nat) (h : AH) : Option AH := if stK lt 96 q ≤ 6 then some (hthS lt (stK lt 96 q) q (clearS h)) else none
def tellS (lt : Nat → Int32) (p : Nat) (h : AH) : Option AH :=
  if lt p = 97 then tellA (nm lt 1 (p + 1) 0) (nm lt 1 (p + 2) 0) (nm lt 2 (p + 3) 0) (nm lt 1 (p + 5) 0) h
  else if lt p = 100 then tellD (nm lt 2 (p + 1) 0) h
  else if lt p = 108 then tellL lt (p + 1) h
  else if lt p = 112 then tellP (nm lt 2 (p + 1) 0) (nm lt 1 (p + 3) 0) h
  else if lt p = 119 then tellW (nm lt 2 (p + 1) 0) (nm lt 2 (p + 3) 0) h
  else tellT (nm lt 2 (p + 1) 0) h
theorem stI_ok {lt : Nat → Int32} {q : Nat} (h : ¬ stp (lt q) < 0) : stp (lt q) = nI (stI lt q) ∧ stI lt q < 7 := by
  rcases stp_3 (lt q) with z | ⟨st, h1, h2⟩
  · exact absurd z h
  · have : stI lt q = st := by
      unfold stI
      rw [h2, nI_toInt (by omega)]
      rfl
    rw [this]
    exact ⟨h2, h1⟩
theorem stA_v {lt : Nat → Int32} {q : Nat} : nI (stA lt q) = nI (if stI lt q = 6 then 0 else stA lt q) := by
  congr 1
  by_cases z : stI lt q = 6
  · rw [if_pos z]
    unfold stA
    by_cases y : stp (lt q) = 6
    · exact if_pos y
    · exfalso
      rcases stp_3 (lt q) with w | ⟨st, h1, h2⟩
      · have h0 : (stp (lt q)).toInt < 0 := by
          have := Int32.lt_iff_toInt_lt.mp w
          rw [i0] at this
          exact this
        unfold stI at z
        omega
      · unfold stI at z
        rw [h2, nI_toInt (by omega)] at z
        apply y
        rw [h2, show st = 6 by omega]
        rfl
  · rw [if_neg z]
/-- a good row of steps -/
theorem stB_g {lt : Nat → Int32} {f q : Nat} (h : ¬ stp (lt q) < 0) (g : (stB lt (f + 1) q).2 = false) : stB lt (f + 1) q = stB lt f (nx lt q) ∧ stK lt (f + 1) q = stK lt f (nx lt q) + 1 ∧ (¬ stp (lt q) = 6 → (dg lt 2 (q + 1)).2 = false ∧ (dg lt 2 (q + 1)).1 = q + 3 ∧ ∀ i, i < 2 → isD (lt (q + 1 + i)) = true) := by
  have e : stB lt (f + 1) q = if stp (lt q) < 0 then (q, false) else if stp (lt q) = 6 then stB lt f (q + 1) else if (dg lt 2 (q + 1)).2 = true then dg lt 2 (q + 1) else stB lt f (dg lt 2 (q + 1)).1 := rfl
  have ek : stK lt (f + 1) q = if stp (lt q) < 0 then 0 else stK lt f (nx lt q) + 1 := rfl
  rw [if_neg h] at e ek
  by_cases y : stp (lt q) = 6
  · have n1 : nx lt q = q + 1 := if_pos y
    rw [if_pos y] at e
    rw [n1] at ek ⊢
    exact ⟨e, ek, fun z => absurd y z⟩
  · have n1 : nx lt q = q + 3 := if_neg y
    rw [if_neg y] at e
    by_cases x : (dg lt 2 (q + 1)).2 = true
    · rw [if_pos x] at e
      rw [e, x] at g
      cases g
    · have x' : (dg lt 2 (q + 1)).2 = false := by simpa using x
      obtain ⟨v1, v2⟩ := (dg_le (lt := lt) 2 (q + 1)).2.2 x'
      have v3 : (dg lt 2 (q + 1)).1 = q + 3 := v1
      rw [if_neg x, v3] at e
      rw [n1] at ek ⊢
      exact ⟨e, ek, fun _ => ⟨x', v3, v2⟩⟩
theorem stA_le {lt : Nat → Int32} {q : Nat} (h : ¬ stp (lt q) = 6 → ∀ i, i < 2 → isD (lt (q + 1 + i)) = true) : stA lt q ≤ 99 := by
  unfold stA
  by_cases y : stp (lt q) = 6
  · rw [if_pos y]
    omega
  · rw [if_neg y]
    have := nm_le (lt := lt) 2 (q + 1) 0 (h y)
    omega
theorem hthS_f {lt : Nat → Int32} : ∀ (n q : Nat) (h : AH), aTn (hthS lt n q h) = aTn h ∧ aHc (hthS lt n q h) = aHc h + n ∧ (aJ h → aJ (hthS lt n q h))
  | 0, _, _ => ⟨rfl, rfl, fun j => j⟩
  | n + 1, q, h => by
    obtain ⟨h1, h2, h3⟩ := hthS_f (lt := lt) n (nx lt q) (addStepS h (stI lt q) (stA lt q))
    refine ⟨h1, h2.trans ?_, fun j => h3 j⟩
    show aHc h + 1 + n = aHc h + (n + 1)
    omega
theorem hthS_V {lt : Nat → Int32} : ∀ (f q : Nat) (h : AH), (stB lt f q).2 = false → aV h → aHc h + stK lt f q ≤ 6 → aV (hthS lt (stK lt f q) q h)
  | 0, _, _, _, V, _ => V
  | f + 1, q, h, g, V, hc => by
    by_cases z : stp (lt q) < 0
    · have : stK lt (f + 1) q = 0 := if_pos z
      rw [this]
      exact V
    · obtain ⟨e1, e2, e3⟩ := stB_g z g
      rw [e2] at hc ⊢
      rw [e1] at g
      exact hthS_V f (nx lt q) (addStepS h (stI lt q) (stA lt q)) g (addStepS_V V (by omega) (stI_ok z).2 (stA_le fun y => (e3 y).2.2)) (by show aHc h + 1 + _ ≤ 6; omega)
theorem i2f_N {n : Nat} (h : n ≤ 100) : fH (FP.i2f (nI n)) := i2f_H0 h
theorem tellA_G {h h' : AH} {kd fg c w : Nat} (G : aG h) (hf : fg ≤ 9) (e : tellA kd fg c w h = some h') : aG h' := by
  unfold tellA at e
  split at e
  · rename_i z
    cases e
    obtain ⟨z1, z2, z3, z4, z5⟩ := z
    exact ⟨addAirS_V G.1 z4 z1 hf z2 z3, aI_of (aJ_addAir (aJ_of G.1 G.2.1) (free_sd z5)), G.2.2⟩
  · cases e
theorem tellP_G {h h' : AH} {c n : Nat} (G : aG h) (hn : n ≤ 9) (e : tellP c n h = some h') : aG h' := by
  unfold tellP at e
  split at e
  · rename_i z
    cases e
    obtain ⟨z1, z2, z3⟩ := z
    exact ⟨addSitS_V G.1 z2 z1 hn, aI_of (aJ_addSit (aJ_of G.1 G.2.1) (free_sd z3)), G.2.2⟩
  · cases e
theorem tellD_G {h h' : AH} {c : Nat} (G : aG h) (e : tellD c h = some h') : aG h' := by
  unfold tellD at e
  split at e
  · rename_i z
    cases e
    exact ⟨show aV (toggleS h c) from G.1, aI_of (aJ_toggle G.1 (aJ_of G.1 G.2.1) z.2), G.2.2⟩
  · cases e
theorem tellW_G {h h' : AH} {c n : Nat} (G : aG h) (hn : n ≤ 99) (e : tellW c n h = some h') : aG h' := by
  unfold tellW at e
  split at e
  · cases e
    exact ⟨warmS_V G.1 (i2f_N (by omega)), G.2.1, G.2.2⟩
  · cases e
theorem tellT_G {h h' : AH} {n : Nat} (G : aG h) (e : tellT n h = some h') : aG h' := by
  unfold tellT at e
  split at e
  · rename_i z
    cases e
    obtain ⟨V1, -, -, t1⟩ := goS_V n G.1 (by omega)
    exact ⟨V1, aI_of (aJ_go n (aJ_of G.1 G.2.1)), by omega⟩
  · cases e
theorem tellL_G {lt : Nat → Int32} {h h' : AH} {q : Nat} (G : aG h) (g : (stB lt 96 q).2 = false) (e : tellL lt q h = some h') : aG h' := by
  unfold tellL at e
  split at e
  · rename_i z
    cases e
    obtain ⟨t1, -, t3⟩ := hthS_f (lt := lt) (stK lt 96 q) q (clearS h)
    exact ⟨hthS_V 96 q (clearS h) g (clearS_V G.1) (by show 0 + _ ≤ 6; omega), aI_of (t3 (show aJ (clearS h) from (aJ_of G.1 G.2.1 : aJ h))), by rw [t1]; exact G.2.2⟩
  · cases e
/-- digits of a good statement -/
theorem bodyD {lt : Nat → Int32} {p d : Nat} (g : (stE lt p).2 = false) (hb : bodyE lt (lt p) (p + 1) = dg lt d (p + 1)) : ∀ i, i < d → isD (lt (p + 1 + i)) = true := by
  obtain ⟨-, -, h3, -, -⟩ := (stE_le (lt := lt) p).2 g
  rw [hb] at h3
  exact ((dg_le (lt := lt) d (p + 1)).2.2 h3).2
theorem nm1_le {lt : Nat → Int32} {q : Nat} (h : isD (lt q) = true) : nm lt 1 q 0 ≤ 9 := by
  have := nm_le (lt := lt) 1 q 0 (fun i hi => by rw [show i = 0 by omega]; exact h)
  omega
theorem nm2_le {lt : Nat → Int32} {q : Nat} (h : isD (lt q) = true) (h1 : isD (lt (q + 1)) = true) : nm lt 2 q 0 ≤ 99 := by
  have := nm_le (lt := lt) 2 q 0 (fun i hi => by rcases (show i = 0 ∨ i = 1 by omega) with rfl | rfl; exact h; exact h1)
  omega
theorem tellS_G {lt : Nat → Int32} {h h' : AH} {p : Nat} (G : aG h) (g : (stE lt p).2 = false) (e : tellS lt p h = some h') : aG h' := by
  obtain ⟨-, hl, hb, -, -⟩ := (stE_le (lt := lt) p).2 g
  unfold tellS at e
  rcases of_decide_eq_true hl with z | z | z | z | z | z
  · rw [if_pos z] at e
    have D := bodyD (d := 5) g (by rw [z]; rfl)
    exact tellA_G G (nm1_le (D 1 (by omega))) e
  · rw [if_neg (by rw [z]; decide), if_neg (by rw [z]; decide), if_neg (by rw [z]; decide), if_pos z] at e
    have D := bodyD (d := 3) g (by rw [z]; rfl)
    exact tellP_G G (nm1_le (D 2 (by omega))) e
  · rw [if_neg (by rw [z]; decide), if_pos z] at e
    exact tellD_G G e
  · rw [if_neg (by rw [z]; decide), if_neg (by rw [z]; decide), if_neg (by rw [z]; decide), if_neg (by rw [z]; decide), if_pos z] at e
    have D := bodyD (d := 4) g (by rw [z]; rfl)
    exact tellW_G G (nm2_le (D 2 (by omega)) (D 3 (by omega))) e
  · rw [if_neg (by rw [z]; decide), if_neg (by rw [z]; decide), if_pos z] at e
    rw [z] at hb
    exact tellL_G G hb e
  · rw [if_neg (by rw [z]; decide), if_neg (by rw [z]; decide), if_neg (by rw [z]; decide), if_neg (by rw [z]; decide), if_neg (by rw [z]; decide)] at e
    exact tellT_G G e
