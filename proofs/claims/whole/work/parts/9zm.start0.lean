/-! the start: classes, arrays, links -/
theorem st_K {s : State} {args : Array Value} (hts0 : ∀ w ∈ lw_tbl, w.before args s = true) : ∃ (D : va_G) (y : Nat → ClassId), va_K D vwCl (dTy y) s ∧ Nst s := by
  have hts : ∀ w ∈ wsL_law, w.before args s = true := fun w h => hts0 w (wsL_law_in w h)
  obtain ⟨c0, j0, h0⟩ := u_known (C := RX1) (T := TX1) (N := 3) (n := 3) hts iwX1 (hts _ wl_48)
  obtain ⟨c1, j1, h1⟩ := u_known (C := RX2) (T := TX2) (N := 15) (n := 15) hts iwX2 (hts _ wl_13)
  obtain ⟨c2, j2, h2⟩ := u_known (C := RX3) (T := TX3) (N := 3) (n := 3) hts iwX3 (hts _ wl_19)
  obtain ⟨c3, j3, h3⟩ := u_known (C := RX4) (T := TX4) (N := 4) (n := 4) hts iwX4 (hts _ wl_27)
  obtain ⟨c4, j4, h4⟩ := u_known (C := RX5) (T := TX5) (N := 2) (n := 2) hts iwX5 (hts _ wl_23)
  obtain ⟨c5, j5, h5⟩ := u_known (C := RX6) (T := TX6) (N := 12) (n := 12) hts iwX6 (hts _ wl_1)
  obtain ⟨c6, j6, h6⟩ := u_known (C := RX7) (T := TX7) (N := 53) (n := 53) hts iwX7 (hts _ wl_4)
  obtain ⟨a0, ka0, b0, f0, g0, e0⟩ := Cond.arrayClass_spec (hts _ wl_39 : (Cond.arrayClass .float).before args s = true)
  obtain ⟨a1, ka1, b1, f1, g1, e1⟩ := Cond.arrayClass_spec (hts _ wl_30 : (Cond.arrayClass .int).before args s = true)
  obtain ⟨a2, ka2, b2, f2, g2, e2⟩ := Cond.arrayClass_spec (hts _ wl_112 : (Cond.arrayClass .boolean).before args s = true)
  have wh : (Cond.arrayOver (.object "DraughtsTake$House")).before args s = true := (hts0 _ (lw_t1 (List.mem_of_getElem? (i := 121) rfl)))
  have wi : (Cond.arrayOver (.array .int)).before args s = true := (hts0 _ (lw_t1 (List.mem_of_getElem? (i := 156) rfl)))
  have w1 : (Cond.methodLinkNest RX2 36 yX1_init RX6).before args s = true := (hts0 _ (lw_t1 (List.mem_of_getElem? (i := 30) rfl)))
  have w2 : (Cond.methodLinkNest RX6 31 yX5_init RX6).before args s = true := (hts0 _ (lw_t1 (List.mem_of_getElem? (i := 136) rfl)))
  obtain ⟨b3, a3, ka3, p3, -, g3, e3, f3⟩ := Cond.arrayOver_spec wh
  obtain ⟨b4, a4, ka4, p4, -, g4, e4, f4⟩ := Jvm.Stand.arrayOver_specB wi
  refine ⟨(fun k => if k = 0 then c0 else if k = 1 then c1 else if k = 2 then c2 else if k = 3 then c3 else if k = 4 then c4 else if k = 5 then c5 else c6, fun k => if k = 0 then j0 else if k = 1 then j1 else if k = 2 then j2 else if k = 3 then j3 else if k = 4 then j4 else if k = 5 then j5 else j6), fun k => if k = 0 then a0 else if k = 1 then a1 else if k = 2 then a2 else if k = 3 then a3 else a4, ⟨?_, ?_⟩, va_Nw.of rfl w1, va_Nw.of rfl w2, va_AO.of wh, wi⟩
  · intro k q hq
    match k, hq with
    | 0, hq => cases hq; exact h0
    | 1, hq => cases hq; exact h1
    | 2, hq => cases hq; exact h2
    | 3, hq => cases hq; exact h3
    | 4, hq => cases hq; exact h4
    | 5, hq => cases hq; exact h5
    | 6, hq => cases hq; exact h6
    | k + 7, hq => simp [vwCl] at hq
  · intro k q hq
    match k, hq with
    | 0, hq => cases hq; exact ⟨fun N z => ⟨(fun k h => by cases h), ka0, g0, b0, e0⟩, f0⟩
    | 1, hq => cases hq; exact ⟨fun N z => ⟨(fun k h => by cases h), ka1, g1, b1, e1⟩, f1⟩
    | 2, hq => cases hq; exact ⟨fun N z => ⟨(fun k h => by cases h), ka2, g2, b2, e2⟩, f2⟩
    | 3, hq => cases hq; exact ⟨fun N z => ⟨(fun k h => by cases h), ka3, g3, b3, e3⟩, ka3, b3, g3, e3, p3, f3⟩
    | 4, hq => cases hq; exact ⟨fun N z => ⟨(fun k h => by cases h), ka4, g4, b4, e4⟩, f4⟩
    | k + 5, hq => simp [dTy] at hq
