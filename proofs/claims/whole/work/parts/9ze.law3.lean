/-! the law, from one night to the next -/
theorem law_loop {p : Program} {l : Launch} {e : Env} {s : State} {m : MethodId} {below : List Frame} {meth : Method} {c : Code} {b L : Nat} {xs : Nat → Int32} {D : va_G} {y : Nat → ClassId} {a a2 : Nat → Nat} (hL : L ≤ 3072) (C0 : lw_At p s m meth c b L xs) (hK : va_K D vwCl (dTy y) s) : ∀ (n i : Nat) (s6 : S6) (s7 : S7), i ≤ L → L + 1 ≤ i + 6 * n → Rel s6 s7 → lw_go p l e s m below meth c b D y a a2 i 18 s6 s7 := by
  obtain ⟨hx, hb, hr, hml, hown, hts0, hX, hbl, hlocks, hgv⟩ := id C0
  have hA : ∀ q : Nat, s.heap.size ≤ q → (fun q : Nat => s.heap.size ≤ q) q := fun _ h => h
  have hbA : ¬ (fun q : Nat => s.heap.size ≤ q) b := Nat.not_le.mpr hbl
  intro n
  induction n with
  | zero =>
    intro i s6 s7 h1 h2
    exact absurd h2 (by omega)
  | succ n ih =>
    intro i s6 s7 hiL hn R0 H locs ls hP hD hS hl
    have c6 : (nI L - (6 : Int32)).toInt = (L : Int) - 6 := pk_sub_toInt (b := 6) (by omega) (by omega)
    refine lv_iload_n hx hb dL_law_18 rfl (lv_at hl 3 rfl) ?_
    refine lv_aload_n hx hb dL_law_19 rfl (lv_at hl 0 rfl) ?_
    refine va_slen hx hb hX hbl hbA hS dL_law_20 ?_
    refine lv_bipush (v := 6) hx hb dL_law_21 (by decide) ?_
    refine lv_isub hx hb dL_law_23 ?_
    refine lv_icmp_gt (tgt := 1590) hx hb dL_law_24 (by decide) (fun cc => ?_) (fun cc => ?_)
    · refine lv_iconst (v := 1) hx hb dL_law_1590 (by decide) ?_
      refine va_forget (fun q hq => hS.2.2 q hq) ?_
      refine W.base ?_
      exact lw_ret (Drawn.sameBut.refl s.drawn lw_cs) hx hb hr hlocks dL_law_1591
    · have hi6 : i + 6 ≤ L := by
        have q := mt Int32.lt_iff_toInt_lt.mpr cc
        have e : (nI i).toInt = (i : Int) := nI_toInt (by omega)
        rw [e] at q
        have q2 : ¬ (nI L - (6 : Int32)).toInt < (i : Int) := q
        rw [c6] at q2
        omega
      have K : ∀ (t6 : S6) (t7 : S7), Rel t6 t7 → lw_go p l e s m below meth c b D y a a2 i 1584 t6 t7 := by
        intro t6 t7 R1 H locs ls hP hD hS hl
        refine lv_iinc (v := nI (i + 6)) (lv' := [(3, .int (nI (i + 6))), (0, .ref b), (1, .ref (a 0)), (2, .ref (a2 0))]) hx hb dL_law_1584 hl (k := 3) rfl (by rw [← nI_add i 6]; rfl) (by decide) rfl (fun ls hl => ?_)
        refine lv_goto (tgt := 18) hx hb dL_law_1587 (by decide) ?_
        exact ih (i + 6) t6 t7 hi6 (by omega) R1 H locs ls hP hD hS (lv_sub hl [1, 2, 3, 0] rfl)
      refine lv_aload_n hx hb dL_law_27 rfl (lv_at hl 0 rfl) ?_
      refine lv_iload_n hx hb dL_law_28 rfl (lv_at hl 3 rfl) ?_
      refine va_sld hx hb hX hbl hbA hS (vp_in_nI (by omega) (by omega)) dL_law_29 ?_
      refine lv_bipush (v := 63) hx hb dL_law_30 (by decide) ?_
      refine lv_iand hx hb dL_law_32 ?_
      refine lv_topi (fun x ex => ?_)
      clear ex
      by_cases c0 : x = (0 : Int32)
      · refine lv_tableIn (tgt := 228) (off := 195) hx hb dL_law_33 (by rw [c0]; decide) (by rw [c0]; decide) (by rw [c0]; decide) (by decide) ?_
        exact lw_c0 hL C0 hK R0 hi6 K H locs ls hP hD hS hl
      by_cases c1 : x = (1 : Int32)
      · refine lv_tableIn (tgt := 251) (off := 218) hx hb dL_law_33 (by rw [c1]; decide) (by rw [c1]; decide) (by rw [c1]; decide) (by decide) ?_
        exact lw_c1 hL C0 hK R0 hi6 K H locs ls hP hD hS hl
      by_cases c2 : x = (2 : Int32)
      · refine lv_tableIn (tgt := 264) (off := 231) hx hb dL_law_33 (by rw [c2]; decide) (by rw [c2]; decide) (by rw [c2]; decide) (by decide) ?_
        exact lw_c2 hL C0 hK R0 hi6 K H locs ls hP hD hS hl
      by_cases c3 : x = (3 : Int32)
      · refine lv_tableIn (tgt := 297) (off := 264) hx hb dL_law_33 (by rw [c3]; decide) (by rw [c3]; decide) (by rw [c3]; decide) (by decide) ?_
        exact lw_c3 hL C0 hK R0 hi6 K H locs ls hP hD hS hl
      by_cases c4 : x = (4 : Int32)
      · refine lv_tableIn (tgt := 330) (off := 297) hx hb dL_law_33 (by rw [c4]; decide) (by rw [c4]; decide) (by rw [c4]; decide) (by decide) ?_
        exact lw_c4 hL C0 hK R0 hi6 K H locs ls hP hD hS hl
      by_cases c5 : x = (5 : Int32)
      · refine lv_tableIn (tgt := 363) (off := 330) hx hb dL_law_33 (by rw [c5]; decide) (by rw [c5]; decide) (by rw [c5]; decide) (by decide) ?_
        exact lw_c5 hL C0 hK R0 hi6 K H locs ls hP hD hS hl
      by_cases c6 : x = (6 : Int32)
      · refine lv_tableIn (tgt := 386) (off := 353) hx hb dL_law_33 (by rw [c6]; decide) (by rw [c6]; decide) (by rw [c6]; decide) (by decide) ?_
        exact lw_c6 hL C0 hK R0 hi6 K H locs ls hP hD hS hl
      by_cases c7 : x = (7 : Int32)
      · refine lv_tableIn (tgt := 429) (off := 396) hx hb dL_law_33 (by rw [c7]; decide) (by rw [c7]; decide) (by rw [c7]; decide) (by decide) ?_
        exact lw_c7 hL C0 hK R0 hi6 K H locs ls hP hD hS hl
      by_cases c8 : x = (8 : Int32)
      · refine lv_tableIn (tgt := 452) (off := 419) hx hb dL_law_33 (by rw [c8]; decide) (by rw [c8]; decide) (by rw [c8]; decide) (by decide) ?_
        exact lw_c8 hL C0 hK R0 hi6 K H locs ls hP hD hS hl
      by_cases c9 : x = (9 : Int32)
      · refine lv_tableIn (tgt := 475) (off := 442) hx hb dL_law_33 (by rw [c9]; decide) (by rw [c9]; decide) (by rw [c9]; decide) (by decide) ?_
        exact lw_c9 hL C0 hK R0 hi6 K H locs ls hP hD hS hl
      by_cases c10 : x = (10 : Int32)
      · refine lv_tableIn (tgt := 508) (off := 475) hx hb dL_law_33 (by rw [c10]; decide) (by rw [c10]; decide) (by rw [c10]; decide) (by decide) ?_
        exact lw_c10 hL C0 hK R0 hi6 K H locs ls hP hD hS hl
      by_cases c11 : x = (11 : Int32)
      · refine lv_tableIn (tgt := 541) (off := 508) hx hb dL_law_33 (by rw [c11]; decide) (by rw [c11]; decide) (by rw [c11]; decide) (by decide) ?_
        exact lw_c11 hL C0 hK R0 hi6 K H locs ls hP hD hS hl
      by_cases c12 : x = (12 : Int32)
      · refine lv_tableIn (tgt := 574) (off := 541) hx hb dL_law_33 (by rw [c12]; decide) (by rw [c12]; decide) (by rw [c12]; decide) (by decide) ?_
        exact lw_c12 hL C0 hK R0 hi6 K H locs ls hP hD hS hl
      by_cases c13 : x = (13 : Int32)
      · refine lv_tableIn (tgt := 607) (off := 574) hx hb dL_law_33 (by rw [c13]; decide) (by rw [c13]; decide) (by rw [c13]; decide) (by decide) ?_
        exact lw_c13 hL C0 hK R0 hi6 K H locs ls hP hD hS hl
      by_cases c14 : x = (14 : Int32)
      · refine lv_tableIn (tgt := 640) (off := 607) hx hb dL_law_33 (by rw [c14]; decide) (by rw [c14]; decide) (by rw [c14]; decide) (by decide) ?_
        exact lw_c14 hL C0 hK R0 hi6 K H locs ls hP hD hS hl
      by_cases c15 : x = (15 : Int32)
      · refine lv_tableIn (tgt := 653) (off := 620) hx hb dL_law_33 (by rw [c15]; decide) (by rw [c15]; decide) (by rw [c15]; decide) (by decide) ?_
        exact lw_c15 hL C0 hK R0 hi6 K H locs ls hP hD hS hl
      by_cases c16 : x = (16 : Int32)
      · refine lv_tableIn (tgt := 676) (off := 643) hx hb dL_law_33 (by rw [c16]; decide) (by rw [c16]; decide) (by rw [c16]; decide) (by decide) ?_
        exact lw_c16 hL C0 hK R0 hi6 K H locs ls hP hD hS hl
      by_cases c17 : x = (17 : Int32)
      · refine lv_tableIn (tgt := 689) (off := 656) hx hb dL_law_33 (by rw [c17]; decide) (by rw [c17]; decide) (by rw [c17]; decide) (by decide) ?_
        exact lw_c17 hL C0 hK R0 hi6 K H locs ls hP hD hS hl
      by_cases c18 : x = (18 : Int32)
      · refine lv_tableIn (tgt := 722) (off := 689) hx hb dL_law_33 (by rw [c18]; decide) (by rw [c18]; decide) (by rw [c18]; decide) (by decide) ?_
        exact lw_c18 hL C0 hK R0 hi6 K H locs ls hP hD hS hl
      by_cases c19 : x = (19 : Int32)
      · refine lv_tableIn (tgt := 755) (off := 722) hx hb dL_law_33 (by rw [c19]; decide) (by rw [c19]; decide) (by rw [c19]; decide) (by decide) ?_
        exact lw_c19 hL C0 hK R0 hi6 K H locs ls hP hD hS hl
      by_cases c20 : x = (20 : Int32)
      · refine lv_tableIn (tgt := 788) (off := 755) hx hb dL_law_33 (by rw [c20]; decide) (by rw [c20]; decide) (by rw [c20]; decide) (by decide) ?_
        exact lw_c20 hL C0 hK R0 hi6 K H locs ls hP hD hS hl
      by_cases c21 : x = (21 : Int32)
      · refine lv_tableIn (tgt := 811) (off := 778) hx hb dL_law_33 (by rw [c21]; decide) (by rw [c21]; decide) (by rw [c21]; decide) (by decide) ?_
        exact lw_c21 hL C0 hK R0 hi6 K H locs ls hP hD hS hl
      by_cases c22 : x = (22 : Int32)
      · refine lv_tableIn (tgt := 844) (off := 811) hx hb dL_law_33 (by rw [c22]; decide) (by rw [c22]; decide) (by rw [c22]; decide) (by decide) ?_
        exact lw_c22 hL C0 hK R0 hi6 K H locs ls hP hD hS hl
      by_cases c23 : x = (23 : Int32)
      · refine lv_tableIn (tgt := 877) (off := 844) hx hb dL_law_33 (by rw [c23]; decide) (by rw [c23]; decide) (by rw [c23]; decide) (by decide) ?_
        exact lw_c23 hL C0 hK R0 hi6 K H locs ls hP hD hS hl
      by_cases c24 : x = (24 : Int32)
      · refine lv_tableIn (tgt := 900) (off := 867) hx hb dL_law_33 (by rw [c24]; decide) (by rw [c24]; decide) (by rw [c24]; decide) (by decide) ?_
        exact lw_c24 hL C0 hK R0 hi6 K H locs ls hP hD hS hl
      by_cases c25 : x = (25 : Int32)
      · refine lv_tableIn (tgt := 933) (off := 900) hx hb dL_law_33 (by rw [c25]; decide) (by rw [c25]; decide) (by rw [c25]; decide) (by decide) ?_
        exact lw_c25 hL C0 hK R0 hi6 K H locs ls hP hD hS hl
      by_cases c26 : x = (26 : Int32)
      · refine lv_tableIn (tgt := 966) (off := 933) hx hb dL_law_33 (by rw [c26]; decide) (by rw [c26]; decide) (by rw [c26]; decide) (by decide) ?_
        exact lw_c26 hL C0 hK R0 hi6 K H locs ls hP hD hS hl
      by_cases c27 : x = (27 : Int32)
      · refine lv_tableIn (tgt := 1009) (off := 976) hx hb dL_law_33 (by rw [c27]; decide) (by rw [c27]; decide) (by rw [c27]; decide) (by decide) ?_
        exact lw_c27 hL C0 hK R0 hi6 K H locs ls hP hD hS hl
      by_cases c28 : x = (28 : Int32)
      · refine lv_tableIn (tgt := 1052) (off := 1019) hx hb dL_law_33 (by rw [c28]; decide) (by rw [c28]; decide) (by rw [c28]; decide) (by decide) ?_
        exact lw_c28 hL C0 hK R0 hi6 K H locs ls hP hD hS hl
      by_cases c29 : x = (29 : Int32)
      · refine lv_tableIn (tgt := 1106) (off := 1073) hx hb dL_law_33 (by rw [c29]; decide) (by rw [c29]; decide) (by rw [c29]; decide) (by decide) ?_
        exact lw_c29 hL C0 hK R0 hi6 K H locs ls hP hD hS hl
      by_cases c30 : x = (30 : Int32)
      · refine lv_tableIn (tgt := 1129) (off := 1096) hx hb dL_law_33 (by rw [c30]; decide) (by rw [c30]; decide) (by rw [c30]; decide) (by decide) ?_
        exact lw_c30 hL C0 hK R0 hi6 K H locs ls hP hD hS hl
      by_cases c31 : x = (31 : Int32)
      · refine lv_tableIn (tgt := 1152) (off := 1119) hx hb dL_law_33 (by rw [c31]; decide) (by rw [c31]; decide) (by rw [c31]; decide) (by decide) ?_
        exact lw_c31 hL C0 hK R0 hi6 K H locs ls hP hD hS hl
      by_cases c32 : x = (32 : Int32)
      · refine lv_tableIn (tgt := 1185) (off := 1152) hx hb dL_law_33 (by rw [c32]; decide) (by rw [c32]; decide) (by rw [c32]; decide) (by decide) ?_
        exact lw_c32 hL C0 hK R0 hi6 K H locs ls hP hD hS hl
      by_cases c33 : x = (33 : Int32)
      · refine lv_tableIn (tgt := 1208) (off := 1175) hx hb dL_law_33 (by rw [c33]; decide) (by rw [c33]; decide) (by rw [c33]; decide) (by decide) ?_
        exact lw_c33 hL C0 hK R0 hi6 K H locs ls hP hD hS hl
      by_cases c34 : x = (34 : Int32)
      · refine lv_tableIn (tgt := 1251) (off := 1218) hx hb dL_law_33 (by rw [c34]; decide) (by rw [c34]; decide) (by rw [c34]; decide) (by decide) ?_
        exact lw_c34 hL C0 hK R0 hi6 K H locs ls hP hD hS hl
      by_cases c35 : x = (35 : Int32)
      · refine lv_tableIn (tgt := 1304) (off := 1271) hx hb dL_law_33 (by rw [c35]; decide) (by rw [c35]; decide) (by rw [c35]; decide) (by decide) ?_
        exact lw_c35 hL C0 hK R0 hi6 K H locs ls hP hD hS hl
      by_cases c36 : x = (36 : Int32)
      · refine lv_tableIn (tgt := 1337) (off := 1304) hx hb dL_law_33 (by rw [c36]; decide) (by rw [c36]; decide) (by rw [c36]; decide) (by decide) ?_
        exact lw_c36 hL C0 hK R0 hi6 K H locs ls hP hD hS hl
      by_cases c37 : x = (37 : Int32)
      · refine lv_tableIn (tgt := 1380) (off := 1347) hx hb dL_law_33 (by rw [c37]; decide) (by rw [c37]; decide) (by rw [c37]; decide) (by decide) ?_
        exact lw_c37 hL C0 hK R0 hi6 K H locs ls hP hD hS hl
      by_cases c38 : x = (38 : Int32)
      · refine lv_tableIn (tgt := 1443) (off := 1410) hx hb dL_law_33 (by rw [c38]; decide) (by rw [c38]; decide) (by rw [c38]; decide) (by decide) ?_
        exact lw_c38 hL C0 hK R0 hi6 K H locs ls hP hD hS hl
      by_cases c39 : x = (39 : Int32)
      · refine lv_tableIn (tgt := 1466) (off := 1433) hx hb dL_law_33 (by rw [c39]; decide) (by rw [c39]; decide) (by rw [c39]; decide) (by decide) ?_
        exact lw_c39 hL C0 hK R0 hi6 K H locs ls hP hD hS hl
      by_cases c40 : x = (40 : Int32)
      · refine lv_tableIn (tgt := 1479) (off := 1446) hx hb dL_law_33 (by rw [c40]; decide) (by rw [c40]; decide) (by rw [c40]; decide) (by decide) ?_
        exact lw_c40 hL C0 hK R0 hi6 K H locs ls hP hD hS hl
      by_cases c41 : x = (41 : Int32)
      · refine lv_tableIn (tgt := 1492) (off := 1459) hx hb dL_law_33 (by rw [c41]; decide) (by rw [c41]; decide) (by rw [c41]; decide) (by decide) ?_
        exact lw_c41 hL C0 hK R0 hi6 K H locs ls hP hD hS hl
      by_cases c42 : x = (42 : Int32)
      · refine lv_tableIn (tgt := 1535) (off := 1502) hx hb dL_law_33 (by rw [c42]; decide) (by rw [c42]; decide) (by rw [c42]; decide) (by decide) ?_
        exact lw_c42 hL C0 hK R0 hi6 K H locs ls hP hD hS hl
      by_cases c43 : x = (43 : Int32)
      · refine lv_tableIn (tgt := 1548) (off := 1515) hx hb dL_law_33 (by rw [c43]; decide) (by rw [c43]; decide) (by rw [c43]; decide) (by decide) ?_
        exact lw_c43 hL C0 hK R0 hi6 K H locs ls hP hD hS hl
      by_cases c44 : x = (44 : Int32)
      · refine lv_tableIn (tgt := 1561) (off := 1528) hx hb dL_law_33 (by rw [c44]; decide) (by rw [c44]; decide) (by rw [c44]; decide) (by decide) ?_
        exact lw_c44 hL C0 hK R0 hi6 K H locs ls hP hD hS hl
      have d0 : x.toInt ≠ 0 := fun q => c0 (Int32.toInt_inj.mp q)
      have d1 : x.toInt ≠ 1 := fun q => c1 (Int32.toInt_inj.mp q)
      have d2 : x.toInt ≠ 2 := fun q => c2 (Int32.toInt_inj.mp q)
      have d3 : x.toInt ≠ 3 := fun q => c3 (Int32.toInt_inj.mp q)
      have d4 : x.toInt ≠ 4 := fun q => c4 (Int32.toInt_inj.mp q)
      have d5 : x.toInt ≠ 5 := fun q => c5 (Int32.toInt_inj.mp q)
      have d6 : x.toInt ≠ 6 := fun q => c6 (Int32.toInt_inj.mp q)
      have d7 : x.toInt ≠ 7 := fun q => c7 (Int32.toInt_inj.mp q)
      have d8 : x.toInt ≠ 8 := fun q => c8 (Int32.toInt_inj.mp q)
      have d9 : x.toInt ≠ 9 := fun q => c9 (Int32.toInt_inj.mp q)
      have d10 : x.toInt ≠ 10 := fun q => c10 (Int32.toInt_inj.mp q)
      have d11 : x.toInt ≠ 11 := fun q => c11 (Int32.toInt_inj.mp q)
      have d12 : x.toInt ≠ 12 := fun q => c12 (Int32.toInt_inj.mp q)
      have d13 : x.toInt ≠ 13 := fun q => c13 (Int32.toInt_inj.mp q)
      have d14 : x.toInt ≠ 14 := fun q => c14 (Int32.toInt_inj.mp q)
      have d15 : x.toInt ≠ 15 := fun q => c15 (Int32.toInt_inj.mp q)
      have d16 : x.toInt ≠ 16 := fun q => c16 (Int32.toInt_inj.mp q)
      have d17 : x.toInt ≠ 17 := fun q => c17 (Int32.toInt_inj.mp q)
      have d18 : x.toInt ≠ 18 := fun q => c18 (Int32.toInt_inj.mp q)
      have d19 : x.toInt ≠ 19 := fun q => c19 (Int32.toInt_inj.mp q)
      have d20 : x.toInt ≠ 20 := fun q => c20 (Int32.toInt_inj.mp q)
      have d21 : x.toInt ≠ 21 := fun q => c21 (Int32.toInt_inj.mp q)
      have d22 : x.toInt ≠ 22 := fun q => c22 (Int32.toInt_inj.mp q)
      have d23 : x.toInt ≠ 23 := fun q => c23 (Int32.toInt_inj.mp q)
      have d24 : x.toInt ≠ 24 := fun q => c24 (Int32.toInt_inj.mp q)
      have d25 : x.toInt ≠ 25 := fun q => c25 (Int32.toInt_inj.mp q)
      have d26 : x.toInt ≠ 26 := fun q => c26 (Int32.toInt_inj.mp q)
      have d27 : x.toInt ≠ 27 := fun q => c27 (Int32.toInt_inj.mp q)
      have d28 : x.toInt ≠ 28 := fun q => c28 (Int32.toInt_inj.mp q)
      have d29 : x.toInt ≠ 29 := fun q => c29 (Int32.toInt_inj.mp q)
      have d30 : x.toInt ≠ 30 := fun q => c30 (Int32.toInt_inj.mp q)
      have d31 : x.toInt ≠ 31 := fun q => c31 (Int32.toInt_inj.mp q)
      have d32 : x.toInt ≠ 32 := fun q => c32 (Int32.toInt_inj.mp q)
      have d33 : x.toInt ≠ 33 := fun q => c33 (Int32.toInt_inj.mp q)
      have d34 : x.toInt ≠ 34 := fun q => c34 (Int32.toInt_inj.mp q)
      have d35 : x.toInt ≠ 35 := fun q => c35 (Int32.toInt_inj.mp q)
      have d36 : x.toInt ≠ 36 := fun q => c36 (Int32.toInt_inj.mp q)
      have d37 : x.toInt ≠ 37 := fun q => c37 (Int32.toInt_inj.mp q)
      have d38 : x.toInt ≠ 38 := fun q => c38 (Int32.toInt_inj.mp q)
      have d39 : x.toInt ≠ 39 := fun q => c39 (Int32.toInt_inj.mp q)
      have d40 : x.toInt ≠ 40 := fun q => c40 (Int32.toInt_inj.mp q)
      have d41 : x.toInt ≠ 41 := fun q => c41 (Int32.toInt_inj.mp q)
      have d42 : x.toInt ≠ 42 := fun q => c42 (Int32.toInt_inj.mp q)
      have d43 : x.toInt ≠ 43 := fun q => c43 (Int32.toInt_inj.mp q)
      have d44 : x.toInt ≠ 44 := fun q => c44 (Int32.toInt_inj.mp q)
      refine lv_tableOut (tgt := 1584) hx hb dL_law_33 (by omega) (by decide) ?_
      exact K s6 s7 R0 H locs ls hP hD hS hl
