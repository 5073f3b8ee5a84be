theorem lw_c0 {p : Program} {l : Launch} {e : Env} {s : State} {m : MethodId} {below : List Frame} {meth : Method} {c : Code} {b L : Nat} {xs : Nat → Int32} {D : va_G} {y : Nat → ClassId} {a a2 : Nat → Nat} {i : Nat} {s6 : S6} {s7 : S7} (hL : L ≤ 3072) (C0 : lw_At p s m meth c b L xs) (hK : va_K D vwCl (dTy y) s) (R0 : Rel s6 s7) (hi : i + 6 ≤ L) (K : ∀ (t6 : S6) (t7 : S7), Rel t6 t7 → lw_go p l e s m below meth c b D y a a2 i 1584 t6 t7) : lw_go p l e s m below meth c b D y a a2 i 228 s6 s7 := by
  obtain ⟨hx, hb, hr, hml, hown, hts0, hX, hbl, hlocks, hgv⟩ := C0
  have hts : ∀ w ∈ wsL_law, w.before #[Value.ref b] s = true := fun w h => hts0 w (wsL_law_in w h)
  have hA : ∀ q : Nat, s.heap.size ≤ q → (fun q : Nat => s.heap.size ≤ q) q := fun _ h => h
  have hbA : ¬ (fun q : Nat => s.heap.size ≤ q) b := Nat.not_le.mpr hbl
  have v1 : vp_in (nI i + (1 : Int32)) L := lw_ix hL hi (j := 1) (by omega) rfl
  obtain ⟨v, t6, t7, f6, f7, R1⟩ := s_feed a a2 R0 (xs (nI i + (1 : Int32)).toNatClampNeg)
  intro H locs ls hP hD hS hl
  refine lv_aload_n hx hb dL_law_228 rfl (lv_at hl 1 rfl) ?_
  refine lv_aload_n hx hb dL_law_229 rfl (lv_at hl 0 rfl) ?_
  refine lv_iload_n hx hb dL_law_230 rfl (lv_at hl 3 rfl) ?_
  refine lv_iconst (v := 1) hx hb dL_law_231 (by decide) ?_
  refine lv_iadd hx hb dL_law_232 ?_
  refine va_sld hx hb hX hbl hbA hS v1 dL_law_233 ?_
  refine lw_callL (ci := 5) (q0 := 0) (own := RL) (As := [.int (xs (nI i + (1 : Int32)).toNatClampNeg)]) (rest := []) ⟨hx, hb, hml, hown, hts⟩ (M6_feed l D y a s6 t6 (xs (nI i + (1 : Int32)).toNatClampNeg) v f6) (cwV 1 hts (gA_V wl_118 wl_119 wl_120 wl_2 wl_121) rfl rfl rfl (by decide +kernel) ⟨Nat.le_of_ble_eq_true rfl, Nat.le_of_ble_eq_true rfl⟩) rfl rfl rfl hl.1 rfl (Nat.le_of_ble_eq_true rfl) dL_law_234 ⟨Nat.le_refl _, Nat.le_refl _⟩ hK hP hD hS hA W6_len (fun H locs hP hD hS => ?_)
  refine lv_aload_n hx hb dL_law_237 rfl (lv_at hl 2 rfl) ?_
  refine lv_aload_n hx hb dL_law_238 rfl (lv_at hl 0 rfl) ?_
  refine lv_iload_n hx hb dL_law_239 rfl (lv_at hl 3 rfl) ?_
  refine lv_iconst (v := 1) hx hb dL_law_240 (by decide) ?_
  refine lv_iadd hx hb dL_law_241 ?_
  refine va_sld hx hb hX hbl hbA hS v1 dL_law_242 ?_
  refine lw_callR (ci := 6) (q0 := 0) (own := RL) (As := [.int (xs (nI i + (1 : Int32)).toNatClampNeg)]) (rest := [.int v]) ⟨hx, hb, hml, hown, hts⟩ (M7_feed l D y a2 s7 t7 (xs (nI i + (1 : Int32)).toNatClampNeg) v f7) (cwV 1 hts (gA_V wl_128 wl_129 wl_130 wl_5 wl_131) rfl rfl rfl (by decide +kernel) ⟨Nat.le_of_ble_eq_true rfl, Nat.le_of_ble_eq_true rfl⟩) rfl rfl rfl hl.1 rfl (Nat.le_of_ble_eq_true rfl) dL_law_243 ⟨Nat.le_refl _, Nat.le_refl _⟩ hK hP hD hS hA W7_len (fun H locs hP hD hS => ?_)
  refine lv_icmp_eq (tgt := 1584) hx hb dL_law_246 (by decide) (fun _ => ?_) (fun z => absurd rfl z)
  exact K t6 t7 R1 H locs ls hP hD hS hl
theorem lw_c1 {p : Program} {l : Launch} {e : Env} {s : State} {m : MethodId} {below : List Frame} {meth : Method} {c : Code} {b L : Nat} {xs : Nat → Int32} {D : va_G} {y : Nat → ClassId} {a a2 : Nat → Nat} {i : Nat} {s6 : S6} {s7 : S7} (hL : L ≤ 3072) (C0 : lw_At p s m meth c b L xs) (hK : va_K D vwCl (dTy y) s) (R0 : Rel s6 s7) (hi : i + 6 ≤ L) (K : ∀ (t6 : S6) (t7 : S7), Rel t6 t7 → lw_go p l e s m below meth c b D y a a2 i 1584 t6 t7) : lw_go p l e s m below meth c b D y a a2 i 251 s6 s7 := by
  obtain ⟨hx, hb, hr, hml, hown, hts0, hX, hbl, hlocks, hgv⟩ := C0
  have hts : ∀ w ∈ wsL_law, w.before #[Value.ref b] s = true := fun w h => hts0 w (wsL_law_in w h)
  have hA : ∀ q : Nat, s.heap.size ≤ q → (fun q : Nat => s.heap.size ≤ q) q := fun _ h => h
  have hbA : ¬ (fun q : Nat => s.heap.size ≤ q) b := Nat.not_le.mpr hbl
  obtain ⟨v, t6, t7, f6, f7, R1⟩ := s_house a a2 R0
  intro H locs ls hP hD hS hl
  refine lv_aload_n hx hb dL_law_251 rfl (lv_at hl 1 rfl) ?_
  refine lw_callL (ci := 5) (q0 := 0) (own := RL) (As := []) (rest := []) ⟨hx, hb, hml, hown, hts⟩ (M6_house l D y a s6 t6 v f6) (cwV 0 hts (gA_V wl_137 wl_138 wl_139 wl_2 wl_140) rfl rfl rfl (by decide +kernel) ⟨Nat.le_of_ble_eq_true rfl, Nat.le_of_ble_eq_true rfl⟩) rfl rfl rfl hl.1 rfl (Nat.le_of_ble_eq_true rfl) dL_law_252 ⟨Nat.le_refl _, Nat.le_refl _⟩ hK hP hD hS hA W6_len (fun H locs hP hD hS => ?_)
  refine lv_aload_n hx hb dL_law_255 rfl (lv_at hl 2 rfl) ?_
  refine lw_callR (ci := 6) (q0 := 0) (own := RL) (As := []) (rest := [.int v]) ⟨hx, hb, hml, hown, hts⟩ (M7_house l D y a2 s7 t7 v f7) (cwV 0 hts (gA_V wl_354 wl_355 wl_356 wl_5 wl_357) rfl rfl rfl (by decide +kernel) ⟨Nat.le_of_ble_eq_true rfl, Nat.le_of_ble_eq_true rfl⟩) rfl rfl rfl hl.1 rfl (Nat.le_of_ble_eq_true rfl) dL_law_256 ⟨Nat.le_refl _, Nat.le_refl _⟩ hK hP hD hS hA W7_len (fun H locs hP hD hS => ?_)
  refine lv_icmp_eq (tgt := 1584) hx hb dL_law_259 (by decide) (fun _ => ?_) (fun z => absurd rfl z)
  exact K t6 t7 R1 H locs ls hP hD hS hl
theorem lw_c2 {p : Program} {l : Launch} {e : Env} {s : State} {m : MethodId} {below : List Frame} {meth : Method} {c : Code} {b L : Nat} {xs : Nat → Int32} {D : va_G} {y : Nat → ClassId} {a a2 : Nat → Nat} {i : Nat} {s6 : S6} {s7 : S7} (hL : L ≤ 3072) (C0 : lw_At p s m meth c b L xs) (hK : va_K D vwCl (dTy y) s) (R0 : Rel s6 s7) (hi : i + 6 ≤ L) (K : ∀ (t6 : S6) (t7 : S7), Rel t6 t7 → lw_go p l e s m below meth c b D y a a2 i 1584 t6 t7) : lw_go p l e s m below meth c b D y a a2 i 264 s6 s7 := by
  obtain ⟨hx, hb, hr, hml, hown, hts0, hX, hbl, hlocks, hgv⟩ := C0
  have hts : ∀ w ∈ wsL_law, w.before #[Value.ref b] s = true := fun w h => hts0 w (wsL_law_in w h)
  have hA : ∀ q : Nat, s.heap.size ≤ q → (fun q : Nat => s.heap.size ≤ q) q := fun _ h => h
  have hbA : ¬ (fun q : Nat => s.heap.size ≤ q) b := Nat.not_le.mpr hbl
  have v1 : vp_in (nI i + (1 : Int32)) L := lw_ix hL hi (j := 1) (by omega) rfl
  have v2 : vp_in (nI i + (2 : Int32)) L := lw_ix hL hi (j := 2) (by omega) rfl
  obtain ⟨v, t6, t7, f6, f7, R1⟩ := s_air a a2 R0 (xs (nI i + (1 : Int32)).toNatClampNeg) (xs (nI i + (2 : Int32)).toNatClampNeg)
  intro H locs ls hP hD hS hl
  refine lv_aload_n hx hb dL_law_264 rfl (lv_at hl 1 rfl) ?_
  refine lv_aload_n hx hb dL_law_265 rfl (lv_at hl 0 rfl) ?_
  refine lv_iload_n hx hb dL_law_266 rfl (lv_at hl 3 rfl) ?_
  refine lv_iconst (v := 1) hx hb dL_law_267 (by decide) ?_
  refine lv_iadd hx hb dL_law_268 ?_
  refine va_sld hx hb hX hbl hbA hS v1 dL_law_269 ?_
  refine lv_aload_n hx hb dL_law_270 rfl (lv_at hl 0 rfl) ?_
  refine lv_iload_n hx hb dL_law_271 rfl (lv_at hl 3 rfl) ?_
  refine lv_iconst (v := 2) hx hb dL_law_272 (by decide) ?_
  refine lv_iadd hx hb dL_law_273 ?_
  refine va_sld hx hb hX hbl hbA hS v2 dL_law_274 ?_
  refine lw_callL (ci := 5) (q0 := 0) (own := RL) (As := [.int (xs (nI i + (1 : Int32)).toNatClampNeg), .int (xs (nI i + (2 : Int32)).toNatClampNeg)]) (rest := []) ⟨hx, hb, hml, hown, hts⟩ (M6_air l D y a s6 t6 (xs (nI i + (1 : Int32)).toNatClampNeg) (xs (nI i + (2 : Int32)).toNatClampNeg) v f6) (cwV 2 hts (gA_V wl_529 wl_530 wl_531 wl_2 wl_532) rfl rfl rfl (by decide +kernel) ⟨Nat.le_of_ble_eq_true rfl, Nat.le_of_ble_eq_true rfl⟩) rfl rfl rfl hl.1 rfl (Nat.le_of_ble_eq_true rfl) dL_law_275 ⟨Nat.le_refl _, Nat.le_refl _⟩ hK hP hD hS hA W6_len (fun H locs hP hD hS => ?_)
  refine lv_aload_n hx hb dL_law_278 rfl (lv_at hl 2 rfl) ?_
  refine lv_aload_n hx hb dL_law_279 rfl (lv_at hl 0 rfl) ?_
  refine lv_iload_n hx hb dL_law_280 rfl (lv_at hl 3 rfl) ?_
  refine lv_iconst (v := 1) hx hb dL_law_281 (by decide) ?_
  refine lv_iadd hx hb dL_law_282 ?_
  refine va_sld hx hb hX hbl hbA hS v1 dL_law_283 ?_
  refine lv_aload_n hx hb dL_law_284 rfl (lv_at hl 0 rfl) ?_
  refine lv_iload_n hx hb dL_law_285 rfl (lv_at hl 3 rfl) ?_
  refine lv_iconst (v := 2) hx hb dL_law_286 (by decide) ?_
  refine lv_iadd hx hb dL_law_287 ?_
  refine va_sld hx hb hX hbl hbA hS v2 dL_law_288 ?_
  refine lw_callR (ci := 6) (q0 := 0) (own := RL) (As := [.int (xs (nI i + (1 : Int32)).toNatClampNeg), .int (xs (nI i + (2 : Int32)).toNatClampNeg)]) (rest := [.int v]) ⟨hx, hb, hml, hown, hts⟩ (M7_air l D y a2 s7 t7 (xs (nI i + (1 : Int32)).toNatClampNeg) (xs (nI i + (2 : Int32)).toNatClampNeg) v f7) (cwV 2 hts (gA_V wl_544 wl_545 wl_546 wl_5 wl_547) rfl rfl rfl (by decide +kernel) ⟨Nat.le_of_ble_eq_true rfl, Nat.le_of_ble_eq_true rfl⟩) rfl rfl rfl hl.1 rfl (Nat.le_of_ble_eq_true rfl) dL_law_289 ⟨Nat.le_refl _, Nat.le_refl _⟩ hK hP hD hS hA W7_len (fun H locs hP hD hS => ?_)
  refine lv_icmp_eq (tgt := 1584) hx hb dL_law_292 (by decide) (fun _ => ?_) (fun z => absurd rfl z)
  exact K t6 t7 R1 H locs ls hP hD hS hl
theorem lw_c3 {p : Program} {l : Launch} {e : Env} {s : State} {m : MethodId} {below : List Frame} {meth : Method} {c : Code} {b L : Nat} {xs : Nat → Int32} {D : va_G} {y : Nat → ClassId} {a a2 : Nat → Nat} {i : Nat} {s6 : S6} {s7 : S7} (hL : L ≤ 3072) (C0 : lw_At p s m meth c b L xs) (hK : va_K D vwCl (dTy y) s) (R0 : Rel s6 s7) (hi : i + 6 ≤ L) (K : ∀ (t6 : S6) (t7 : S7), Rel t6 t7 → lw_go p l e s m below meth c b D y a a2 i 1584 t6 t7) : lw_go p l e s m below meth c b D y a a2 i 297 s6 s7 := by
  obtain ⟨hx, hb, hr, hml, hown, hts0, hX, hbl, hlocks, hgv⟩ := C0
  have hts : ∀ w ∈ wsL_law, w.before #[Value.ref b] s = true := fun w h => hts0 w (wsL_law_in w h)
  have hA : ∀ q : Nat, s.heap.size ≤ q → (fun q : Nat => s.heap.size ≤ q) q := fun _ h => h
  have hbA : ¬ (fun q : Nat => s.heap.size ≤ q) b := Nat.not_le.mpr hbl
  have v1 : vp_in (nI i + (1 : Int32)) L := lw_ix hL hi (j := 1) (by omega) rfl
  have v2 : vp_in (nI i + (2 : Int32)) L := lw_ix hL hi (j := 2) (by omega) rfl
  obtain ⟨v, t6, t7, f6, f7, R1⟩ := s_sitter a a2 R0 (xs (nI i + (1 : Int32)).toNatClampNeg) (xs (nI i + (2 : Int32)).toNatClampNeg)
  intro H locs ls hP hD hS hl
  refine lv_aload_n hx hb dL_law_297 rfl (lv_at hl 1 rfl) ?_
  refine lv_aload_n hx hb dL_law_298 rfl (lv_at hl 0 rfl) ?_
  refine lv_iload_n hx hb dL_law_299 rfl (lv_at hl 3 rfl) ?_
  refine lv_iconst (v := 1) hx hb dL_law_300 (by decide) ?_
  refine lv_iadd hx hb dL_law_301 ?_
  refine va_sld hx hb hX hbl hbA hS v1 dL_law_302 ?_
  refine lv_aload_n hx hb dL_law_303 rfl (lv_at hl 0 rfl) ?_
  refine lv_iload_n hx hb dL_law_304 rfl (lv_at hl 3 rfl) ?_
  refine lv_iconst (v := 2) hx hb dL_law_305 (by decide) ?_
  refine lv_iadd hx hb dL_law_306 ?_
  refine va_sld hx hb hX hbl hbA hS v2 dL_law_307 ?_
  refine lw_callL (ci := 5) (q0 := 0) (own := RL) (As := [.int (xs (nI i + (1 : Int32)).toNatClampNeg), .int (xs (nI i + (2 : Int32)).toNatClampNeg)]) (rest := []) ⟨hx, hb, hml, hown, hts⟩ (M6_sitter l D y a s6 t6 (xs (nI i + (1 : Int32)).toNatClampNeg) (xs (nI i + (2 : Int32)).toNatClampNeg) v f6) (cwV 2 hts (gA_V wl_552 wl_553 wl_554 wl_2 wl_555) rfl rfl rfl (by decide +kernel) ⟨Nat.le_of_ble_eq_true rfl, Nat.le_of_ble_eq_true rfl⟩) rfl rfl rfl hl.1 rfl (Nat.le_of_ble_eq_true rfl) dL_law_308 ⟨Nat.le_refl _, Nat.le_refl _⟩ hK hP hD hS hA W6_len (fun H locs hP hD hS => ?_)
  refine lv_aload_n hx hb dL_law_311 rfl (lv_at hl 2 rfl) ?_
  refine lv_aload_n hx hb dL_law_312 rfl (lv_at hl 0 rfl) ?_
  refine lv_iload_n hx hb dL_law_313 rfl (lv_at hl 3 rfl) ?_
  refine lv_iconst (v := 1) hx hb dL_law_314 (by decide) ?_
  refine lv_iadd hx hb dL_law_315 ?_
  refine va_sld hx hb hX hbl hbA hS v1 dL_law_316 ?_
  refine lv_aload_n hx hb dL_law_317 rfl (lv_at hl 0 rfl) ?_
  refine lv_iload_n hx hb dL_law_318 rfl (lv_at hl 3 rfl) ?_
  refine lv_iconst (v := 2) hx hb dL_law_319 (by decide) ?_
  refine lv_iadd hx hb dL_law_320 ?_
  refine va_sld hx hb hX hbl hbA hS v2 dL_law_321 ?_
  refine lw_callR (ci := 6) (q0 := 0) (own := RL) (As := [.int (xs (nI i + (1 : Int32)).toNatClampNeg), .int (xs (nI i + (2 : Int32)).toNatClampNeg)]) (rest := [.int v]) ⟨hx, hb, hml, hown, hts⟩ (M7_sitter l D y a2 s7 t7 (xs (nI i + (1 : Int32)).toNatClampNeg) (xs (nI i + (2 : Int32)).toNatClampNeg) v f7) (cwV 2 hts (gA_V wl_564 wl_565 wl_566 wl_5 wl_567) rfl rfl rfl (by decide +kernel) ⟨Nat.le_of_ble_eq_true rfl, Nat.le_of_ble_eq_true rfl⟩) rfl rfl rfl hl.1 rfl (Nat.le_of_ble_eq_true rfl) dL_law_322 ⟨Nat.le_refl _, Nat.le_refl _⟩ hK hP hD hS hA W7_len (fun H locs hP hD hS => ?_)
  refine lv_icmp_eq (tgt := 1584) hx hb dL_law_325 (by decide) (fun _ => ?_) (fun z => absurd rfl z)
  exact K t6 t7 R1 H locs ls hP hD hS hl
theorem lw_c4 {p : Program} {l : Launch} {e : Env} {s : State} {m : MethodId} {below : List Frame} {meth : Method} {c : Code} {b L : Nat} {xs : Nat → Int32} {D : va_G} {y : Nat → ClassId} {a a2 : Nat → Nat} {i : Nat} {s6 : S6} {s7 : S7} (hL : L ≤ 3072) (C0 : lw_At p s m meth c b L xs) (hK : va_K D vwCl (dTy y) s) (R0 : Rel s6 s7) (hi : i + 6 ≤ L) (K : ∀ (t6 : S6) (t7 : S7), Rel t6 t7 → lw_go p l e s m below meth c b D y a a2 i 1584 t6 t7) : lw_go p l e s m below meth c b D y a a2 i 330 s6 s7 := by
  obtain ⟨hx, hb, hr, hml, hown, hts0, hX, hbl, hlocks, hgv⟩ := C0
  have hts : ∀ w ∈ wsL_law, w.before #[Value.ref b] s = true := fun w h => hts0 w (wsL_law_in w h)
  have hA : ∀ q : Nat, s.heap.size ≤ q → (fun q : Nat => s.heap.size ≤ q) q := fun _ h => h
  have hbA : ¬ (fun q : Nat => s.heap.size ≤ q) b := Nat.not_le.mpr hbl
  have v1 : vp_in (nI i + (1 : Int32)) L := lw_ix hL hi (j := 1) (by omega) rfl
  have v2 : vp_in (nI i + (2 : Int32)) L := lw_ix hL hi (j := 2) (by omega) rfl
  obtain ⟨v, t6, t7, f6, f7, R1⟩ := s_cell a a2 R0 (xs (nI i + (1 : Int32)).toNatClampNeg) (xs (nI i + (2 : Int32)).toNatClampNeg)
  intro H locs ls hP hD hS hl
  refine lv_aload_n hx hb dL_law_330 rfl (lv_at hl 1 rfl) ?_
  refine lv_aload_n hx hb dL_law_331 rfl (lv_at hl 0 rfl) ?_
  refine lv_iload_n hx hb dL_law_332 rfl (lv_at hl 3 rfl) ?_
  refine lv_iconst (v := 1) hx hb dL_law_333 (by decide) ?_
  refine lv_iadd hx hb dL_law_334 ?_
  refine va_sld hx hb hX hbl hbA hS v1 dL_law_335 ?_
  refine lv_aload_n hx hb dL_law_336 rfl (lv_at hl 0 rfl) ?_
  refine lv_iload_n hx hb dL_law_337 rfl (lv_at hl 3 rfl) ?_
  refine lv_iconst (v := 2) hx hb dL_law_338 (by decide) ?_
  refine lv_iadd hx hb dL_law_339 ?_
  refine va_sld hx hb hX hbl hbA hS v2 dL_law_340 ?_
  refine lw_callL (ci := 5) (q0 := 0) (own := RL) (As := [.int (xs (nI i + (1 : Int32)).toNatClampNeg), .int (xs (nI i + (2 : Int32)).toNatClampNeg)]) (rest := []) ⟨hx, hb, hml, hown, hts⟩ (M6_cell l D y a s6 t6 (xs (nI i + (1 : Int32)).toNatClampNeg) (xs (nI i + (2 : Int32)).toNatClampNeg) v f6) (cwV 2 hts (gA_V wl_573 wl_574 wl_575 wl_2 wl_576) rfl rfl rfl (by decide +kernel) ⟨Nat.le_of_ble_eq_true rfl, Nat.le_of_ble_eq_true rfl⟩) rfl rfl rfl hl.1 rfl (Nat.le_of_ble_eq_true rfl) dL_law_341 ⟨Nat.le_refl _, Nat.le_refl _⟩ hK hP hD hS hA W6_len (fun H locs hP hD hS => ?_)
  refine lv_aload_n hx hb dL_law_344 rfl (lv_at hl 2 rfl) ?_
  refine lv_aload_n hx hb dL_law_345 rfl (lv_at hl 0 rfl) ?_
  refine lv_iload_n hx hb dL_law_346 rfl (lv_at hl 3 rfl) ?_
  refine lv_iconst (v := 1) hx hb dL_law_347 (by decide) ?_
  refine lv_iadd hx hb dL_law_348 ?_
  refine va_sld hx hb hX hbl hbA hS v1 dL_law_349 ?_
  refine lv_aload_n hx hb dL_law_350 rfl (lv_at hl 0 rfl) ?_
  refine lv_iload_n hx hb dL_law_351 rfl (lv_at hl 3 rfl) ?_
  refine lv_iconst (v := 2) hx hb dL_law_352 (by decide) ?_
  refine lv_iadd hx hb dL_law_353 ?_
  refine va_sld hx hb hX hbl hbA hS v2 dL_law_354 ?_
  refine lw_callR (ci := 6) (q0 := 0) (own := RL) (As := [.int (xs (nI i + (1 : Int32)).toNatClampNeg), .int (xs (nI i + (2 : Int32)).toNatClampNeg)]) (rest := [.int v]) ⟨hx, hb, hml, hown, hts⟩ (M7_cell l D y a2 s7 t7 (xs (nI i + (1 : Int32)).toNatClampNeg) (xs (nI i + (2 : Int32)).toNatClampNeg) v f7) (cwV 2 hts (gA_V wl_585 wl_586 wl_587 wl_5 wl_588) rfl rfl rfl (by decide +kernel) ⟨Nat.le_of_ble_eq_true rfl, Nat.le_of_ble_eq_true rfl⟩) rfl rfl rfl hl.1 rfl (Nat.le_of_ble_eq_true rfl) dL_law_355 ⟨Nat.le_refl _, Nat.le_refl _⟩ hK hP hD hS hA W7_len (fun H locs hP hD hS => ?_)
  refine lv_icmp_eq (tgt := 1584) hx hb dL_law_358 (by decide) (fun _ => ?_) (fun z => absurd rfl z)
  exact K t6 t7 R1 H locs ls hP hD hS hl
theorem lw_c5 {p : Program} {l : Launch} {e : Env} {s : State} {m : MethodId} {below : List Frame} {meth : Method} {c : Code} {b L : Nat} {xs : Nat → Int32} {D : va_G} {y : Nat → ClassId} {a a2 : Nat → Nat} {i : Nat} {s6 : S6} {s7 : S7} (hL : L ≤ 3072) (C0 : lw_At p s m meth c b L xs) (hK : va_K D vwCl (dTy y) s) (R0 : Rel s6 s7) (hi : i + 6 ≤ L) (K : ∀ (t6 : S6) (t7 : S7), Rel t6 t7 → lw_go p l e s m below meth c b D y a a2 i 1584 t6 t7) : lw_go p l e s m below meth c b D y a a2 i 363 s6 s7 := by
  obtain ⟨hx, hb, hr, hml, hown, hts0, hX, hbl, hlocks, hgv⟩ := C0
  have hts : ∀ w ∈ wsL_law, w.before #[Value.ref b] s = true := fun w h => hts0 w (wsL_law_in w h)
  have hA : ∀ q : Nat, s.heap.size ≤ q → (fun q : Nat => s.heap.size ≤ q) q := fun _ h => h
  have hbA : ¬ (fun q : Nat => s.heap.size ≤ q) b := Nat.not_le.mpr hbl
  have v1 : vp_in (nI i + (1 : Int32)) L := lw_ix hL hi (j := 1) (by omega) rfl
  obtain ⟨v, t6, t7, f6, f7, R1⟩ := s_warm a a2 R0 (xs (nI i + (1 : Int32)).toNatClampNeg)
  intro H locs ls hP hD hS hl
  refine lv_aload_n hx hb dL_law_363 rfl (lv_at hl 1 rfl) ?_
  refine lv_aload_n hx hb dL_law_364 rfl (lv_at hl 0 rfl) ?_
  refine lv_iload_n hx hb dL_law_365 rfl (lv_at hl 3 rfl) ?_
  refine lv_iconst (v := 1) hx hb dL_law_366 (by decide) ?_
  refine lv_iadd hx hb dL_law_367 ?_
  refine va_sld hx hb hX hbl hbA hS v1 dL_law_368 ?_
  refine lw_callL (ci := 5) (q0 := 0) (own := RL) (As := [.int (xs (nI i + (1 : Int32)).toNatClampNeg)]) (rest := []) ⟨hx, hb, hml, hown, hts⟩ (M6_warm l D y a s6 t6 (xs (nI i + (1 : Int32)).toNatClampNeg) v f6) (cwV 1 hts (gA_V wl_590 wl_591 wl_592 wl_2 wl_593) rfl rfl rfl (by decide +kernel) ⟨Nat.le_of_ble_eq_true rfl, Nat.le_of_ble_eq_true rfl⟩) rfl rfl rfl hl.1 rfl (Nat.le_of_ble_eq_true rfl) dL_law_369 ⟨Nat.le_refl _, Nat.le_refl _⟩ hK hP hD hS hA W6_len (fun H locs hP hD hS => ?_)
  refine lv_aload_n hx hb dL_law_372 rfl (lv_at hl 2 rfl) ?_
  refine lv_aload_n hx hb dL_law_373 rfl (lv_at hl 0 rfl) ?_
  refine lv_iload_n hx hb dL_law_374 rfl (lv_at hl 3 rfl) ?_
  refine lv_iconst (v := 1) hx hb dL_law_375 (by decide) ?_
  refine lv_iadd hx hb dL_law_376 ?_
  refine va_sld hx hb hX hbl hbA hS v1 dL_law_377 ?_
  refine lw_callR (ci := 6) (q0 := 0) (own := RL) (As := [.int (xs (nI i + (1 : Int32)).toNatClampNeg)]) (rest := [.int v]) ⟨hx, hb, hml, hown, hts⟩ (M7_warm l D y a2 s7 t7 (xs (nI i + (1 : Int32)).toNatClampNeg) v f7) (cwV 1 hts (gA_V wl_600 wl_601 wl_602 wl_5 wl_603) rfl rfl rfl (by decide +kernel) ⟨Nat.le_of_ble_eq_true rfl, Nat.le_of_ble_eq_true rfl⟩) rfl rfl rfl hl.1 rfl (Nat.le_of_ble_eq_true rfl) dL_law_378 ⟨Nat.le_refl _, Nat.le_refl _⟩ hK hP hD hS hA W7_len (fun H locs hP hD hS => ?_)
  refine lv_icmp_eq (tgt := 1584) hx hb dL_law_381 (by decide) (fun _ => ?_) (fun z => absurd rfl z)
  exact K t6 t7 R1 H locs ls hP hD hS hl
theorem lw_c6 {p : Program} {l : Launch} {e : Env} {s : State} {m : MethodId} {below : List Frame} {meth : Method} {c : Code} {b L : Nat} {xs : Nat → Int32} {D : va_G} {y : Nat → ClassId} {a a2 : Nat → Nat} {i : Nat} {s6 : S6} {s7 : S7} (hL : L ≤ 3072) (C0 : lw_At p s m meth c b L xs) (hK : va_K D vwCl (dTy y) s) (R0 : Rel s6 s7) (hi : i + 6 ≤ L) (K : ∀ (t6 : S6) (t7 : S7), Rel t6 t7 → lw_go p l e s m below meth c b D y a a2 i 1584 t6 t7) : lw_go p l e s m below meth c b D y a a2 i 386 s6 s7 := by
  obtain ⟨hx, hb, hr, hml, hown, hts0, hX, hbl, hlocks, hgv⟩ := C0
  have hts : ∀ w ∈ wsL_law, w.before #[Value.ref b] s = true := fun w h => hts0 w (wsL_law_in w h)
  have hA : ∀ q : Nat, s.heap.size ≤ q → (fun q : Nat => s.heap.size ≤ q) q := fun _ h => h
  have hbA : ¬ (fun q : Nat => s.heap.size ≤ q) b := Nat.not_le.mpr hbl
  have v1 : vp_in (nI i + (1 : Int32)) L := lw_ix hL hi (j := 1) (by omega) rfl
  have v2 : vp_in (nI i + (2 : Int32)) L := lw_ix hL hi (j := 2) (by omega) rfl
  have v3 : vp_in (nI i + (3 : Int32)) L := lw_ix hL hi (j := 3) (by omega) rfl
  obtain ⟨v, t6, t7, f6, f7, R1⟩ := s_comes a a2 R0 (xs (nI i + (1 : Int32)).toNatClampNeg) (xs (nI i + (2 : Int32)).toNatClampNeg) (xs (nI i + (3 : Int32)).toNatClampNeg)
  intro H locs ls hP hD hS hl
  refine lv_aload_n hx hb dL_law_386 rfl (lv_at hl 1 rfl) ?_
  refine lv_aload_n hx hb dL_law_387 rfl (lv_at hl 0 rfl) ?_
  refine lv_iload_n hx hb dL_law_388 rfl (lv_at hl 3 rfl) ?_
  refine lv_iconst (v := 1) hx hb dL_law_389 (by decide) ?_
  refine lv_iadd hx hb dL_law_390 ?_
  refine va_sld hx hb hX hbl hbA hS v1 dL_law_391 ?_
  refine lv_aload_n hx hb dL_law_392 rfl (lv_at hl 0 rfl) ?_
  refine lv_iload_n hx hb dL_law_393 rfl (lv_at hl 3 rfl) ?_
  refine lv_iconst (v := 2) hx hb dL_law_394 (by decide) ?_
  refine lv_iadd hx hb dL_law_395 ?_
  refine va_sld hx hb hX hbl hbA hS v2 dL_law_396 ?_
  refine lv_aload_n hx hb dL_law_397 rfl (lv_at hl 0 rfl) ?_
  refine lv_iload_n hx hb dL_law_398 rfl (lv_at hl 3 rfl) ?_
  refine lv_iconst (v := 3) hx hb dL_law_399 (by decide) ?_
  refine lv_iadd hx hb dL_law_400 ?_
  refine va_sld hx hb hX hbl hbA hS v3 dL_law_401 ?_
  refine lw_callL (ci := 5) (q0 := 0) (own := RL) (As := [.int (xs (nI i + (1 : Int32)).toNatClampNeg), .int (xs (nI i + (2 : Int32)).toNatClampNeg), .int (xs (nI i + (3 : Int32)).toNatClampNeg)]) (rest := []) ⟨hx, hb, hml, hown, hts⟩ (M6_comes l D y a s6 t6 (xs (nI i + (1 : Int32)).toNatClampNeg) (xs (nI i + (2 : Int32)).toNatClampNeg) (xs (nI i + (3 : Int32)).toNatClampNeg) v f6) (cwV 3 hts (gA_V wl_616 wl_617 wl_618 wl_2 wl_619) rfl rfl rfl (by decide +kernel) ⟨Nat.le_of_ble_eq_true rfl, Nat.le_of_ble_eq_true rfl⟩) rfl rfl rfl hl.1 rfl (Nat.le_of_ble_eq_true rfl) dL_law_402 ⟨Nat.le_refl _, Nat.le_refl _⟩ hK hP hD hS hA W6_len (fun H locs hP hD hS => ?_)
  refine lv_aload_n hx hb dL_law_405 rfl (lv_at hl 2 rfl) ?_
  refine lv_aload_n hx hb dL_law_406 rfl (lv_at hl 0 rfl) ?_
  refine lv_iload_n hx hb dL_law_407 rfl (lv_at hl 3 rfl) ?_
  refine lv_iconst (v := 1) hx hb dL_law_408 (by decide) ?_
  refine lv_iadd hx hb dL_law_409 ?_
  refine va_sld hx hb hX hbl hbA hS v1 dL_law_410 ?_
  refine lv_aload_n hx hb dL_law_411 rfl (lv_at hl 0 rfl) ?_
  refine lv_iload_n hx hb dL_law_412 rfl (lv_at hl 3 rfl) ?_
  refine lv_iconst (v := 2) hx hb dL_law_413 (by decide) ?_
  refine lv_iadd hx hb dL_law_414 ?_
  refine va_sld hx hb hX hbl hbA hS v2 dL_law_415 ?_
  refine lv_aload_n hx hb dL_law_416 rfl (lv_at hl 0 rfl) ?_
  refine lv_iload_n hx hb dL_law_417 rfl (lv_at hl 3 rfl) ?_
  refine lv_iconst (v := 3) hx hb dL_law_418 (by decide) ?_
  refine lv_iadd hx hb dL_law_419 ?_
  refine va_sld hx hb hX hbl hbA hS v3 dL_law_420 ?_
  refine lw_callR (ci := 6) (q0 := 0) (own := RL) (As := [.int (xs (nI i + (1 : Int32)).toNatClampNeg), .int (xs (nI i + (2 : Int32)).toNatClampNeg), .int (xs (nI i + (3 : Int32)).toNatClampNeg)]) (rest := [.int v]) ⟨hx, hb, hml, hown, hts⟩ (M7_comes l D y a2 s7 t7 (xs (nI i + (1 : Int32)).toNatClampNeg) (xs (nI i + (2 : Int32)).toNatClampNeg) (xs (nI i + (3 : Int32)).toNatClampNeg) v f7) (cwV 3 hts (gA_V wl_621 wl_622 wl_623 wl_5 wl_624) rfl rfl rfl (by decide +kernel) ⟨Nat.le_of_ble_eq_true rfl, Nat.le_of_ble_eq_true rfl⟩) rfl rfl rfl hl.1 rfl (Nat.le_of_ble_eq_true rfl) dL_law_421 ⟨Nat.le_refl _, Nat.le_refl _⟩ hK hP hD hS hA W7_len (fun H locs hP hD hS => ?_)
  refine lv_icmp_eq (tgt := 1584) hx hb dL_law_424 (by decide) (fun _ => ?_) (fun z => absurd rfl z)
  exact K t6 t7 R1 H locs ls hP hD hS hl
theorem lw_c7 {p : Program} {l : Launch} {e : Env} {s : State} {m : MethodId} {below : List Frame} {meth : Method} {c : Code} {b L : Nat} {xs : Nat → Int32} {D : va_G} {y : Nat → ClassId} {a a2 : Nat → Nat} {i : Nat} {s6 : S6} {s7 : S7} (hL : L ≤ 3072) (C0 : lw_At p s m meth c b L xs) (hK : va_K D vwCl (dTy y) s) (R0 : Rel s6 s7) (hi : i + 6 ≤ L) (K : ∀ (t6 : S6) (t7 : S7), Rel t6 t7 → lw_go p l e s m below meth c b D y a a2 i 1584 t6 t7) : lw_go p l e s m below meth c b D y a a2 i 429 s6 s7 := by
  obtain ⟨hx, hb, hr, hml, hown, hts0, hX, hbl, hlocks, hgv⟩ := C0
  have hts : ∀ w ∈ wsL_law, w.before #[Value.ref b] s = true := fun w h => hts0 w (wsL_law_in w h)
  have hA : ∀ q : Nat, s.heap.size ≤ q → (fun q : Nat => s.heap.size ≤ q) q := fun _ h => h
  have hbA : ¬ (fun q : Nat => s.heap.size ≤ q) b := Nat.not_le.mpr hbl
  have v1 : vp_in (nI i + (1 : Int32)) L := lw_ix hL hi (j := 1) (by omega) rfl
  obtain ⟨v, t6, t7, f6, f7, R1⟩ := s_sitsDown a a2 R0 (xs (nI i + (1 : Int32)).toNatClampNeg)
  intro H locs ls hP hD hS hl
  refine lv_aload_n hx hb dL_law_429 rfl (lv_at hl 1 rfl) ?_
  refine lv_aload_n hx hb dL_law_430 rfl (lv_at hl 0 rfl) ?_
  refine lv_iload_n hx hb dL_law_431 rfl (lv_at hl 3 rfl) ?_
  refine lv_iconst (v := 1) hx hb dL_law_432 (by decide) ?_
  refine lv_iadd hx hb dL_law_433 ?_
  refine va_sld hx hb hX hbl hbA hS v1 dL_law_434 ?_
  refine lw_callL (ci := 5) (q0 := 0) (own := RL) (As := [.int (xs (nI i + (1 : Int32)).toNatClampNeg)]) (rest := []) ⟨hx, hb, hml, hown, hts⟩ (M6_sitsDown l D y a s6 t6 (xs (nI i + (1 : Int32)).toNatClampNeg) v f6) (cwV 1 hts (gA_V wl_626 wl_627 wl_628 wl_2 wl_629) rfl rfl rfl (by decide +kernel) ⟨Nat.le_of_ble_eq_true rfl, Nat.le_of_ble_eq_true rfl⟩) rfl rfl rfl hl.1 rfl (Nat.le_of_ble_eq_true rfl) dL_law_435 ⟨Nat.le_refl _, Nat.le_refl _⟩ hK hP hD hS hA W6_len (fun H locs hP hD hS => ?_)
  refine lv_aload_n hx hb dL_law_438 rfl (lv_at hl 2 rfl) ?_
  refine lv_aload_n hx hb dL_law_439 rfl (lv_at hl 0 rfl) ?_
  refine lv_iload_n hx hb dL_law_440 rfl (lv_at hl 3 rfl) ?_
  refine lv_iconst (v := 1) hx hb dL_law_441 (by decide) ?_
  refine lv_iadd hx hb dL_law_442 ?_
  refine va_sld hx hb hX hbl hbA hS v1 dL_law_443 ?_
  refine lw_callR (ci := 6) (q0 := 0) (own := RL) (As := [.int (xs (nI i + (1 : Int32)).toNatClampNeg)]) (rest := [.int v]) ⟨hx, hb, hml, hown, hts⟩ (M7_sitsDown l D y a2 s7 t7 (xs (nI i + (1 : Int32)).toNatClampNeg) v f7) (cwV 1 hts (gA_V wl_631 wl_632 wl_633 wl_5 wl_634) rfl rfl rfl (by decide +kernel) ⟨Nat.le_of_ble_eq_true rfl, Nat.le_of_ble_eq_true rfl⟩) rfl rfl rfl hl.1 rfl (Nat.le_of_ble_eq_true rfl) dL_law_444 ⟨Nat.le_refl _, Nat.le_refl _⟩ hK hP hD hS hA W7_len (fun H locs hP hD hS => ?_)
  refine lv_icmp_eq (tgt := 1584) hx hb dL_law_447 (by decide) (fun _ => ?_) (fun z => absurd rfl z)
  exact K t6 t7 R1 H locs ls hP hD hS hl
theorem lw_c8 {p : Program} {l : Launch} {e : Env} {s : State} {m : MethodId} {below : List Frame} {meth : Method} {c : Code} {b L : Nat} {xs : Nat → Int32} {D : va_G} {y : Nat → ClassId} {a a2 : Nat → Nat} {i : Nat} {s6 : S6} {s7 : S7} (hL : L ≤ 3072) (C0 : lw_At p s m meth c b L xs) (hK : va_K D vwCl (dTy y) s) (R0 : Rel s6 s7) (hi : i + 6 ≤ L) (K : ∀ (t6 : S6) (t7 : S7), Rel t6 t7 → lw_go p l e s m below meth c b D y a a2 i 1584 t6 t7) : lw_go p l e s m below meth c b D y a a2 i 452 s6 s7 := by
  obtain ⟨hx, hb, hr, hml, hown, hts0, hX, hbl, hlocks, hgv⟩ := C0
  have hts : ∀ w ∈ wsL_law, w.before #[Value.ref b] s = true := fun w h => hts0 w (wsL_law_in w h)
  have hA : ∀ q : Nat, s.heap.size ≤ q → (fun q : Nat => s.heap.size ≤ q) q := fun _ h => h
  have hbA : ¬ (fun q : Nat => s.heap.size ≤ q) b := Nat.not_le.mpr hbl
  have v1 : vp_in (nI i + (1 : Int32)) L := lw_ix hL hi (j := 1) (by omega) rfl
  obtain ⟨v, t6, t7, f6, f7, R1⟩ := s_shuts a a2 R0 (xs (nI i + (1 : Int32)).toNatClampNeg)
  intro H locs ls hP hD hS hl
  refine lv_aload_n hx hb dL_law_452 rfl (lv_at hl 1 rfl) ?_
  refine lv_aload_n hx hb dL_law_453 rfl (lv_at hl 0 rfl) ?_
  refine lv_iload_n hx hb dL_law_454 rfl (lv_at hl 3 rfl) ?_
  refine lv_iconst (v := 1) hx hb dL_law_455 (by decide) ?_
  refine lv_iadd hx hb dL_law_456 ?_
  refine va_sld hx hb hX hbl hbA hS v1 dL_law_457 ?_
  refine lw_callL (ci := 5) (q0 := 0) (own := RL) (As := [.int (xs (nI i + (1 : Int32)).toNatClampNeg)]) (rest := []) ⟨hx, hb, hml, hown, hts⟩ (M6_shuts l D y a s6 t6 (xs (nI i + (1 : Int32)).toNatClampNeg) v f6) (cwV 1 hts (gA_V wl_635 wl_636 wl_637 wl_2 wl_638) rfl rfl rfl (by decide +kernel) ⟨Nat.le_of_ble_eq_true rfl, Nat.le_of_ble_eq_true rfl⟩) rfl rfl rfl hl.1 rfl (Nat.le_of_ble_eq_true rfl) dL_law_458 ⟨Nat.le_refl _, Nat.le_refl _⟩ hK hP hD hS hA W6_len (fun H locs hP hD hS => ?_)
  refine lv_aload_n hx hb dL_law_461 rfl (lv_at hl 2 rfl) ?_
  refine lv_aload_n hx hb dL_law_462 rfl (lv_at hl 0 rfl) ?_
  refine lv_iload_n hx hb dL_law_463 rfl (lv_at hl 3 rfl) ?_
  refine lv_iconst (v := 1) hx hb dL_law_464 (by decide) ?_
  refine lv_iadd hx hb dL_law_465 ?_
  refine va_sld hx hb hX hbl hbA hS v1 dL_law_466 ?_
  refine lw_callR (ci := 6) (q0 := 0) (own := RL) (As := [.int (xs (nI i + (1 : Int32)).toNatClampNeg)]) (rest := [.int v]) ⟨hx, hb, hml, hown, hts⟩ (M7_shuts l D y a2 s7 t7 (xs (nI i + (1 : Int32)).toNatClampNeg) v f7) (cwV 1 hts (gA_V wl_648 wl_649 wl_650 wl_5 wl_651) rfl rfl rfl (by decide +kernel) ⟨Nat.le_of_ble_eq_true rfl, Nat.le_of_ble_eq_true rfl⟩) rfl rfl rfl hl.1 rfl (Nat.le_of_ble_eq_true rfl) dL_law_467 ⟨Nat.le_refl _, Nat.le_refl _⟩ hK hP hD hS hA W7_len (fun H locs hP hD hS => ?_)
  refine lv_icmp_eq (tgt := 1584) hx hb dL_law_470 (by decide) (fun _ => ?_) (fun z => absurd rfl z)
  exact K t6 t7 R1 H locs ls hP hD hS hl
theorem lw_c9 {p : Program} {l : Launch} {e : Env} {s : State} {m : MethodId} {below : List Frame} {meth : Method} {c : Code} {b L : Nat} {xs : Nat → Int32} {D : va_G} {y : Nat → ClassId} {a a2 : Nat → Nat} {i : Nat} {s6 : S6} {s7 : S7} (hL : L ≤ 3072) (C0 : lw_At p s m meth c b L xs) (hK : va_K D vwCl (dTy y) s) (R0 : Rel s6 s7) (hi : i + 6 ≤ L) (K : ∀ (t6 : S6) (t7 : S7), Rel t6 t7 → lw_go p l e s m below meth c b D y a a2 i 1584 t6 t7) : lw_go p l e s m below meth c b D y a a2 i 475 s6 s7 := by
  obtain ⟨hx, hb, hr, hml, hown, hts0, hX, hbl, hlocks, hgv⟩ := C0
  have hts : ∀ w ∈ wsL_law, w.before #[Value.ref b] s = true := fun w h => hts0 w (wsL_law_in w h)
  have hA : ∀ q : Nat, s.heap.size ≤ q → (fun q : Nat => s.heap.size ≤ q) q := fun _ h => h
  have hbA : ¬ (fun q : Nat => s.heap.size ≤ q) b := Nat.not_le.mpr hbl
  have v1 : vp_in (nI i + (1 : Int32)) L := lw_ix hL hi (j := 1) (by omega) rfl
  have v2 : vp_in (nI i + (2 : Int32)) L := lw_ix hL hi (j := 2) (by omega) rfl
  obtain ⟨v, t6, t7, f6, f7, R1⟩ := s_warms a a2 R0 (xs (nI i + (1 : Int32)).toNatClampNeg) (xs (nI i + (2 : Int32)).toNatClampNeg)
  intro H locs ls hP hD hS hl
  refine lv_aload_n hx hb dL_law_475 rfl (lv_at hl 1 rfl) ?_
  refine lv_aload_n hx hb dL_law_476 rfl (lv_at hl 0 rfl) ?_
  refine lv_iload_n hx hb dL_law_477 rfl (lv_at hl 3 rfl) ?_
  refine lv_iconst (v := 1) hx hb dL_law_478 (by decide) ?_
  refine lv_iadd hx hb dL_law_479 ?_
  refine va_sld hx hb hX hbl hbA hS v1 dL_law_480 ?_
  refine lv_aload_n hx hb dL_law_481 rfl (lv_at hl 0 rfl) ?_
  refine lv_iload_n hx hb dL_law_482 rfl (lv_at hl 3 rfl) ?_
  refine lv_iconst (v := 2) hx hb dL_law_483 (by decide) ?_
  refine lv_iadd hx hb dL_law_484 ?_
  refine va_sld hx hb hX hbl hbA hS v2 dL_law_485 ?_
  refine lw_callL (ci := 5) (q0 := 0) (own := RL) (As := [.int (xs (nI i + (1 : Int32)).toNatClampNeg), .int (xs (nI i + (2 : Int32)).toNatClampNeg)]) (rest := []) ⟨hx, hb, hml, hown, hts⟩ (M6_warms l D y a s6 t6 (xs (nI i + (1 : Int32)).toNatClampNeg) (xs (nI i + (2 : Int32)).toNatClampNeg) v f6) (cwV 2 hts (gA_V wl_656 wl_657 wl_658 wl_2 wl_659) rfl rfl rfl (by decide +kernel) ⟨Nat.le_of_ble_eq_true rfl, Nat.le_of_ble_eq_true rfl⟩) rfl rfl rfl hl.1 rfl (Nat.le_of_ble_eq_true rfl) dL_law_486 ⟨Nat.le_refl _, Nat.le_refl _⟩ hK hP hD hS hA W6_len (fun H locs hP hD hS => ?_)
  refine lv_aload_n hx hb dL_law_489 rfl (lv_at hl 2 rfl) ?_
  refine lv_aload_n hx hb dL_law_490 rfl (lv_at hl 0 rfl) ?_
  refine lv_iload_n hx hb dL_law_491 rfl (lv_at hl 3 rfl) ?_
  refine lv_iconst (v := 1) hx hb dL_law_492 (by decide) ?_
  refine lv_iadd hx hb dL_law_493 ?_
  refine va_sld hx hb hX hbl hbA hS v1 dL_law_494 ?_
  refine lv_aload_n hx hb dL_law_495 rfl (lv_at hl 0 rfl) ?_
  refine lv_iload_n hx hb dL_law_496 rfl (lv_at hl 3 rfl) ?_
  refine lv_iconst (v := 2) hx hb dL_law_497 (by decide) ?_
  refine lv_iadd hx hb dL_law_498 ?_
  refine va_sld hx hb hX hbl hbA hS v2 dL_law_499 ?_
  refine lw_callR (ci := 6) (q0 := 0) (own := RL) (As := [.int (xs (nI i + (1 : Int32)).toNatClampNeg), .int (xs (nI i + (2 : Int32)).toNatClampNeg)]) (rest := [.int v]) ⟨hx, hb, hml, hown, hts⟩ (M7_warms l D y a2 s7 t7 (xs (nI i + (1 : Int32)).toNatClampNeg) (xs (nI i + (2 : Int32)).toNatClampNeg) v f7) (cwV 2 hts (gA_V wl_663 wl_664 wl_665 wl_5 wl_666) rfl rfl rfl (by decide +kernel) ⟨Nat.le_of_ble_eq_true rfl, Nat.le_of_ble_eq_true rfl⟩) rfl rfl rfl hl.1 rfl (Nat.le_of_ble_eq_true rfl) dL_law_500 ⟨Nat.le_refl _, Nat.le_refl _⟩ hK hP hD hS hA W7_len (fun H locs hP hD hS => ?_)
  refine lv_icmp_eq (tgt := 1584) hx hb dL_law_503 (by decide) (fun _ => ?_) (fun z => absurd rfl z)
  exact K t6 t7 R1 H locs ls hP hD hS hl
theorem lw_c10 {p : Program} {l : Launch} {e : Env} {s : State} {m : MethodId} {below : List Frame} {meth : Method} {c : Code} {b L : Nat} {xs : Nat → Int32} {D : va_G} {y : Nat → ClassId} {a a2 : Nat → Nat} {i : Nat} {s6 : S6} {s7 : S7} (hL : L ≤ 3072) (C0 : lw_At p s m meth c b L xs) (hK : va_K D vwCl (dTy y) s) (R0 : Rel s6 s7) (hi : i + 6 ≤ L) (K : ∀ (t6 : S6) (t7 : S7), Rel t6 t7 → lw_go p l e s m below meth c b D y a a2 i 1584 t6 t7) : lw_go p l e s m below meth c b D y a a2 i 508 s6 s7 := by
  obtain ⟨hx, hb, hr, hml, hown, hts0, hX, hbl, hlocks, hgv⟩ := C0
  have hts : ∀ w ∈ wsL_law, w.before #[Value.ref b] s = true := fun w h => hts0 w (wsL_law_in w h)
  have hA : ∀ q : Nat, s.heap.size ≤ q → (fun q : Nat => s.heap.size ≤ q) q := fun _ h => h
  have hbA : ¬ (fun q : Nat => s.heap.size ≤ q) b := Nat.not_le.mpr hbl
  have v1 : vp_in (nI i + (1 : Int32)) L := lw_ix hL hi (j := 1) (by omega) rfl
  have v2 : vp_in (nI i + (2 : Int32)) L := lw_ix hL hi (j := 2) (by omega) rfl
  obtain ⟨v, t6, t7, f6, f7, R1⟩ := s_sits a a2 R0 (xs (nI i + (1 : Int32)).toNatClampNeg) (xs (nI i + (2 : Int32)).toNatClampNeg)
  intro H locs ls hP hD hS hl
  refine lv_aload_n hx hb dL_law_508 rfl (lv_at hl 1 rfl) ?_
  refine lv_aload_n hx hb dL_law_509 rfl (lv_at hl 0 rfl) ?_
  refine lv_iload_n hx hb dL_law_510 rfl (lv_at hl 3 rfl) ?_
  refine lv_iconst (v := 1) hx hb dL_law_511 (by decide) ?_
  refine lv_iadd hx hb dL_law_512 ?_
  refine va_sld hx hb hX hbl hbA hS v1 dL_law_513 ?_
  refine lv_aload_n hx hb dL_law_514 rfl (lv_at hl 0 rfl) ?_
  refine lv_iload_n hx hb dL_law_515 rfl (lv_at hl 3 rfl) ?_
  refine lv_iconst (v := 2) hx hb dL_law_516 (by decide) ?_
  refine lv_iadd hx hb dL_law_517 ?_
  refine va_sld hx hb hX hbl hbA hS v2 dL_law_518 ?_
  refine lw_callL (ci := 5) (q0 := 0) (own := RL) (As := [.int (xs (nI i + (1 : Int32)).toNatClampNeg), .int (xs (nI i + (2 : Int32)).toNatClampNeg)]) (rest := []) ⟨hx, hb, hml, hown, hts⟩ (M6_sits l D y a s6 t6 (xs (nI i + (1 : Int32)).toNatClampNeg) (xs (nI i + (2 : Int32)).toNatClampNeg) v f6) (cwV 2 hts (gA_V wl_669 wl_670 wl_671 wl_2 wl_672) rfl rfl rfl (by decide +kernel) ⟨Nat.le_of_ble_eq_true rfl, Nat.le_of_ble_eq_true rfl⟩) rfl rfl rfl hl.1 rfl (Nat.le_of_ble_eq_true rfl) dL_law_519 ⟨Nat.le_refl _, Nat.le_refl _⟩ hK hP hD hS hA W6_len (fun H locs hP hD hS => ?_)
  refine lv_aload_n hx hb dL_law_522 rfl (lv_at hl 2 rfl) ?_
  refine lv_aload_n hx hb dL_law_523 rfl (lv_at hl 0 rfl) ?_
  refine lv_iload_n hx hb dL_law_524 rfl (lv_at hl 3 rfl) ?_
  refine lv_iconst (v := 1) hx hb dL_law_525 (by decide) ?_
  refine lv_iadd hx hb dL_law_526 ?_
  refine va_sld hx hb hX hbl hbA hS v1 dL_law_527 ?_
  refine lv_aload_n hx hb dL_law_528 rfl (lv_at hl 0 rfl) ?_
  refine lv_iload_n hx hb dL_law_529 rfl (lv_at hl 3 rfl) ?_
  refine lv_iconst (v := 2) hx hb dL_law_530 (by decide) ?_
  refine lv_iadd hx hb dL_law_531 ?_
  refine va_sld hx hb hX hbl hbA hS v2 dL_law_532 ?_
  refine lw_callR (ci := 6) (q0 := 0) (own := RL) (As := [.int (xs (nI i + (1 : Int32)).toNatClampNeg), .int (xs (nI i + (2 : Int32)).toNatClampNeg)]) (rest := [.int v]) ⟨hx, hb, hml, hown, hts⟩ (M7_sits l D y a2 s7 t7 (xs (nI i + (1 : Int32)).toNatClampNeg) (xs (nI i + (2 : Int32)).toNatClampNeg) v f7) (cwV 2 hts (gA_V wl_674 wl_675 wl_676 wl_5 wl_677) rfl rfl rfl (by decide +kernel) ⟨Nat.le_of_ble_eq_true rfl, Nat.le_of_ble_eq_true rfl⟩) rfl rfl rfl hl.1 rfl (Nat.le_of_ble_eq_true rfl) dL_law_533 ⟨Nat.le_refl _, Nat.le_refl _⟩ hK hP hD hS hA W7_len (fun H locs hP hD hS => ?_)
  refine lv_icmp_eq (tgt := 1584) hx hb dL_law_536 (by decide) (fun _ => ?_) (fun z => absurd rfl z)
  exact K t6 t7 R1 H locs ls hP hD hS hl
theorem lw_c11 {p : Program} {l : Launch} {e : Env} {s : State} {m : MethodId} {below : List Frame} {meth : Method} {c : Code} {b L : Nat} {xs : Nat → Int32} {D : va_G} {y : Nat → ClassId} {a a2 : Nat → Nat} {i : Nat} {s6 : S6} {s7 : S7} (hL : L ≤ 3072) (C0 : lw_At p s m meth c b L xs) (hK : va_K D vwCl (dTy y) s) (R0 : Rel s6 s7) (hi : i + 6 ≤ L) (K : ∀ (t6 : S6) (t7 : S7), Rel t6 t7 → lw_go p l e s m below meth c b D y a a2 i 1584 t6 t7) : lw_go p l e s m below meth c b D y a a2 i 541 s6 s7 := by
  obtain ⟨hx, hb, hr, hml, hown, hts0, hX, hbl, hlocks, hgv⟩ := C0
  have hts : ∀ w ∈ wsL_law, w.before #[Value.ref b] s = true := fun w h => hts0 w (wsL_law_in w h)
  have hA : ∀ q : Nat, s.heap.size ≤ q → (fun q : Nat => s.heap.size ≤ q) q := fun _ h => h
  have hbA : ¬ (fun q : Nat => s.heap.size ≤ q) b := Nat.not_le.mpr hbl
  have v1 : vp_in (nI i + (1 : Int32)) L := lw_ix hL hi (j := 1) (by omega) rfl
  have v2 : vp_in (nI i + (2 : Int32)) L := lw_ix hL hi (j := 2) (by omega) rfl
  obtain ⟨v, t6, t7, f6, f7, R1⟩ := s_blows a a2 R0 (xs (nI i + (1 : Int32)).toNatClampNeg) (xs (nI i + (2 : Int32)).toNatClampNeg)
  intro H locs ls hP hD hS hl
  refine lv_aload_n hx hb dL_law_541 rfl (lv_at hl 1 rfl) ?_
  refine lv_aload_n hx hb dL_law_542 rfl (lv_at hl 0 rfl) ?_
  refine lv_iload_n hx hb dL_law_543 rfl (lv_at hl 3 rfl) ?_
  refine lv_iconst (v := 1) hx hb dL_law_544 (by decide) ?_
  refine lv_iadd hx hb dL_law_545 ?_
  refine va_sld hx hb hX hbl hbA hS v1 dL_law_546 ?_
  refine lv_aload_n hx hb dL_law_547 rfl (lv_at hl 0 rfl) ?_
  refine lv_iload_n hx hb dL_law_548 rfl (lv_at hl 3 rfl) ?_
  refine lv_iconst (v := 2) hx hb dL_law_549 (by decide) ?_
  refine lv_iadd hx hb dL_law_550 ?_
  refine va_sld hx hb hX hbl hbA hS v2 dL_law_551 ?_
  refine lw_callL (ci := 5) (q0 := 0) (own := RL) (As := [.int (xs (nI i + (1 : Int32)).toNatClampNeg), .int (xs (nI i + (2 : Int32)).toNatClampNeg)]) (rest := []) ⟨hx, hb, hml, hown, hts⟩ (M6_blows l D y a s6 t6 (xs (nI i + (1 : Int32)).toNatClampNeg) (xs (nI i + (2 : Int32)).toNatClampNeg) v f6) (cwV 2 hts (gA_V wl_678 wl_679 wl_680 wl_2 wl_681) rfl rfl rfl (by decide +kernel) ⟨Nat.le_of_ble_eq_true rfl, Nat.le_of_ble_eq_true rfl⟩) rfl rfl rfl hl.1 rfl (Nat.le_of_ble_eq_true rfl) dL_law_552 ⟨Nat.le_refl _, Nat.le_refl _⟩ hK hP hD hS hA W6_len (fun H locs hP hD hS => ?_)
  refine lv_aload_n hx hb dL_law_555 rfl (lv_at hl 2 rfl) ?_
  refine lv_aload_n hx hb dL_law_556 rfl (lv_at hl 0 rfl) ?_
  refine lv_iload_n hx hb dL_law_557 rfl (lv_at hl 3 rfl) ?_
  refine lv_iconst (v := 1) hx hb dL_law_558 (by decide) ?_
  refine lv_iadd hx hb dL_law_559 ?_
  refine va_sld hx hb hX hbl hbA hS v1 dL_law_560 ?_
  refine lv_aload_n hx hb dL_law_561 rfl (lv_at hl 0 rfl) ?_
  refine lv_iload_n hx hb dL_law_562 rfl (lv_at hl 3 rfl) ?_
  refine lv_iconst (v := 2) hx hb dL_law_563 (by decide) ?_
  refine lv_iadd hx hb dL_law_564 ?_
  refine va_sld hx hb hX hbl hbA hS v2 dL_law_565 ?_
  refine lw_callR (ci := 6) (q0 := 0) (own := RL) (As := [.int (xs (nI i + (1 : Int32)).toNatClampNeg), .int (xs (nI i + (2 : Int32)).toNatClampNeg)]) (rest := [.int v]) ⟨hx, hb, hml, hown, hts⟩ (M7_blows l D y a2 s7 t7 (xs (nI i + (1 : Int32)).toNatClampNeg) (xs (nI i + (2 : Int32)).toNatClampNeg) v f7) (cwV 2 hts (gA_V wl_682 wl_683 wl_684 wl_5 wl_685) rfl rfl rfl (by decide +kernel) ⟨Nat.le_of_ble_eq_true rfl, Nat.le_of_ble_eq_true rfl⟩) rfl rfl rfl hl.1 rfl (Nat.le_of_ble_eq_true rfl) dL_law_566 ⟨Nat.le_refl _, Nat.le_refl _⟩ hK hP hD hS hA W7_len (fun H locs hP hD hS => ?_)
  refine lv_icmp_eq (tgt := 1584) hx hb dL_law_569 (by decide) (fun _ => ?_) (fun z => absurd rfl z)
  exact K t6 t7 R1 H locs ls hP hD hS hl
theorem lw_c12 {p : Program} {l : Launch} {e : Env} {s : State} {m : MethodId} {below : List Frame} {meth : Method} {c : Code} {b L : Nat} {xs : Nat → Int32} {D : va_G} {y : Nat → ClassId} {a a2 : Nat → Nat} {i : Nat} {s6 : S6} {s7 : S7} (hL : L ≤ 3072) (C0 : lw_At p s m meth c b L xs) (hK : va_K D vwCl (dTy y) s) (R0 : Rel s6 s7) (hi : i + 6 ≤ L) (K : ∀ (t6 : S6) (t7 : S7), Rel t6 t7 → lw_go p l e s m below meth c b D y a a2 i 1584 t6 t7) : lw_go p l e s m below meth c b D y a a2 i 574 s6 s7 := by
  obtain ⟨hx, hb, hr, hml, hown, hts0, hX, hbl, hlocks, hgv⟩ := C0
  have hts : ∀ w ∈ wsL_law, w.before #[Value.ref b] s = true := fun w h => hts0 w (wsL_law_in w h)
  have hA : ∀ q : Nat, s.heap.size ≤ q → (fun q : Nat => s.heap.size ≤ q) q := fun _ h => h
  have hbA : ¬ (fun q : Nat => s.heap.size ≤ q) b := Nat.not_le.mpr hbl
  have v1 : vp_in (nI i + (1 : Int32)) L := lw_ix hL hi (j := 1) (by omega) rfl
  have v2 : vp_in (nI i + (2 : Int32)) L := lw_ix hL hi (j := 2) (by omega) rfl
  obtain ⟨v, t6, t7, f6, f7, R1⟩ := s_wraps a a2 R0 (xs (nI i + (1 : Int32)).toNatClampNeg) (xs (nI i + (2 : Int32)).toNatClampNeg)
  intro H locs ls hP hD hS hl
  refine lv_aload_n hx hb dL_law_574 rfl (lv_at hl 1 rfl) ?_
  refine lv_aload_n hx hb dL_law_575 rfl (lv_at hl 0 rfl) ?_
  refine lv_iload_n hx hb dL_law_576 rfl (lv_at hl 3 rfl) ?_
  refine lv_iconst (v := 1) hx hb dL_law_577 (by decide) ?_
  refine lv_iadd hx hb dL_law_578 ?_
  refine va_sld hx hb hX hbl hbA hS v1 dL_law_579 ?_
  refine lv_aload_n hx hb dL_law_580 rfl (lv_at hl 0 rfl) ?_
  refine lv_iload_n hx hb dL_law_581 rfl (lv_at hl 3 rfl) ?_
  refine lv_iconst (v := 2) hx hb dL_law_582 (by decide) ?_
  refine lv_iadd hx hb dL_law_583 ?_
  refine va_sld hx hb hX hbl hbA hS v2 dL_law_584 ?_
  refine lw_callL (ci := 5) (q0 := 0) (own := RL) (As := [.int (xs (nI i + (1 : Int32)).toNatClampNeg), .int (xs (nI i + (2 : Int32)).toNatClampNeg)]) (rest := []) ⟨hx, hb, hml, hown, hts⟩ (M6_wraps l D y a s6 t6 (xs (nI i + (1 : Int32)).toNatClampNeg) (xs (nI i + (2 : Int32)).toNatClampNeg) v f6) (cwV 2 hts (gA_V wl_687 wl_688 wl_689 wl_2 wl_690) rfl rfl rfl (by decide +kernel) ⟨Nat.le_of_ble_eq_true rfl, Nat.le_of_ble_eq_true rfl⟩) rfl rfl rfl hl.1 rfl (Nat.le_of_ble_eq_true rfl) dL_law_585 ⟨Nat.le_refl _, Nat.le_refl _⟩ hK hP hD hS hA W6_len (fun H locs hP hD hS => ?_)
  refine lv_aload_n hx hb dL_law_588 rfl (lv_at hl 2 rfl) ?_
  refine lv_aload_n hx hb dL_law_589 rfl (lv_at hl 0 rfl) ?_
  refine lv_iload_n hx hb dL_law_590 rfl (lv_at hl 3 rfl) ?_
  refine lv_iconst (v := 1) hx hb dL_law_591 (by decide) ?_
  refine lv_iadd hx hb dL_law_592 ?_
  refine va_sld hx hb hX hbl hbA hS v1 dL_law_593 ?_
  refine lv_aload_n hx hb dL_law_594 rfl (lv_at hl 0 rfl) ?_
  refine lv_iload_n hx hb dL_law_595 rfl (lv_at hl 3 rfl) ?_
  refine lv_iconst (v := 2) hx hb dL_law_596 (by decide) ?_
  refine lv_iadd hx hb dL_law_597 ?_
  refine va_sld hx hb hX hbl hbA hS v2 dL_law_598 ?_
  refine lw_callR (ci := 6) (q0 := 0) (own := RL) (As := [.int (xs (nI i + (1 : Int32)).toNatClampNeg), .int (xs (nI i + (2 : Int32)).toNatClampNeg)]) (rest := [.int v]) ⟨hx, hb, hml, hown, hts⟩ (M7_wraps l D y a2 s7 t7 (xs (nI i + (1 : Int32)).toNatClampNeg) (xs (nI i + (2 : Int32)).toNatClampNeg) v f7) (cwV 2 hts (gA_V wl_691 wl_692 wl_693 wl_5 wl_694) rfl rfl rfl (by decide +kernel) ⟨Nat.le_of_ble_eq_true rfl, Nat.le_of_ble_eq_true rfl⟩) rfl rfl rfl hl.1 rfl (Nat.le_of_ble_eq_true rfl) dL_law_599 ⟨Nat.le_refl _, Nat.le_refl _⟩ hK hP hD hS hA W7_len (fun H locs hP hD hS => ?_)
  refine lv_icmp_eq (tgt := 1584) hx hb dL_law_602 (by decide) (fun _ => ?_) (fun z => absurd rfl z)
  exact K t6 t7 R1 H locs ls hP hD hS hl
theorem lw_c13 {p : Program} {l : Launch} {e : Env} {s : State} {m : MethodId} {below : List Frame} {meth : Method} {c : Code} {b L : Nat} {xs : Nat → Int32} {D : va_G} {y : Nat → ClassId} {a a2 : Nat → Nat} {i : Nat} {s6 : S6} {s7 : S7} (hL : L ≤ 3072) (C0 : lw_At p s m meth c b L xs) (hK : va_K D vwCl (dTy y) s) (R0 : Rel s6 s7) (hi : i + 6 ≤ L) (K : ∀ (t6 : S6) (t7 : S7), Rel t6 t7 → lw_go p l e s m below meth c b D y a a2 i 1584 t6 t7) : lw_go p l e s m below meth c b D y a a2 i 607 s6 s7 := by
  obtain ⟨hx, hb, hr, hml, hown, hts0, hX, hbl, hlocks, hgv⟩ := C0
  have hts : ∀ w ∈ wsL_law, w.before #[Value.ref b] s = true := fun w h => hts0 w (wsL_law_in w h)
  have hA : ∀ q : Nat, s.heap.size ≤ q → (fun q : Nat => s.heap.size ≤ q) q := fun _ h => h
  have hbA : ¬ (fun q : Nat => s.heap.size ≤ q) b := Nat.not_le.mpr hbl
  have v1 : vp_in (nI i + (1 : Int32)) L := lw_ix hL hi (j := 1) (by omega) rfl
  have v2 : vp_in (nI i + (2 : Int32)) L := lw_ix hL hi (j := 2) (by omega) rfl
  obtain ⟨v, t6, t7, f6, f7, R1⟩ := s_step a a2 R0 (xs (nI i + (1 : Int32)).toNatClampNeg) (xs (nI i + (2 : Int32)).toNatClampNeg)
  intro H locs ls hP hD hS hl
  refine lv_aload_n hx hb dL_law_607 rfl (lv_at hl 1 rfl) ?_
  refine lv_aload_n hx hb dL_law_608 rfl (lv_at hl 0 rfl) ?_
  refine lv_iload_n hx hb dL_law_609 rfl (lv_at hl 3 rfl) ?_
  refine lv_iconst (v := 1) hx hb dL_law_610 (by decide) ?_
  refine lv_iadd hx hb dL_law_611 ?_
  refine va_sld hx hb hX hbl hbA hS v1 dL_law_612 ?_
  refine lv_aload_n hx hb dL_law_613 rfl (lv_at hl 0 rfl) ?_
  refine lv_iload_n hx hb dL_law_614 rfl (lv_at hl 3 rfl) ?_
  refine lv_iconst (v := 2) hx hb dL_law_615 (by decide) ?_
  refine lv_iadd hx hb dL_law_616 ?_
  refine va_sld hx hb hX hbl hbA hS v2 dL_law_617 ?_
  refine lw_callL (ci := 5) (q0 := 0) (own := RL) (As := [.int (xs (nI i + (1 : Int32)).toNatClampNeg), .int (xs (nI i + (2 : Int32)).toNatClampNeg)]) (rest := []) ⟨hx, hb, hml, hown, hts⟩ (M6_step l D y a s6 t6 (xs (nI i + (1 : Int32)).toNatClampNeg) (xs (nI i + (2 : Int32)).toNatClampNeg) v f6) (cwV 2 hts (gA_V wl_698 wl_699 wl_700 wl_2 wl_701) rfl rfl rfl (by decide +kernel) ⟨Nat.le_of_ble_eq_true rfl, Nat.le_of_ble_eq_true rfl⟩) rfl rfl rfl hl.1 rfl (Nat.le_of_ble_eq_true rfl) dL_law_618 ⟨Nat.le_refl _, Nat.le_refl _⟩ hK hP hD hS hA W6_len (fun H locs hP hD hS => ?_)
  refine lv_aload_n hx hb dL_law_621 rfl (lv_at hl 2 rfl) ?_
  refine lv_aload_n hx hb dL_law_622 rfl (lv_at hl 0 rfl) ?_
  refine lv_iload_n hx hb dL_law_623 rfl (lv_at hl 3 rfl) ?_
  refine lv_iconst (v := 1) hx hb dL_law_624 (by decide) ?_
  refine lv_iadd hx hb dL_law_625 ?_
  refine va_sld hx hb hX hbl hbA hS v1 dL_law_626 ?_
  refine lv_aload_n hx hb dL_law_627 rfl (lv_at hl 0 rfl) ?_
  refine lv_iload_n hx hb dL_law_628 rfl (lv_at hl 3 rfl) ?_
  refine lv_iconst (v := 2) hx hb dL_law_629 (by decide) ?_
  refine lv_iadd hx hb dL_law_630 ?_
  refine va_sld hx hb hX hbl hbA hS v2 dL_law_631 ?_
  refine lw_callR (ci := 6) (q0 := 0) (own := RL) (As := [.int (xs (nI i + (1 : Int32)).toNatClampNeg), .int (xs (nI i + (2 : Int32)).toNatClampNeg)]) (rest := [.int v]) ⟨hx, hb, hml, hown, hts⟩ (M7_step l D y a2 s7 t7 (xs (nI i + (1 : Int32)).toNatClampNeg) (xs (nI i + (2 : Int32)).toNatClampNeg) v f7) (cwV 2 hts (gA_V wl_705 wl_706 wl_707 wl_5 wl_708) rfl rfl rfl (by decide +kernel) ⟨Nat.le_of_ble_eq_true rfl, Nat.le_of_ble_eq_true rfl⟩) rfl rfl rfl hl.1 rfl (Nat.le_of_ble_eq_true rfl) dL_law_632 ⟨Nat.le_refl _, Nat.le_refl _⟩ hK hP hD hS hA W7_len (fun H locs hP hD hS => ?_)
  refine lv_icmp_eq (tgt := 1584) hx hb dL_law_635 (by decide) (fun _ => ?_) (fun z => absurd rfl z)
  exact K t6 t7 R1 H locs ls hP hD hS hl
theorem lw_c14 {p : Program} {l : Launch} {e : Env} {s : State} {m : MethodId} {below : List Frame} {meth : Method} {c : Code} {b L : Nat} {xs : Nat → Int32} {D : va_G} {y : Nat → ClassId} {a a2 : Nat → Nat} {i : Nat} {s6 : S6} {s7 : S7} (hL : L ≤ 3072) (C0 : lw_At p s m meth c b L xs) (hK : va_K D vwCl (dTy y) s) (R0 : Rel s6 s7) (hi : i + 6 ≤ L) (K : ∀ (t6 : S6) (t7 : S7), Rel t6 t7 → lw_go p l e s m below meth c b D y a a2 i 1584 t6 t7) : lw_go p l e s m below meth c b D y a a2 i 640 s6 s7 := by
  obtain ⟨hx, hb, hr, hml, hown, hts0, hX, hbl, hlocks, hgv⟩ := C0
  have hts : ∀ w ∈ wsL_law, w.before #[Value.ref b] s = true := fun w h => hts0 w (wsL_law_in w h)
  have hA : ∀ q : Nat, s.heap.size ≤ q → (fun q : Nat => s.heap.size ≤ q) q := fun _ h => h
  have hbA : ¬ (fun q : Nat => s.heap.size ≤ q) b := Nat.not_le.mpr hbl
  obtain ⟨v, t6, t7, f6, f7, R1⟩ := s_clearHearth a a2 R0
  intro H locs ls hP hD hS hl
  refine lv_aload_n hx hb dL_law_640 rfl (lv_at hl 1 rfl) ?_
  refine lw_callL (ci := 5) (q0 := 0) (own := RL) (As := []) (rest := []) ⟨hx, hb, hml, hown, hts⟩ (M6_clearHearth l D y a s6 t6 v f6) (cwV 0 hts (gA_V wl_710 wl_711 wl_712 wl_2 wl_713) rfl rfl rfl (by decide +kernel) ⟨Nat.le_of_ble_eq_true rfl, Nat.le_of_ble_eq_true rfl⟩) rfl rfl rfl hl.1 rfl (Nat.le_of_ble_eq_true rfl) dL_law_641 ⟨Nat.le_refl _, Nat.le_refl _⟩ hK hP hD hS hA W6_len (fun H locs hP hD hS => ?_)
  refine lv_aload_n hx hb dL_law_644 rfl (lv_at hl 2 rfl) ?_
  refine lw_callR (ci := 6) (q0 := 0) (own := RL) (As := []) (rest := [.int v]) ⟨hx, hb, hml, hown, hts⟩ (M7_clearHearth l D y a2 s7 t7 v f7) (cwV 0 hts (gA_V wl_714 wl_715 wl_716 wl_5 wl_717) rfl rfl rfl (by decide +kernel) ⟨Nat.le_of_ble_eq_true rfl, Nat.le_of_ble_eq_true rfl⟩) rfl rfl rfl hl.1 rfl (Nat.le_of_ble_eq_true rfl) dL_law_645 ⟨Nat.le_refl _, Nat.le_refl _⟩ hK hP hD hS hA W7_len (fun H locs hP hD hS => ?_)
  refine lv_icmp_eq (tgt := 1584) hx hb dL_law_648 (by decide) (fun _ => ?_) (fun z => absurd rfl z)
  exact K t6 t7 R1 H locs ls hP hD hS hl
theorem lw_c15 {p : Program} {l : Launch} {e : Env} {s : State} {m : MethodId} {below : List Frame} {meth : Method} {c : Code} {b L : Nat} {xs : Nat → Int32} {D : va_G} {y : Nat → ClassId} {a a2 : Nat → Nat} {i : Nat} {s6 : S6} {s7 : S7} (hL : L ≤ 3072) (C0 : lw_At p s m meth c b L xs) (hK : va_K D vwCl (dTy y) s) (R0 : Rel s6 s7) (hi : i + 6 ≤ L) (K : ∀ (t6 : S6) (t7 : S7), Rel t6 t7 → lw_go p l e s m below meth c b D y a a2 i 1584 t6 t7) : lw_go p l e s m below meth c b D y a a2 i 653 s6 s7 := by
  obtain ⟨hx, hb, hr, hml, hown, hts0, hX, hbl, hlocks, hgv⟩ := C0
  have hts : ∀ w ∈ wsL_law, w.before #[Value.ref b] s = true := fun w h => hts0 w (wsL_law_in w h)
  have hA : ∀ q : Nat, s.heap.size ≤ q → (fun q : Nat => s.heap.size ≤ q) q := fun _ h => h
  have hbA : ¬ (fun q : Nat => s.heap.size ≤ q) b := Nat.not_le.mpr hbl
  have v1 : vp_in (nI i + (1 : Int32)) L := lw_ix hL hi (j := 1) (by omega) rfl
  obtain ⟨v, t6, t7, f6, f7, R1⟩ := s_turns a a2 R0 (xs (nI i + (1 : Int32)).toNatClampNeg)
  intro H locs ls hP hD hS hl
  refine lv_aload_n hx hb dL_law_653 rfl (lv_at hl 1 rfl) ?_
  refine lv_aload_n hx hb dL_law_654 rfl (lv_at hl 0 rfl) ?_
  refine lv_iload_n hx hb dL_law_655 rfl (lv_at hl 3 rfl) ?_
  refine lv_iconst (v := 1) hx hb dL_law_656 (by decide) ?_
  refine lv_iadd hx hb dL_law_657 ?_
  refine va_sld hx hb hX hbl hbA hS v1 dL_law_658 ?_
  refine lw_callL (ci := 5) (q0 := 0) (own := RL) (As := [.int (xs (nI i + (1 : Int32)).toNatClampNeg)]) (rest := []) ⟨hx, hb, hml, hown, hts⟩ (M6_turns l D y a s6 t6 (xs (nI i + (1 : Int32)).toNatClampNeg) v f6) (cwV 1 hts (gA_V wl_718 wl_719 wl_720 wl_2 wl_721) rfl rfl rfl (by decide +kernel) ⟨Nat.le_of_ble_eq_true rfl, Nat.le_of_ble_eq_true rfl⟩) rfl rfl rfl hl.1 rfl (Nat.le_of_ble_eq_true rfl) dL_law_659 ⟨Nat.le_refl _, Nat.le_refl _⟩ hK hP hD hS hA W6_len (fun H locs hP hD hS => ?_)
  refine lv_aload_n hx hb dL_law_662 rfl (lv_at hl 2 rfl) ?_
  refine lv_aload_n hx hb dL_law_663 rfl (lv_at hl 0 rfl) ?_
  refine lv_iload_n hx hb dL_law_664 rfl (lv_at hl 3 rfl) ?_
  refine lv_iconst (v := 1) hx hb dL_law_665 (by decide) ?_
  refine lv_iadd hx hb dL_law_666 ?_
  refine va_sld hx hb hX hbl hbA hS v1 dL_law_667 ?_
  refine lw_callR (ci := 6) (q0 := 0) (own := RL) (As := [.int (xs (nI i + (1 : Int32)).toNatClampNeg)]) (rest := [.int v]) ⟨hx, hb, hml, hown, hts⟩ (M7_turns l D y a2 s7 t7 (xs (nI i + (1 : Int32)).toNatClampNeg) v f7) (cwV 1 hts (gA_V wl_725 wl_726 wl_727 wl_5 wl_728) rfl rfl rfl (by decide +kernel) ⟨Nat.le_of_ble_eq_true rfl, Nat.le_of_ble_eq_true rfl⟩) rfl rfl rfl hl.1 rfl (Nat.le_of_ble_eq_true rfl) dL_law_668 ⟨Nat.le_refl _, Nat.le_refl _⟩ hK hP hD hS hA W7_len (fun H locs hP hD hS => ?_)
  refine lv_icmp_eq (tgt := 1584) hx hb dL_law_671 (by decide) (fun _ => ?_) (fun z => absurd rfl z)
  exact K t6 t7 R1 H locs ls hP hD hS hl
theorem lw_c16 {p : Program} {l : Launch} {e : Env} {s : State} {m : MethodId} {below : List Frame} {meth : Method} {c : Code} {b L : Nat} {xs : Nat → Int32} {D : va_G} {y : Nat → ClassId} {a a2 : Nat → Nat} {i : Nat} {s6 : S6} {s7 : S7} (hL : L ≤ 3072) (C0 : lw_At p s m meth c b L xs) (hK : va_K D vwCl (dTy y) s) (R0 : Rel s6 s7) (hi : i + 6 ≤ L) (K : ∀ (t6 : S6) (t7 : S7), Rel t6 t7 → lw_go p l e s m below meth c b D y a a2 i 1584 t6 t7) : lw_go p l e s m below meth c b D y a a2 i 676 s6 s7 := by
  obtain ⟨hx, hb, hr, hml, hown, hts0, hX, hbl, hlocks, hgv⟩ := C0
  have hts : ∀ w ∈ wsL_law, w.before #[Value.ref b] s = true := fun w h => hts0 w (wsL_law_in w h)
  have hA : ∀ q : Nat, s.heap.size ≤ q → (fun q : Nat => s.heap.size ≤ q) q := fun _ h => h
  have hbA : ¬ (fun q : Nat => s.heap.size ≤ q) b := Nat.not_le.mpr hbl
  obtain ⟨v, t6, t7, f6, f7, R1⟩ := s_back a a2 R0
  intro H locs ls hP hD hS hl
  refine lv_aload_n hx hb dL_law_676 rfl (lv_at hl 1 rfl) ?_
  refine lw_callL (ci := 5) (q0 := 0) (own := RL) (As := []) (rest := []) ⟨hx, hb, hml, hown, hts⟩ (M6_back l D y a s6 t6 v f6) (cwV 0 hts (gA_V wl_729 wl_730 wl_731 wl_2 wl_732) rfl rfl rfl (by decide +kernel) ⟨Nat.le_of_ble_eq_true rfl, Nat.le_of_ble_eq_true rfl⟩) rfl rfl rfl hl.1 rfl (Nat.le_of_ble_eq_true rfl) dL_law_677 ⟨Nat.le_refl _, Nat.le_refl _⟩ hK hP hD hS hA W6_len (fun H locs hP hD hS => ?_)
  refine lv_aload_n hx hb dL_law_680 rfl (lv_at hl 2 rfl) ?_
  refine lw_callR (ci := 6) (q0 := 0) (own := RL) (As := []) (rest := [.int v]) ⟨hx, hb, hml, hown, hts⟩ (M7_back l D y a2 s7 t7 v f7) (cwV 0 hts (gA_V wl_738 wl_739 wl_740 wl_5 wl_741) rfl rfl rfl (by decide +kernel) ⟨Nat.le_of_ble_eq_true rfl, Nat.le_of_ble_eq_true rfl⟩) rfl rfl rfl hl.1 rfl (Nat.le_of_ble_eq_true rfl) dL_law_681 ⟨Nat.le_refl _, Nat.le_refl _⟩ hK hP hD hS hA W7_len (fun H locs hP hD hS => ?_)
  refine lv_icmp_eq (tgt := 1584) hx hb dL_law_684 (by decide) (fun _ => ?_) (fun z => absurd rfl z)
  exact K t6 t7 R1 H locs ls hP hD hS hl
theorem lw_c17 {p : Program} {l : Launch} {e : Env} {s : State} {m : MethodId} {below : List Frame} {meth : Method} {c : Code} {b L : Nat} {xs : Nat → Int32} {D : va_G} {y : Nat → ClassId} {a a2 : Nat → Nat} {i : Nat} {s6 : S6} {s7 : S7} (hL : L ≤ 3072) (C0 : lw_At p s m meth c b L xs) (hK : va_K D vwCl (dTy y) s) (R0 : Rel s6 s7) (hi : i + 6 ≤ L) (K : ∀ (t6 : S6) (t7 : S7), Rel t6 t7 → lw_go p l e s m below meth c b D y a a2 i 1584 t6 t7) : lw_go p l e s m below meth c b D y a a2 i 689 s6 s7 := by
  obtain ⟨hx, hb, hr, hml, hown, hts0, hX, hbl, hlocks, hgv⟩ := C0
  have hts : ∀ w ∈ wsL_law, w.before #[Value.ref b] s = true := fun w h => hts0 w (wsL_law_in w h)
  have hA : ∀ q : Nat, s.heap.size ≤ q → (fun q : Nat => s.heap.size ≤ q) q := fun _ h => h
  have hbA : ¬ (fun q : Nat => s.heap.size ≤ q) b := Nat.not_le.mpr hbl
  have v1 : vp_in (nI i + (1 : Int32)) L := lw_ix hL hi (j := 1) (by omega) rfl
  have v2 : vp_in (nI i + (2 : Int32)) L := lw_ix hL hi (j := 2) (by omega) rfl
  obtain ⟨v, t6, t7, f6, f7, R1⟩ := s_airThen a a2 R0 (xs (nI i + (1 : Int32)).toNatClampNeg) (xs (nI i + (2 : Int32)).toNatClampNeg)
  intro H locs ls hP hD hS hl
  refine lv_aload_n hx hb dL_law_689 rfl (lv_at hl 1 rfl) ?_
  refine lv_aload_n hx hb dL_law_690 rfl (lv_at hl 0 rfl) ?_
  refine lv_iload_n hx hb dL_law_691 rfl (lv_at hl 3 rfl) ?_
  refine lv_iconst (v := 1) hx hb dL_law_692 (by decide) ?_
  refine lv_iadd hx hb dL_law_693 ?_
  refine va_sld hx hb hX hbl hbA hS v1 dL_law_694 ?_
  refine lv_aload_n hx hb dL_law_695 rfl (lv_at hl 0 rfl) ?_
  refine lv_iload_n hx hb dL_law_696 rfl (lv_at hl 3 rfl) ?_
  refine lv_iconst (v := 2) hx hb dL_law_697 (by decide) ?_
  refine lv_iadd hx hb dL_law_698 ?_
  refine va_sld hx hb hX hbl hbA hS v2 dL_law_699 ?_
  refine lw_callL (ci := 5) (q0 := 0) (own := RL) (As := [.int (xs (nI i + (1 : Int32)).toNatClampNeg), .int (xs (nI i + (2 : Int32)).toNatClampNeg)]) (rest := []) ⟨hx, hb, hml, hown, hts⟩ (M6_airThen l D y a s6 t6 (xs (nI i + (1 : Int32)).toNatClampNeg) (xs (nI i + (2 : Int32)).toNatClampNeg) v f6) (cwV 2 hts (gA_V wl_742 wl_743 wl_744 wl_2 wl_745) rfl rfl rfl (by decide +kernel) ⟨Nat.le_of_ble_eq_true rfl, Nat.le_of_ble_eq_true rfl⟩) rfl rfl rfl hl.1 rfl (Nat.le_of_ble_eq_true rfl) dL_law_700 ⟨Nat.le_refl _, Nat.le_refl _⟩ hK hP hD hS hA W6_len (fun H locs hP hD hS => ?_)
  refine lv_aload_n hx hb dL_law_703 rfl (lv_at hl 2 rfl) ?_
  refine lv_aload_n hx hb dL_law_704 rfl (lv_at hl 0 rfl) ?_
  refine lv_iload_n hx hb dL_law_705 rfl (lv_at hl 3 rfl) ?_
  refine lv_iconst (v := 1) hx hb dL_law_706 (by decide) ?_
  refine lv_iadd hx hb dL_law_707 ?_
  refine va_sld hx hb hX hbl hbA hS v1 dL_law_708 ?_
  refine lv_aload_n hx hb dL_law_709 rfl (lv_at hl 0 rfl) ?_
  refine lv_iload_n hx hb dL_law_710 rfl (lv_at hl 3 rfl) ?_
  refine lv_iconst (v := 2) hx hb dL_law_711 (by decide) ?_
  refine lv_iadd hx hb dL_law_712 ?_
  refine va_sld hx hb hX hbl hbA hS v2 dL_law_713 ?_
  refine lw_callR (ci := 6) (q0 := 0) (own := RL) (As := [.int (xs (nI i + (1 : Int32)).toNatClampNeg), .int (xs (nI i + (2 : Int32)).toNatClampNeg)]) (rest := [.int v]) ⟨hx, hb, hml, hown, hts⟩ (M7_airThen l D y a2 s7 t7 (xs (nI i + (1 : Int32)).toNatClampNeg) (xs (nI i + (2 : Int32)).toNatClampNeg) v f7) (cwV 2 hts (gA_V wl_750 wl_751 wl_752 wl_5 wl_753) rfl rfl rfl (by decide +kernel) ⟨Nat.le_of_ble_eq_true rfl, Nat.le_of_ble_eq_true rfl⟩) rfl rfl rfl hl.1 rfl (Nat.le_of_ble_eq_true rfl) dL_law_714 ⟨Nat.le_refl _, Nat.le_refl _⟩ hK hP hD hS hA W7_len (fun H locs hP hD hS => ?_)
  refine lv_icmp_eq (tgt := 1584) hx hb dL_law_717 (by decide) (fun _ => ?_) (fun z => absurd rfl z)
  exact K t6 t7 R1 H locs ls hP hD hS hl
theorem lw_c18 {p : Program} {l : Launch} {e : Env} {s : State} {m : MethodId} {below : List Frame} {meth : Method} {c : Code} {b L : Nat} {xs : Nat → Int32} {D : va_G} {y : Nat → ClassId} {a a2 : Nat → Nat} {i : Nat} {s6 : S6} {s7 : S7} (hL : L ≤ 3072) (C0 : lw_At p s m meth c b L xs) (hK : va_K D vwCl (dTy y) s) (R0 : Rel s6 s7) (hi : i + 6 ≤ L) (K : ∀ (t6 : S6) (t7 : S7), Rel t6 t7 → lw_go p l e s m below meth c b D y a a2 i 1584 t6 t7) : lw_go p l e s m below meth c b D y a a2 i 722 s6 s7 := by
  obtain ⟨hx, hb, hr, hml, hown, hts0, hX, hbl, hlocks, hgv⟩ := C0
  have hts : ∀ w ∈ wsL_law, w.before #[Value.ref b] s = true := fun w h => hts0 w (wsL_law_in w h)
  have hA : ∀ q : Nat, s.heap.size ≤ q → (fun q : Nat => s.heap.size ≤ q) q := fun _ h => h
  have hbA : ¬ (fun q : Nat => s.heap.size ≤ q) b := Nat.not_le.mpr hbl
  have v1 : vp_in (nI i + (1 : Int32)) L := lw_ix hL hi (j := 1) (by omega) rfl
  have v2 : vp_in (nI i + (2 : Int32)) L := lw_ix hL hi (j := 2) (by omega) rfl
  obtain ⟨v, t6, t7, f6, f7, R1⟩ := s_then a a2 R0 (xs (nI i + (1 : Int32)).toNatClampNeg) (xs (nI i + (2 : Int32)).toNatClampNeg)
  intro H locs ls hP hD hS hl
  refine lv_aload_n hx hb dL_law_722 rfl (lv_at hl 1 rfl) ?_
  refine lv_aload_n hx hb dL_law_723 rfl (lv_at hl 0 rfl) ?_
  refine lv_iload_n hx hb dL_law_724 rfl (lv_at hl 3 rfl) ?_
  refine lv_iconst (v := 1) hx hb dL_law_725 (by decide) ?_
  refine lv_iadd hx hb dL_law_726 ?_
  refine va_sld hx hb hX hbl hbA hS v1 dL_law_727 ?_
  refine lv_aload_n hx hb dL_law_728 rfl (lv_at hl 0 rfl) ?_
  refine lv_iload_n hx hb dL_law_729 rfl (lv_at hl 3 rfl) ?_
  refine lv_iconst (v := 2) hx hb dL_law_730 (by decide) ?_
  refine lv_iadd hx hb dL_law_731 ?_
  refine va_sld hx hb hX hbl hbA hS v2 dL_law_732 ?_
  refine lw_callL (ci := 5) (q0 := 0) (own := RL) (As := [.int (xs (nI i + (1 : Int32)).toNatClampNeg), .int (xs (nI i + (2 : Int32)).toNatClampNeg)]) (rest := []) ⟨hx, hb, hml, hown, hts⟩ (M6_then l D y a s6 t6 (xs (nI i + (1 : Int32)).toNatClampNeg) (xs (nI i + (2 : Int32)).toNatClampNeg) v f6) (cwV 2 hts (gA_V wl_754 wl_755 wl_756 wl_2 wl_757) rfl rfl rfl (by decide +kernel) ⟨Nat.le_of_ble_eq_true rfl, Nat.le_of_ble_eq_true rfl⟩) rfl rfl rfl hl.1 rfl (Nat.le_of_ble_eq_true rfl) dL_law_733 ⟨Nat.le_refl _, Nat.le_refl _⟩ hK hP hD hS hA W6_len (fun H locs hP hD hS => ?_)
  refine lv_aload_n hx hb dL_law_736 rfl (lv_at hl 2 rfl) ?_
  refine lv_aload_n hx hb dL_law_737 rfl (lv_at hl 0 rfl) ?_
  refine lv_iload_n hx hb dL_law_738 rfl (lv_at hl 3 rfl) ?_
  refine lv_iconst (v := 1) hx hb dL_law_739 (by decide) ?_
  refine lv_iadd hx hb dL_law_740 ?_
  refine va_sld hx hb hX hbl hbA hS v1 dL_law_741 ?_
  refine lv_aload_n hx hb dL_law_742 rfl (lv_at hl 0 rfl) ?_
  refine lv_iload_n hx hb dL_law_743 rfl (lv_at hl 3 rfl) ?_
  refine lv_iconst (v := 2) hx hb dL_law_744 (by decide) ?_
  refine lv_iadd hx hb dL_law_745 ?_
  refine va_sld hx hb hX hbl hbA hS v2 dL_law_746 ?_
  refine lw_callR (ci := 6) (q0 := 0) (own := RL) (As := [.int (xs (nI i + (1 : Int32)).toNatClampNeg), .int (xs (nI i + (2 : Int32)).toNatClampNeg)]) (rest := [.int v]) ⟨hx, hb, hml, hown, hts⟩ (M7_then l D y a2 s7 t7 (xs (nI i + (1 : Int32)).toNatClampNeg) (xs (nI i + (2 : Int32)).toNatClampNeg) v f7) (cwV 2 hts (gA_V wl_766 wl_767 wl_768 wl_5 wl_769) rfl rfl rfl (by decide +kernel) ⟨Nat.le_of_ble_eq_true rfl, Nat.le_of_ble_eq_true rfl⟩) rfl rfl rfl hl.1 rfl (Nat.le_of_ble_eq_true rfl) dL_law_747 ⟨Nat.le_refl _, Nat.le_refl _⟩ hK hP hD hS hA W7_len (fun H locs hP hD hS => ?_)
  refine lv_icmp_eq (tgt := 1584) hx hb dL_law_750 (by decide) (fun _ => ?_) (fun z => absurd rfl z)
  exact K t6 t7 R1 H locs ls hP hD hS hl
theorem lw_c19 {p : Program} {l : Launch} {e : Env} {s : State} {m : MethodId} {below : List Frame} {meth : Method} {c : Code} {b L : Nat} {xs : Nat → Int32} {D : va_G} {y : Nat → ClassId} {a a2 : Nat → Nat} {i : Nat} {s6 : S6} {s7 : S7} (hL : L ≤ 3072) (C0 : lw_At p s m meth c b L xs) (hK : va_K D vwCl (dTy y) s) (R0 : Rel s6 s7) (hi : i + 6 ≤ L) (K : ∀ (t6 : S6) (t7 : S7), Rel t6 t7 → lw_go p l e s m below meth c b D y a a2 i 1584 t6 t7) : lw_go p l e s m below meth c b D y a a2 i 755 s6 s7 := by
  obtain ⟨hx, hb, hr, hml, hown, hts0, hX, hbl, hlocks, hgv⟩ := C0
  have hts : ∀ w ∈ wsL_law, w.before #[Value.ref b] s = true := fun w h => hts0 w (wsL_law_in w h)
  have hA : ∀ q : Nat, s.heap.size ≤ q → (fun q : Nat => s.heap.size ≤ q) q := fun _ h => h
  have hbA : ¬ (fun q : Nat => s.heap.size ≤ q) b := Nat.not_le.mpr hbl
  have v1 : vp_in (nI i + (1 : Int32)) L := lw_ix hL hi (j := 1) (by omega) rfl
  have v2 : vp_in (nI i + (2 : Int32)) L := lw_ix hL hi (j := 2) (by omega) rfl
  obtain ⟨v, t6, t7, f6, f7, R1⟩ := s_warmThen a a2 R0 (xs (nI i + (1 : Int32)).toNatClampNeg) (xs (nI i + (2 : Int32)).toNatClampNeg)
  intro H locs ls hP hD hS hl
  refine lv_aload_n hx hb dL_law_755 rfl (lv_at hl 1 rfl) ?_
  refine lv_aload_n hx hb dL_law_756 rfl (lv_at hl 0 rfl) ?_
  refine lv_iload_n hx hb dL_law_757 rfl (lv_at hl 3 rfl) ?_
  refine lv_iconst (v := 1) hx hb dL_law_758 (by decide) ?_
  refine lv_iadd hx hb dL_law_759 ?_
  refine va_sld hx hb hX hbl hbA hS v1 dL_law_760 ?_
  refine lv_aload_n hx hb dL_law_761 rfl (lv_at hl 0 rfl) ?_
  refine lv_iload_n hx hb dL_law_762 rfl (lv_at hl 3 rfl) ?_
  refine lv_iconst (v := 2) hx hb dL_law_763 (by decide) ?_
  refine lv_iadd hx hb dL_law_764 ?_
  refine va_sld hx hb hX hbl hbA hS v2 dL_law_765 ?_
  refine lw_callL (ci := 5) (q0 := 0) (own := RL) (As := [.int (xs (nI i + (1 : Int32)).toNatClampNeg), .int (xs (nI i + (2 : Int32)).toNatClampNeg)]) (rest := []) ⟨hx, hb, hml, hown, hts⟩ (M6_warmThen l D y a s6 t6 (xs (nI i + (1 : Int32)).toNatClampNeg) (xs (nI i + (2 : Int32)).toNatClampNeg) v f6) (cwV 2 hts (gA_V wl_778 wl_779 wl_780 wl_2 wl_781) rfl rfl rfl (by decide +kernel) ⟨Nat.le_of_ble_eq_true rfl, Nat.le_of_ble_eq_true rfl⟩) rfl rfl rfl hl.1 rfl (Nat.le_of_ble_eq_true rfl) dL_law_766 ⟨Nat.le_refl _, Nat.le_refl _⟩ hK hP hD hS hA W6_len (fun H locs hP hD hS => ?_)
  refine lv_aload_n hx hb dL_law_769 rfl (lv_at hl 2 rfl) ?_
  refine lv_aload_n hx hb dL_law_770 rfl (lv_at hl 0 rfl) ?_
  refine lv_iload_n hx hb dL_law_771 rfl (lv_at hl 3 rfl) ?_
  refine lv_iconst (v := 1) hx hb dL_law_772 (by decide) ?_
  refine lv_iadd hx hb dL_law_773 ?_
  refine va_sld hx hb hX hbl hbA hS v1 dL_law_774 ?_
  refine lv_aload_n hx hb dL_law_775 rfl (lv_at hl 0 rfl) ?_
  refine lv_iload_n hx hb dL_law_776 rfl (lv_at hl 3 rfl) ?_
  refine lv_iconst (v := 2) hx hb dL_law_777 (by decide) ?_
  refine lv_iadd hx hb dL_law_778 ?_
  refine va_sld hx hb hX hbl hbA hS v2 dL_law_779 ?_
  refine lw_callR (ci := 6) (q0 := 0) (own := RL) (As := [.int (xs (nI i + (1 : Int32)).toNatClampNeg), .int (xs (nI i + (2 : Int32)).toNatClampNeg)]) (rest := [.int v]) ⟨hx, hb, hml, hown, hts⟩ (M7_warmThen l D y a2 s7 t7 (xs (nI i + (1 : Int32)).toNatClampNeg) (xs (nI i + (2 : Int32)).toNatClampNeg) v f7) (cwV 2 hts (gA_V wl_782 wl_783 wl_784 wl_5 wl_785) rfl rfl rfl (by decide +kernel) ⟨Nat.le_of_ble_eq_true rfl, Nat.le_of_ble_eq_true rfl⟩) rfl rfl rfl hl.1 rfl (Nat.le_of_ble_eq_true rfl) dL_law_780 ⟨Nat.le_refl _, Nat.le_refl _⟩ hK hP hD hS hA W7_len (fun H locs hP hD hS => ?_)
  refine lv_icmp_eq (tgt := 1584) hx hb dL_law_783 (by decide) (fun _ => ?_) (fun z => absurd rfl z)
  exact K t6 t7 R1 H locs ls hP hD hS hl
theorem lw_c20 {p : Program} {l : Launch} {e : Env} {s : State} {m : MethodId} {below : List Frame} {meth : Method} {c : Code} {b L : Nat} {xs : Nat → Int32} {D : va_G} {y : Nat → ClassId} {a a2 : Nat → Nat} {i : Nat} {s6 : S6} {s7 : S7} (hL : L ≤ 3072) (C0 : lw_At p s m meth c b L xs) (hK : va_K D vwCl (dTy y) s) (R0 : Rel s6 s7) (hi : i + 6 ≤ L) (K : ∀ (t6 : S6) (t7 : S7), Rel t6 t7 → lw_go p l e s m below meth c b D y a a2 i 1584 t6 t7) : lw_go p l e s m below meth c b D y a a2 i 788 s6 s7 := by
  obtain ⟨hx, hb, hr, hml, hown, hts0, hX, hbl, hlocks, hgv⟩ := C0
  have hts : ∀ w ∈ wsL_law, w.before #[Value.ref b] s = true := fun w h => hts0 w (wsL_law_in w h)
  have hA : ∀ q : Nat, s.heap.size ≤ q → (fun q : Nat => s.heap.size ≤ q) q := fun _ h => h
  have hbA : ¬ (fun q : Nat => s.heap.size ≤ q) b := Nat.not_le.mpr hbl
  have v1 : vp_in (nI i + (1 : Int32)) L := lw_ix hL hi (j := 1) (by omega) rfl
  obtain ⟨v, t6, t7, f6, f7, R1⟩ := s_when a a2 R0 (xs (nI i + (1 : Int32)).toNatClampNeg)
  intro H locs ls hP hD hS hl
  refine lv_aload_n hx hb dL_law_788 rfl (lv_at hl 1 rfl) ?_
  refine lv_aload_n hx hb dL_law_789 rfl (lv_at hl 0 rfl) ?_
  refine lv_iload_n hx hb dL_law_790 rfl (lv_at hl 3 rfl) ?_
  refine lv_iconst (v := 1) hx hb dL_law_791 (by decide) ?_
  refine lv_iadd hx hb dL_law_792 ?_
  refine va_sld hx hb hX hbl hbA hS v1 dL_law_793 ?_
  refine lw_callL (ci := 5) (q0 := 0) (own := RL) (As := [.int (xs (nI i + (1 : Int32)).toNatClampNeg)]) (rest := []) ⟨hx, hb, hml, hown, hts⟩ (M6_when l D y a s6 t6 (xs (nI i + (1 : Int32)).toNatClampNeg) v f6) (cwV 1 hts (gA_V wl_786 wl_787 wl_788 wl_2 wl_789) rfl rfl rfl (by decide +kernel) ⟨Nat.le_of_ble_eq_true rfl, Nat.le_of_ble_eq_true rfl⟩) rfl rfl rfl hl.1 rfl (Nat.le_of_ble_eq_true rfl) dL_law_794 ⟨Nat.le_refl _, Nat.le_refl _⟩ hK hP hD hS hA W6_len (fun H locs hP hD hS => ?_)
  refine lv_aload_n hx hb dL_law_797 rfl (lv_at hl 2 rfl) ?_
  refine lv_aload_n hx hb dL_law_798 rfl (lv_at hl 0 rfl) ?_
  refine lv_iload_n hx hb dL_law_799 rfl (lv_at hl 3 rfl) ?_
  refine lv_iconst (v := 1) hx hb dL_law_800 (by decide) ?_
  refine lv_iadd hx hb dL_law_801 ?_
  refine va_sld hx hb hX hbl hbA hS v1 dL_law_802 ?_
  refine lw_callR (ci := 6) (q0 := 0) (own := RL) (As := [.int (xs (nI i + (1 : Int32)).toNatClampNeg)]) (rest := [.int v]) ⟨hx, hb, hml, hown, hts⟩ (M7_when l D y a2 s7 t7 (xs (nI i + (1 : Int32)).toNatClampNeg) v f7) (cwV 1 hts (gA_V wl_799 wl_800 wl_801 wl_5 wl_802) rfl rfl rfl (by decide +kernel) ⟨Nat.le_of_ble_eq_true rfl, Nat.le_of_ble_eq_true rfl⟩) rfl rfl rfl hl.1 rfl (Nat.le_of_ble_eq_true rfl) dL_law_803 ⟨Nat.le_refl _, Nat.le_refl _⟩ hK hP hD hS hA W7_len (fun H locs hP hD hS => ?_)
  refine lv_icmp_eq (tgt := 1584) hx hb dL_law_806 (by decide) (fun _ => ?_) (fun z => absurd rfl z)
  exact K t6 t7 R1 H locs ls hP hD hS hl
theorem lw_c21 {p : Program} {l : Launch} {e : Env} {s : State} {m : MethodId} {below : List Frame} {meth : Method} {c : Code} {b L : Nat} {xs : Nat → Int32} {D : va_G} {y : Nat → ClassId} {a a2 : Nat → Nat} {i : Nat} {s6 : S6} {s7 : S7} (hL : L ≤ 3072) (C0 : lw_At p s m meth c b L xs) (hK : va_K D vwCl (dTy y) s) (R0 : Rel s6 s7) (hi : i + 6 ≤ L) (K : ∀ (t6 : S6) (t7 : S7), Rel t6 t7 → lw_go p l e s m below meth c b D y a a2 i 1584 t6 t7) : lw_go p l e s m below meth c b D y a a2 i 811 s6 s7 := by
  obtain ⟨hx, hb, hr, hml, hown, hts0, hX, hbl, hlocks, hgv⟩ := C0
  have hts : ∀ w ∈ wsL_law, w.before #[Value.ref b] s = true := fun w h => hts0 w (wsL_law_in w h)
  have hA : ∀ q : Nat, s.heap.size ≤ q → (fun q : Nat => s.heap.size ≤ q) q := fun _ h => h
  have hbA : ¬ (fun q : Nat => s.heap.size ≤ q) b := Nat.not_le.mpr hbl
  have v1 : vp_in (nI i + (1 : Int32)) L := lw_ix hL hi (j := 1) (by omega) rfl
  have v2 : vp_in (nI i + (2 : Int32)) L := lw_ix hL hi (j := 2) (by omega) rfl
  obtain ⟨v, t6, t7, f6, f7, R1⟩ := s_sit a a2 R0 (xs (nI i + (1 : Int32)).toNatClampNeg) (xs (nI i + (2 : Int32)).toNatClampNeg)
  intro H locs ls hP hD hS hl
  refine lv_aload_n hx hb dL_law_811 rfl (lv_at hl 1 rfl) ?_
  refine lv_aload_n hx hb dL_law_812 rfl (lv_at hl 0 rfl) ?_
  refine lv_iload_n hx hb dL_law_813 rfl (lv_at hl 3 rfl) ?_
  refine lv_iconst (v := 1) hx hb dL_law_814 (by decide) ?_
  refine lv_iadd hx hb dL_law_815 ?_
  refine va_sld hx hb hX hbl hbA hS v1 dL_law_816 ?_
  refine lv_aload_n hx hb dL_law_817 rfl (lv_at hl 0 rfl) ?_
  refine lv_iload_n hx hb dL_law_818 rfl (lv_at hl 3 rfl) ?_
  refine lv_iconst (v := 2) hx hb dL_law_819 (by decide) ?_
  refine lv_iadd hx hb dL_law_820 ?_
  refine va_sld hx hb hX hbl hbA hS v2 dL_law_821 ?_
  refine lw_callL (ci := 5) (q0 := 0) (own := RL) (As := [.int (xs (nI i + (1 : Int32)).toNatClampNeg), .int (xs (nI i + (2 : Int32)).toNatClampNeg)]) (rest := []) ⟨hx, hb, hml, hown, hts⟩ (M6_sit l D y a s6 t6 (xs (nI i + (1 : Int32)).toNatClampNeg) (xs (nI i + (2 : Int32)).toNatClampNeg) v f6) (cwV 2 hts (gA_V wl_808 wl_809 wl_810 wl_2 wl_811) rfl rfl rfl (by decide +kernel) ⟨Nat.le_of_ble_eq_true rfl, Nat.le_of_ble_eq_true rfl⟩) rfl rfl rfl hl.1 rfl (Nat.le_of_ble_eq_true rfl) dL_law_822 ⟨Nat.le_refl _, Nat.le_refl _⟩ hK hP hD hS hA W6_len (fun H locs hP hD hS => ?_)
  refine lv_aload_n hx hb dL_law_825 rfl (lv_at hl 2 rfl) ?_
  refine lv_aload_n hx hb dL_law_826 rfl (lv_at hl 0 rfl) ?_
  refine lv_iload_n hx hb dL_law_827 rfl (lv_at hl 3 rfl) ?_
  refine lv_iconst (v := 1) hx hb dL_law_828 (by decide) ?_
  refine lv_iadd hx hb dL_law_829 ?_
  refine va_sld hx hb hX hbl hbA hS v1 dL_law_830 ?_
  refine lv_aload_n hx hb dL_law_831 rfl (lv_at hl 0 rfl) ?_
  refine lv_iload_n hx hb dL_law_832 rfl (lv_at hl 3 rfl) ?_
  refine lv_iconst (v := 2) hx hb dL_law_833 (by decide) ?_
  refine lv_iadd hx hb dL_law_834 ?_
  refine va_sld hx hb hX hbl hbA hS v2 dL_law_835 ?_
  refine lw_callR (ci := 6) (q0 := 0) (own := RL) (As := [.int (xs (nI i + (1 : Int32)).toNatClampNeg), .int (xs (nI i + (2 : Int32)).toNatClampNeg)]) (rest := [.int v]) ⟨hx, hb, hml, hown, hts⟩ (M7_sit l D y a2 s7 t7 (xs (nI i + (1 : Int32)).toNatClampNeg) (xs (nI i + (2 : Int32)).toNatClampNeg) v f7) (cwV 2 hts (gA_V wl_812 wl_813 wl_814 wl_5 wl_815) rfl rfl rfl (by decide +kernel) ⟨Nat.le_of_ble_eq_true rfl, Nat.le_of_ble_eq_true rfl⟩) rfl rfl rfl hl.1 rfl (Nat.le_of_ble_eq_true rfl) dL_law_836 ⟨Nat.le_refl _, Nat.le_refl _⟩ hK hP hD hS hA W7_len (fun H locs hP hD hS => ?_)
  refine lv_icmp_eq (tgt := 1584) hx hb dL_law_839 (by decide) (fun _ => ?_) (fun z => absurd rfl z)
  exact K t6 t7 R1 H locs ls hP hD hS hl
theorem lw_c22 {p : Program} {l : Launch} {e : Env} {s : State} {m : MethodId} {below : List Frame} {meth : Method} {c : Code} {b L : Nat} {xs : Nat → Int32} {D : va_G} {y : Nat → ClassId} {a a2 : Nat → Nat} {i : Nat} {s6 : S6} {s7 : S7} (hL : L ≤ 3072) (C0 : lw_At p s m meth c b L xs) (hK : va_K D vwCl (dTy y) s) (R0 : Rel s6 s7) (hi : i + 6 ≤ L) (K : ∀ (t6 : S6) (t7 : S7), Rel t6 t7 → lw_go p l e s m below meth c b D y a a2 i 1584 t6 t7) : lw_go p l e s m below meth c b D y a a2 i 844 s6 s7 := by
  obtain ⟨hx, hb, hr, hml, hown, hts0, hX, hbl, hlocks, hgv⟩ := C0
  have hts : ∀ w ∈ wsL_law, w.before #[Value.ref b] s = true := fun w h => hts0 w (wsL_law_in w h)
  have hA : ∀ q : Nat, s.heap.size ≤ q → (fun q : Nat => s.heap.size ≤ q) q := fun _ h => h
  have hbA : ¬ (fun q : Nat => s.heap.size ≤ q) b := Nat.not_le.mpr hbl
  have v1 : vp_in (nI i + (1 : Int32)) L := lw_ix hL hi (j := 1) (by omega) rfl
  have v2 : vp_in (nI i + (2 : Int32)) L := lw_ix hL hi (j := 2) (by omega) rfl
  obtain ⟨v, t6, t7, f6, f7, R1⟩ := s_shut a a2 R0 (xs (nI i + (1 : Int32)).toNatClampNeg) (xs (nI i + (2 : Int32)).toNatClampNeg)
  intro H locs ls hP hD hS hl
  refine lv_aload_n hx hb dL_law_844 rfl (lv_at hl 1 rfl) ?_
  refine lv_aload_n hx hb dL_law_845 rfl (lv_at hl 0 rfl) ?_
  refine lv_iload_n hx hb dL_law_846 rfl (lv_at hl 3 rfl) ?_
  refine lv_iconst (v := 1) hx hb dL_law_847 (by decide) ?_
  refine lv_iadd hx hb dL_law_848 ?_
  refine va_sld hx hb hX hbl hbA hS v1 dL_law_849 ?_
  refine lv_aload_n hx hb dL_law_850 rfl (lv_at hl 0 rfl) ?_
  refine lv_iload_n hx hb dL_law_851 rfl (lv_at hl 3 rfl) ?_
  refine lv_iconst (v := 2) hx hb dL_law_852 (by decide) ?_
  refine lv_iadd hx hb dL_law_853 ?_
  refine va_sld hx hb hX hbl hbA hS v2 dL_law_854 ?_
  refine lw_callL (ci := 5) (q0 := 0) (own := RL) (As := [.int (xs (nI i + (1 : Int32)).toNatClampNeg), .int (xs (nI i + (2 : Int32)).toNatClampNeg)]) (rest := []) ⟨hx, hb, hml, hown, hts⟩ (M6_shut l D y a s6 t6 (xs (nI i + (1 : Int32)).toNatClampNeg) (xs (nI i + (2 : Int32)).toNatClampNeg) v f6) (cwV 2 hts (gA_V wl_816 wl_817 wl_818 wl_2 wl_819) rfl rfl rfl (by decide +kernel) ⟨Nat.le_of_ble_eq_true rfl, Nat.le_of_ble_eq_true rfl⟩) rfl rfl rfl hl.1 rfl (Nat.le_of_ble_eq_true rfl) dL_law_855 ⟨Nat.le_refl _, Nat.le_refl _⟩ hK hP hD hS hA W6_len (fun H locs hP hD hS => ?_)
  refine lv_aload_n hx hb dL_law_858 rfl (lv_at hl 2 rfl) ?_
  refine lv_aload_n hx hb dL_law_859 rfl (lv_at hl 0 rfl) ?_
  refine lv_iload_n hx hb dL_law_860 rfl (lv_at hl 3 rfl) ?_
  refine lv_iconst (v := 1) hx hb dL_law_861 (by decide) ?_
  refine lv_iadd hx hb dL_law_862 ?_
  refine va_sld hx hb hX hbl hbA hS v1 dL_law_863 ?_
  refine lv_aload_n hx hb dL_law_864 rfl (lv_at hl 0 rfl) ?_
  refine lv_iload_n hx hb dL_law_865 rfl (lv_at hl 3 rfl) ?_
  refine lv_iconst (v := 2) hx hb dL_law_866 (by decide) ?_
  refine lv_iadd hx hb dL_law_867 ?_
  refine va_sld hx hb hX hbl hbA hS v2 dL_law_868 ?_
  refine lw_callR (ci := 6) (q0 := 0) (own := RL) (As := [.int (xs (nI i + (1 : Int32)).toNatClampNeg), .int (xs (nI i + (2 : Int32)).toNatClampNeg)]) (rest := [.int v]) ⟨hx, hb, hml, hown, hts⟩ (M7_shut l D y a2 s7 t7 (xs (nI i + (1 : Int32)).toNatClampNeg) (xs (nI i + (2 : Int32)).toNatClampNeg) v f7) (cwV 2 hts (gA_V wl_824 wl_825 wl_826 wl_5 wl_827) rfl rfl rfl (by decide +kernel) ⟨Nat.le_of_ble_eq_true rfl, Nat.le_of_ble_eq_true rfl⟩) rfl rfl rfl hl.1 rfl (Nat.le_of_ble_eq_true rfl) dL_law_869 ⟨Nat.le_refl _, Nat.le_refl _⟩ hK hP hD hS hA W7_len (fun H locs hP hD hS => ?_)
  refine lv_icmp_eq (tgt := 1584) hx hb dL_law_872 (by decide) (fun _ => ?_) (fun z => absurd rfl z)
  exact K t6 t7 R1 H locs ls hP hD hS hl
