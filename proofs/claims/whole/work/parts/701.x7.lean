noncomputable def f_X7_in (n0 : Int64) (n1 : Int64) (n2 : Int64) : Option Int32 := dq_if ((lg_cmp n0 n1) < 0) (some (0 : Int32)) (dq_if (0 < (lg_cmp n0 n2)) (some (0 : Int32)) (some (1 : Int32)))
def wA_X7_in : List Cond := .code yX7_in cX7_in 6 (some .boolean) :: wsL_law
-- DraughtsTakeModel.in(JJJ)Z
set_option maxHeartbeats 4000000 in
set_option maxRecDepth 100000 in
theorem m_X7_in (l : Launch) (D : va_G) (y : Nat → ClassId) (n0 : Int64) (n1 : Int64) (n2 : Int64) (z0 : Int32) (hf : f_X7_in n0 n1 n2 = some z0) : Ct l D y yX7_in wA_X7_in 0 0 [.long n0, .long n1, .long n2] [] [] (some (.int z0)) := by
  refine ct_head (cc := cX7_in) (n := 6) (ret := (some .boolean)) (by decide) rfl (Nat.le_of_ble_eq_true rfl) ?_
  intro p e s m below meth c A ls hx hb hr hml hown hlocks hts hA hAe hP hK hD hl
  have hS : va_S A s.heap s.heap [] := va_S.rf
  have hl : lv_has ls 6 [(0, .long n0), (2, .long n1), (4, .long n2)] := hl
  have hown : s.vm.findClass RX7 = some m.cls := hown
  have hts : ∀ w ∈ wsL_law, w.before [.long n0, .long n1, .long n2].toArray s = true := fun w h => hts w (List.mem_cons_of_mem _ h)
  unfold f_X7_in at hf
  refine lv_lload_n hx hb dX7_in_0 rfl (lv_at hl 0 rfl) ?_
  refine lv_lload_n hx hb dX7_in_1 rfl (lv_at hl 1 rfl) ?_
  refine W.lcmp hx hb dX7_in_2 ?_
  refine lv_if_lt (tgt := 17) hx hb dX7_in_3 (by decide) (fun c1 => ?_) (fun c1 => ?_)
  · have hf := dq_t hf c1
    clear c1
    refine lv_iconst (v := 0) hx hb dX7_in_17 (by decide) ?_
    obtain rfl := dq_r1 hf
    exact ct_zret hx hb hr rfl hlocks hAe hP hK hD hS dX7_in_18
  · have hf := dq_f hf c1
    clear c1
    refine lv_lload_n hx hb dX7_in_6 rfl (lv_at hl 0 rfl) ?_
    refine lv_lload hx hb dX7_in_7 (lv_at hl 2 rfl) ?_
    refine W.lcmp hx hb dX7_in_9 ?_
    refine lv_if_gt (tgt := 17) hx hb dX7_in_10 (by decide) (fun c2 => ?_) (fun c2 => ?_)
    · have hf := dq_t hf c2
      clear c2
      refine lv_iconst (v := 0) hx hb dX7_in_17 (by decide) ?_
      obtain rfl := dq_r1 hf
      exact ct_zret hx hb hr rfl hlocks hAe hP hK hD hS dX7_in_18
    · have hf := dq_f hf c2
      clear c2
      refine lv_iconst (v := 1) hx hb dX7_in_13 (by decide) ?_
      refine lv_goto (tgt := 18) hx hb dX7_in_14 (by decide) ?_
      obtain rfl := dq_r1 hf
      exact ct_zret hx hb hr rfl hlocks hAe hP hK hD hS dX7_in_18
def w_X7 (y : Nat → ClassId) (a : Nat → Nat) (r_airs : Int32) (r_sitters : Int32) (r_stepMany : Int32) (r_today : Int32) (r_taken : Int32) (r_isStill : Int32) (r_thrown : Int32) (r_letterMany : Int32) (r_at0 : Int32) (r_isBad : Int32) (r_statements : Int32) (r_stepsMany : Int32) (r_hasImage : Int32) (r_place0 : Int32) (r_isTaking : Int32) (r_keptIn : Value) (r_turned : Int32) (r_rowMany : Int32) (r_seed : Int32) (r_warms : (Nat → UInt32)) (r_shutAt : (Nat → Int32)) (r_kinds0 : (Nat → Int32)) (r_figures : (Nat → Int32)) (r_airAt : (Nat → Int32)) (r_ways : (Nat → Int32)) (r_crowned : (Nat → Int32)) (r_sitsAt : (Nat → Int32)) (r_shawls : (Nat → Int32)) (r_isOn : (Nat → Int32)) (r_stepOf : (Nat → Int32)) (r_stepBy : (Nat → Int32)) (r_refusals : (Nat → Int32)) (r_letters : (Nat → Int32)) (r_placeIn : (Nat → Int32)) (r_letterOf : (Nat → Int32)) (r_numbers : (Nat → Int32)) (r_stepsRead : (Nat → Int32)) (r_stepsBy : (Nat → Int32)) (r_kept : (Nat → Int32)) (r_keptWarms : (Nat → UInt32)) (r_i_imaged : (Nat → Int32)) (r_imagedWarms : (Nat → UInt32)) (r_turns0 : (Nat → Int32)) (r_turnWarms0 : (Nat → UInt32)) (r_turnOf : (Nat → Int32)) (r_turnWarms : (Nat → UInt32)) (r_row0 : (Nat → Int32)) (r_gains : (Nat → Int32)) (r_pegSort : (Nat → Int32)) (r_pegMany : (Nat → Int32)) (r_pegHolds : (Nat → Int32)) (r_coats : (Nat → Int32)) (r_coatsMoved : (Nat → Int32)) : va_W := [((a 0), .inr (6, [.ref (a 1), .ref (a 2), .int r_airs, .ref (a 3), .ref (a 4), .ref (a 5), .ref (a 6), .ref (a 7), .int r_sitters, .ref (a 8), .ref (a 9), .ref (a 10), .int r_stepMany, .ref (a 11), .ref (a 12), .int r_today, .int r_taken, .int r_isStill, .int r_thrown, .ref (a 13), .ref (a 14), .int r_letterMany, .int r_at0, .int r_isBad, .int r_statements, .ref (a 15), .ref (a 16), .ref (a 17), .ref (a 18), .ref (a 19), .int r_stepsMany, .ref (a 20), .ref (a 21), .ref (a 22), .ref (a 23), .int r_hasImage, .int r_place0, .int r_isTaking, r_keptIn, .ref (a 24), .ref (a 25), .ref (a 26), .ref (a 27), .int r_turned, .ref (a 28), .int r_rowMany, .ref (a 29), .ref (a 30), .ref (a 31), .ref (a 32), .ref (a 33), .ref (a 34), .int r_seed])), ((a 1), .inl (y 0, 36, .inr (.inr (.inl r_warms)))), ((a 2), .inl (y 1, 36, .inl r_shutAt)), ((a 3), .inl (y 1, 5, .inl r_kinds0)), ((a 4), .inl (y 1, 5, .inl r_figures)), ((a 5), .inl (y 1, 5, .inl r_airAt)), ((a 6), .inl (y 1, 5, .inl r_ways)), ((a 7), .inl (y 1, 5, .inl r_crowned)), ((a 8), .inl (y 1, 6, .inl r_sitsAt)), ((a 9), .inl (y 1, 6, .inl r_shawls)), ((a 10), .inl (y 1, 6, .inl r_isOn)), ((a 11), .inl (y 1, 6, .inl r_stepOf)), ((a 12), .inl (y 1, 6, .inl r_stepBy)), ((a 13), .inl (y 1, 7, .inl r_refusals)), ((a 14), .inl (y 1, 96, .inl r_letters)), ((a 15), .inl (y 1, 49, .inl r_placeIn)), ((a 16), .inl (y 1, 49, .inl r_letterOf)), ((a 17), .inl (y 1, 196, .inl r_numbers)), ((a 18), .inl (y 1, 96, .inl r_stepsRead)), ((a 19), .inl (y 1, 96, .inl r_stepsBy)), ((a 20), .inl (y 1, 96, .inl r_kept)), ((a 21), .inl (y 0, 36, .inr (.inr (.inl r_keptWarms)))), ((a 22), .inl (y 1, 96, .inl r_i_imaged)), ((a 23), .inl (y 0, 36, .inr (.inr (.inl r_imagedWarms)))), ((a 24), .inl (y 1, 768, .inl r_turns0)), ((a 25), .inl (y 0, 288, .inr (.inr (.inl r_turnWarms0)))), ((a 26), .inl (y 1, 96, .inl r_turnOf)), ((a 27), .inl (y 0, 36, .inr (.inr (.inl r_turnWarms)))), ((a 28), .inl (y 1, 12, .inl r_row0)), ((a 29), .inl (y 1, 8, .inl r_gains)), ((a 30), .inl (y 1, 3, .inl r_pegSort)), ((a 31), .inl (y 1, 3, .inl r_pegMany)), ((a 32), .inl (y 2, 3, .inl r_pegHolds)), ((a 33), .inl (y 1, 36, .inl r_coats)), ((a 34), .inl (y 1, 12, .inl r_coatsMoved))]
noncomputable def f_X7_refuse (r_refusals : (Nat → Int32)) (n0 : Int32) : Option (Int32 × (Nat → Int32)) := dq_let (-n0) (fun (x1 : Int32) => dq_gd (vp_in x1 7) (dq_gd (vp_in x1 7) (dq_let (upd r_refusals x1.toNatClampNeg ((r_refusals x1.toNatClampNeg) + (1 : Int32))) (fun (r_refusals_4 : (Nat → Int32)) => some (n0, r_refusals_4)))))
def wA_X7_refuse : List Cond := .code yX7_refuse cX7_refuse 2 (some .int) :: wsL_law
-- DraughtsTakeModel.refuse(I)I
set_option maxHeartbeats 4000000 in
set_option maxRecDepth 100000 in
theorem m_X7_refuse (l : Launch) (D : va_G) (y : Nat → ClassId) (a : (Nat → Nat)) (r_airs : Int32) (r_sitters : Int32) (r_stepMany : Int32) (r_today : Int32) (r_taken : Int32) (r_isStill : Int32) (r_thrown : Int32) (r_letterMany : Int32) (r_at0 : Int32) (r_isBad : Int32) (r_statements : Int32) (r_stepsMany : Int32) (r_hasImage : Int32) (r_place0 : Int32) (r_isTaking : Int32) (r_keptIn : Value) (r_turned : Int32) (r_rowMany : Int32) (r_seed : Int32) (r_warms : (Nat → UInt32)) (r_shutAt : (Nat → Int32)) (r_kinds0 : (Nat → Int32)) (r_figures : (Nat → Int32)) (r_airAt : (Nat → Int32)) (r_ways : (Nat → Int32)) (r_crowned : (Nat → Int32)) (r_sitsAt : (Nat → Int32)) (r_shawls : (Nat → Int32)) (r_isOn : (Nat → Int32)) (r_stepOf : (Nat → Int32)) (r_stepBy : (Nat → Int32)) (r_refusals : (Nat → Int32)) (r_letters : (Nat → Int32)) (r_placeIn : (Nat → Int32)) (r_letterOf : (Nat → Int32)) (r_numbers : (Nat → Int32)) (r_stepsRead : (Nat → Int32)) (r_stepsBy : (Nat → Int32)) (r_kept : (Nat → Int32)) (r_keptWarms : (Nat → UInt32)) (r_i_imaged : (Nat → Int32)) (r_imagedWarms : (Nat → UInt32)) (r_turns0 : (Nat → Int32)) (r_turnWarms0 : (Nat → UInt32)) (r_turnOf : (Nat → Int32)) (r_turnWarms : (Nat → UInt32)) (r_row0 : (Nat → Int32)) (r_gains : (Nat → Int32)) (r_pegSort : (Nat → Int32)) (r_pegMany : (Nat → Int32)) (r_pegHolds : (Nat → Int32)) (r_coats : (Nat → Int32)) (r_coatsMoved : (Nat → Int32)) (n0 : Int32) (z0 : Int32) (z1 : (Nat → Int32)) (hf : f_X7_refuse r_refusals n0 = some (z0, z1)) : Ct l D y yX7_refuse wA_X7_refuse 0 0 [.ref (a 0), .int n0] (w_X7 y a r_airs r_sitters r_stepMany r_today r_taken r_isStill r_thrown r_letterMany r_at0 r_isBad r_statements r_stepsMany r_hasImage r_place0 r_isTaking r_keptIn r_turned r_rowMany r_seed r_warms r_shutAt r_kinds0 r_figures r_airAt r_ways r_crowned r_sitsAt r_shawls r_isOn r_stepOf r_stepBy r_refusals r_letters r_placeIn r_letterOf r_numbers r_stepsRead r_stepsBy r_kept r_keptWarms r_i_imaged r_imagedWarms r_turns0 r_turnWarms0 r_turnOf r_turnWarms r_row0 r_gains r_pegSort r_pegMany r_pegHolds r_coats r_coatsMoved) (w_X7 y a r_airs r_sitters r_stepMany r_today r_taken r_isStill r_thrown r_letterMany r_at0 r_isBad r_statements r_stepsMany r_hasImage r_place0 r_isTaking r_keptIn r_turned r_rowMany r_seed r_warms r_shutAt r_kinds0 r_figures r_airAt r_ways r_crowned r_sitsAt r_shawls r_isOn r_stepOf r_stepBy z1 r_letters r_placeIn r_letterOf r_numbers r_stepsRead r_stepsBy r_kept r_keptWarms r_i_imaged r_imagedWarms r_turns0 r_turnWarms0 r_turnOf r_turnWarms r_row0 r_gains r_pegSort r_pegMany r_pegHolds r_coats r_coatsMoved) (some (.int z0)) := by
  refine ct_head (cc := cX7_refuse) (n := 2) (ret := (some .int)) (by decide) rfl (Nat.le_of_ble_eq_true rfl) ?_
  intro p e s m below meth c A ls hx hb hr hml hown hlocks hts hA hAe hP hK hD hl
  have hS : va_S A s.heap s.heap [] := va_S.rf
  have hl : lv_has ls 2 [(0, .ref (a 0)), (1, .int n0)] := hl
  have hown : s.vm.findClass RX7 = some m.cls := hown
  have hts : ∀ w ∈ wsL_law, w.before [.ref (a 0), .int n0].toArray s = true := fun w h => hts w (List.mem_cons_of_mem _ h)
  unfold f_X7_refuse at hf
  refine lv_aload_n hx hb dX7_refuse_0 rfl (lv_at hl 0 rfl) ?_
  refine va_get (D := D) (ci := 6) (v := .ref (a 13)) (C := RX7) (T := TX7) (N := 53) hx hb hts iwX7 hown hK hP 0 rfl rfl 19 (by decide) (hts _ wl_93) (fun _ h9 => h9) rfl dX7_refuse_1 ?_
  refine lv_iload_n hx hb dX7_refuse_4 rfl (lv_at hl 1 rfl) ?_
  refine lv_ineg hx hb dX7_refuse_5 ?_
  refine lv_topi (fun x1 ex1 => ?_)
  have hf := dq_l hf x1 ex1
  clear ex1
  refine lv_dup2_11 hx hb dX7_refuse_6 rfl rfl ?_
  obtain ⟨h2, hf⟩ := dq_g hf
  refine va_iald (cA := y 1) (n := 7) (f := r_refusals) hx hb hK hP 13 1 rfl rfl h2 dX7_refuse_7 ?_
  refine lv_iconst (v := 1) hx hb dX7_refuse_8 (by decide) ?_
  refine lv_iadd hx hb dX7_refuse_9 ?_
  obtain ⟨h3, hf⟩ := dq_g hf
  refine dq_iast (cA := y 1) (n := 7) (f := r_refusals) hx hb hK hP hD hS 13 1 rfl rfl h3 dX7_refuse_10 (fun r_refusals_4 er_refusals_4 H locs hP hD hS => ?_)
  have hf := dq_l hf r_refusals_4 er_refusals_4
  clear er_refusals_4
  have hP : va_P D vwCl (w_X7 y a r_airs r_sitters r_stepMany r_today r_taken r_isStill r_thrown r_letterMany r_at0 r_isBad r_statements r_stepsMany r_hasImage r_place0 r_isTaking r_keptIn r_turned r_rowMany r_seed r_warms r_shutAt r_kinds0 r_figures r_airAt r_ways r_crowned r_sitsAt r_shawls r_isOn r_stepOf r_stepBy r_refusals_4 r_letters r_placeIn r_letterOf r_numbers r_stepsRead r_stepsBy r_kept r_keptWarms r_i_imaged r_imagedWarms r_turns0 r_turnWarms0 r_turnOf r_turnWarms r_row0 r_gains r_pegSort r_pegMany r_pegHolds r_coats r_coatsMoved) H := hP
  have hD : va_D A (w_X7 y a r_airs r_sitters r_stepMany r_today r_taken r_isStill r_thrown r_letterMany r_at0 r_isBad r_statements r_stepsMany r_hasImage r_place0 r_isTaking r_keptIn r_turned r_rowMany r_seed r_warms r_shutAt r_kinds0 r_figures r_airAt r_ways r_crowned r_sitsAt r_shawls r_isOn r_stepOf r_stepBy r_refusals_4 r_letters r_placeIn r_letterOf r_numbers r_stepsRead r_stepsBy r_kept r_keptWarms r_i_imaged r_imagedWarms r_turns0 r_turnWarms0 r_turnOf r_turnWarms r_row0 r_gains r_pegSort r_pegMany r_pegHolds r_coats r_coatsMoved) := hD
  refine lv_iload_n hx hb dX7_refuse_11 rfl (lv_at hl 1 rfl) ?_
  obtain ⟨rfl, rfl⟩ := dq_r2 hf
  exact ct_iret hx hb hr hlocks hAe hP hK hD hS dX7_refuse_12
noncomputable def f_X7_isAir (r_airs : Int32) (n0 : Int32) : Option Int32 := dq_bd (f_X7_in n0.toInt64 (0 : Int64) ((r_airs - (1 : Int32)).toInt64)) (fun (x1 : Int32) => dq_gd (dq_z x1) (some x1))
def wA_X7_isAir : List Cond := .code yX7_isAir cX7_isAir 2 (some .boolean) :: wsL_law
-- DraughtsTakeModel.isAir(I)Z
set_option maxHeartbeats 4000000 in
set_option maxRecDepth 100000 in
theorem m_X7_isAir (l : Launch) (D : va_G) (y : Nat → ClassId) (a : (Nat → Nat)) (r_airs : Int32) (r_sitters : Int32) (r_stepMany : Int32) (r_today : Int32) (r_taken : Int32) (r_isStill : Int32) (r_thrown : Int32) (r_letterMany : Int32) (r_at0 : Int32) (r_isBad : Int32) (r_statements : Int32) (r_stepsMany : Int32) (r_hasImage : Int32) (r_place0 : Int32) (r_isTaking : Int32) (r_keptIn : Value) (r_turned : Int32) (r_rowMany : Int32) (r_seed : Int32) (r_warms : (Nat → UInt32)) (r_shutAt : (Nat → Int32)) (r_kinds0 : (Nat → Int32)) (r_figures : (Nat → Int32)) (r_airAt : (Nat → Int32)) (r_ways : (Nat → Int32)) (r_crowned : (Nat → Int32)) (r_sitsAt : (Nat → Int32)) (r_shawls : (Nat → Int32)) (r_isOn : (Nat → Int32)) (r_stepOf : (Nat → Int32)) (r_stepBy : (Nat → Int32)) (r_refusals : (Nat → Int32)) (r_letters : (Nat → Int32)) (r_placeIn : (Nat → Int32)) (r_letterOf : (Nat → Int32)) (r_numbers : (Nat → Int32)) (r_stepsRead : (Nat → Int32)) (r_stepsBy : (Nat → Int32)) (r_kept : (Nat → Int32)) (r_keptWarms : (Nat → UInt32)) (r_i_imaged : (Nat → Int32)) (r_imagedWarms : (Nat → UInt32)) (r_turns0 : (Nat → Int32)) (r_turnWarms0 : (Nat → UInt32)) (r_turnOf : (Nat → Int32)) (r_turnWarms : (Nat → UInt32)) (r_row0 : (Nat → Int32)) (r_gains : (Nat → Int32)) (r_pegSort : (Nat → Int32)) (r_pegMany : (Nat → Int32)) (r_pegHolds : (Nat → Int32)) (r_coats : (Nat → Int32)) (r_coatsMoved : (Nat → Int32)) (n0 : Int32) (z0 : Int32) (hf : f_X7_isAir r_airs n0 = some z0) : Ct l D y yX7_isAir wA_X7_isAir 1 25 [.ref (a 0), .int n0] (w_X7 y a r_airs r_sitters r_stepMany r_today r_taken r_isStill r_thrown r_letterMany r_at0 r_isBad r_statements r_stepsMany r_hasImage r_place0 r_isTaking r_keptIn r_turned r_rowMany r_seed r_warms r_shutAt r_kinds0 r_figures r_airAt r_ways r_crowned r_sitsAt r_shawls r_isOn r_stepOf r_stepBy r_refusals r_letters r_placeIn r_letterOf r_numbers r_stepsRead r_stepsBy r_kept r_keptWarms r_i_imaged r_imagedWarms r_turns0 r_turnWarms0 r_turnOf r_turnWarms r_row0 r_gains r_pegSort r_pegMany r_pegHolds r_coats r_coatsMoved) (w_X7 y a r_airs r_sitters r_stepMany r_today r_taken r_isStill r_thrown r_letterMany r_at0 r_isBad r_statements r_stepsMany r_hasImage r_place0 r_isTaking r_keptIn r_turned r_rowMany r_seed r_warms r_shutAt r_kinds0 r_figures r_airAt r_ways r_crowned r_sitsAt r_shawls r_isOn r_stepOf r_stepBy r_refusals r_letters r_placeIn r_letterOf r_numbers r_stepsRead r_stepsBy r_kept r_keptWarms r_i_imaged r_imagedWarms r_turns0 r_turnWarms0 r_turnOf r_turnWarms r_row0 r_gains r_pegSort r_pegMany r_pegHolds r_coats r_coatsMoved) (some (.int z0)) := by
  refine ct_head (cc := cX7_isAir) (n := 2) (ret := (some .boolean)) (by decide) rfl (Nat.le_of_ble_eq_true rfl) ?_
  intro p e s m below meth c A ls hx hb hr hml hown hlocks hts hA hAe hP hK hD hl
  have hS : va_S A s.heap s.heap [] := va_S.rf
  have hl : lv_has ls 2 [(0, .ref (a 0)), (1, .int n0)] := hl
  have hown : s.vm.findClass RX7 = some m.cls := hown
  have hts : ∀ w ∈ wsL_law, w.before [.ref (a 0), .int n0].toArray s = true := fun w h => hts w (List.mem_cons_of_mem _ h)
  unfold f_X7_isAir at hf
  refine lv_iload_n hx hb dX7_isAir_0 rfl (lv_at hl 1 rfl) ?_
  refine lv_i2l hx hb dX7_isAir_1 rfl ?_
  refine lv_lconst (v := 0) hx hb dX7_isAir_2 (by decide) ?_
  refine lv_aload_n hx hb dX7_isAir_3 rfl (lv_at hl 0 rfl) ?_
  refine va_get (D := D) (ci := 6) (v := .int r_airs) (C := RX7) (T := TX7) (N := 53) hx hb hts iwX7 hown hK hP 0 rfl rfl 2 (by decide) (hts _ wl_405) (fun _ h9 => h9) rfl dX7_isAir_4 ?_
  refine lv_iconst (v := 1) hx hb dX7_isAir_7 (by decide) ?_
  refine lv_isub hx hb dX7_isAir_8 ?_
  refine lv_i2l hx hb dX7_isAir_9 rfl ?_
  obtain ⟨x1, hy2, hf⟩ := dq_b hf
  refine ct_callS0 (own := RX7) (As := [.long n0.toInt64, .long (0 : Int64), .long (r_airs - (1 : Int32)).toInt64]) (rest := []) ⟨hx, hb, hml, hown, hts⟩ (m_X7_in l D y n0.toInt64 (0 : Int64) ((r_airs - (1 : Int32)).toInt64) x1 hy2) (va_cwS 3 hts (gA_S wl_391 wl_392 wl_5 wl_393) rfl rfl rfl (by decide +kernel) ⟨Nat.le_of_ble_eq_true rfl, Nat.le_of_ble_eq_true rfl⟩) rfl hl.1 rfl (Nat.le_of_ble_eq_true rfl) dX7_isAir_10 ⟨Nat.zero_le _, Nat.zero_le _⟩ hK hP hD hS hA (fun H locs hP hD hS => ?_)
  obtain ⟨h3, hf⟩ := dq_g hf
  obtain rfl := dq_r1 hf
  exact ct_zret hx hb hr (dq_zn h3) hlocks hAe hP hK hD hS dX7_isAir_13
noncomputable def f_X7_isSitter (r_sitters : Int32) (n0 : Int32) : Option Int32 := dq_bd (f_X7_in n0.toInt64 (0 : Int64) ((r_sitters - (1 : Int32)).toInt64)) (fun (x1 : Int32) => dq_gd (dq_z x1) (some x1))
def wA_X7_isSitter : List Cond := .code yX7_isSitter cX7_isSitter 2 (some .boolean) :: wsL_law
-- DraughtsTakeModel.isSitter(I)Z
set_option maxHeartbeats 4000000 in
set_option maxRecDepth 100000 in
theorem m_X7_isSitter (l : Launch) (D : va_G) (y : Nat → ClassId) (a : (Nat → Nat)) (r_airs : Int32) (r_sitters : Int32) (r_stepMany : Int32) (r_today : Int32) (r_taken : Int32) (r_isStill : Int32) (r_thrown : Int32) (r_letterMany : Int32) (r_at0 : Int32) (r_isBad : Int32) (r_statements : Int32) (r_stepsMany : Int32) (r_hasImage : Int32) (r_place0 : Int32) (r_isTaking : Int32) (r_keptIn : Value) (r_turned : Int32) (r_rowMany : Int32) (r_seed : Int32) (r_warms : (Nat → UInt32)) (r_shutAt : (Nat → Int32)) (r_kinds0 : (Nat → Int32)) (r_figures : (Nat → Int32)) (r_airAt : (Nat → Int32)) (r_ways : (Nat → Int32)) (r_crowned : (Nat → Int32)) (r_sitsAt : (Nat → Int32)) (r_shawls : (Nat → Int32)) (r_isOn : (Nat → Int32)) (r_stepOf : (Nat → Int32)) (r_stepBy : (Nat → Int32)) (r_refusals : (Nat → Int32)) (r_letters : (Nat → Int32)) (r_placeIn : (Nat → Int32)) (r_letterOf : (Nat → Int32)) (r_numbers : (Nat → Int32)) (r_stepsRead : (Nat → Int32)) (r_stepsBy : (Nat → Int32)) (r_kept : (Nat → Int32)) (r_keptWarms : (Nat → UInt32)) (r_i_imaged : (Nat → Int32)) (r_imagedWarms : (Nat → UInt32)) (r_turns0 : (Nat → Int32)) (r_turnWarms0 : (Nat → UInt32)) (r_turnOf : (Nat → Int32)) (r_turnWarms : (Nat → UInt32)) (r_row0 : (Nat → Int32)) (r_gains : (Nat → Int32)) (r_pegSort : (Nat → Int32)) (r_pegMany : (Nat → Int32)) (r_pegHolds : (Nat → Int32)) (r_coats : (Nat → Int32)) (r_coatsMoved : (Nat → Int32)) (n0 : Int32) (z0 : Int32) (hf : f_X7_isSitter r_sitters n0 = some z0) : Ct l D y yX7_isSitter wA_X7_isSitter 1 25 [.ref (a 0), .int n0] (w_X7 y a r_airs r_sitters r_stepMany r_today r_taken r_isStill r_thrown r_letterMany r_at0 r_isBad r_statements r_stepsMany r_hasImage r_place0 r_isTaking r_keptIn r_turned r_rowMany r_seed r_warms r_shutAt r_kinds0 r_figures r_airAt r_ways r_crowned r_sitsAt r_shawls r_isOn r_stepOf r_stepBy r_refusals r_letters r_placeIn r_letterOf r_numbers r_stepsRead r_stepsBy r_kept r_keptWarms r_i_imaged r_imagedWarms r_turns0 r_turnWarms0 r_turnOf r_turnWarms r_row0 r_gains r_pegSort r_pegMany r_pegHolds r_coats r_coatsMoved) (w_X7 y a r_airs r_sitters r_stepMany r_today r_taken r_isStill r_thrown r_letterMany r_at0 r_isBad r_statements r_stepsMany r_hasImage r_place0 r_isTaking r_keptIn r_turned r_rowMany r_seed r_warms r_shutAt r_kinds0 r_figures r_airAt r_ways r_crowned r_sitsAt r_shawls r_isOn r_stepOf r_stepBy r_refusals r_letters r_placeIn r_letterOf r_numbers r_stepsRead r_stepsBy r_kept r_keptWarms r_i_imaged r_imagedWarms r_turns0 r_turnWarms0 r_turnOf r_turnWarms r_row0 r_gains r_pegSort r_pegMany r_pegHolds r_coats r_coatsMoved) (some (.int z0)) := by
  refine ct_head (cc := cX7_isSitter) (n := 2) (ret := (some .boolean)) (by decide) rfl (Nat.le_of_ble_eq_true rfl) ?_
  intro p e s m below meth c A ls hx hb hr hml hown hlocks hts hA hAe hP hK hD hl
  have hS : va_S A s.heap s.heap [] := va_S.rf
  have hl : lv_has ls 2 [(0, .ref (a 0)), (1, .int n0)] := hl
  have hown : s.vm.findClass RX7 = some m.cls := hown
  have hts : ∀ w ∈ wsL_law, w.before [.ref (a 0), .int n0].toArray s = true := fun w h => hts w (List.mem_cons_of_mem _ h)
  unfold f_X7_isSitter at hf
  refine lv_iload_n hx hb dX7_isSitter_0 rfl (lv_at hl 1 rfl) ?_
  refine lv_i2l hx hb dX7_isSitter_1 rfl ?_
  refine lv_lconst (v := 0) hx hb dX7_isSitter_2 (by decide) ?_
  refine lv_aload_n hx hb dX7_isSitter_3 rfl (lv_at hl 0 rfl) ?_
  refine va_get (D := D) (ci := 6) (v := .int r_sitters) (C := RX7) (T := TX7) (N := 53) hx hb hts iwX7 hown hK hP 0 rfl rfl 8 (by decide) (hts _ wl_406) (fun _ h9 => h9) rfl dX7_isSitter_4 ?_
  refine lv_iconst (v := 1) hx hb dX7_isSitter_7 (by decide) ?_
  refine lv_isub hx hb dX7_isSitter_8 ?_
  refine lv_i2l hx hb dX7_isSitter_9 rfl ?_
  obtain ⟨x1, hy2, hf⟩ := dq_b hf
  refine ct_callS0 (own := RX7) (As := [.long n0.toInt64, .long (0 : Int64), .long (r_sitters - (1 : Int32)).toInt64]) (rest := []) ⟨hx, hb, hml, hown, hts⟩ (m_X7_in l D y n0.toInt64 (0 : Int64) ((r_sitters - (1 : Int32)).toInt64) x1 hy2) (va_cwS 3 hts (gA_S wl_391 wl_392 wl_5 wl_393) rfl rfl rfl (by decide +kernel) ⟨Nat.le_of_ble_eq_true rfl, Nat.le_of_ble_eq_true rfl⟩) rfl hl.1 rfl (Nat.le_of_ble_eq_true rfl) dX7_isSitter_10 ⟨Nat.zero_le _, Nat.zero_le _⟩ hK hP hD hS hA (fun H locs hP hD hS => ?_)
  obtain ⟨h3, hf⟩ := dq_g hf
  obtain rfl := dq_r1 hf
  exact ct_zret hx hb hr (dq_zn h3) hlocks hAe hP hK hD hS dX7_isSitter_13
noncomputable def f_X7_isCell (n0 : Int32) : Option Int32 := dq_bd (f_X7_in n0.toInt64 (0 : Int64) (35 : Int64)) (fun (x1 : Int32) => dq_gd (dq_z x1) (some x1))
def wA_X7_isCell : List Cond := .code yX7_isCell cX7_isCell 1 (some .boolean) :: wsL_law
-- DraughtsTakeModel.isCell(I)Z
set_option maxHeartbeats 4000000 in
set_option maxRecDepth 100000 in
theorem m_X7_isCell (l : Launch) (D : va_G) (y : Nat → ClassId) (n0 : Int32) (z0 : Int32) (hf : f_X7_isCell n0 = some z0) : Ct l D y yX7_isCell wA_X7_isCell 1 25 [.int n0] [] [] (some (.int z0)) := by
  refine ct_head (cc := cX7_isCell) (n := 1) (ret := (some .boolean)) (by decide) rfl (Nat.le_of_ble_eq_true rfl) ?_
  intro p e s m below meth c A ls hx hb hr hml hown hlocks hts hA hAe hP hK hD hl
  have hS : va_S A s.heap s.heap [] := va_S.rf
  have hl : lv_has ls 1 [(0, .int n0)] := hl
  have hown : s.vm.findClass RX7 = some m.cls := hown
  have hts : ∀ w ∈ wsL_law, w.before [.int n0].toArray s = true := fun w h => hts w (List.mem_cons_of_mem _ h)
  unfold f_X7_isCell at hf
  refine lv_iload_n hx hb dX7_isCell_0 rfl (lv_at hl 0 rfl) ?_
  refine lv_i2l hx hb dX7_isCell_1 rfl ?_
  refine lv_lconst (v := 0) hx hb dX7_isCell_2 (by decide) ?_
  refine lv_ldc2 hx hb hown (hts _ wl_425) dX7_isCell_3 ?_
  obtain ⟨x1, hy2, hf⟩ := dq_b hf
  refine ct_callS0 (own := RX7) (As := [.long n0.toInt64, .long (0 : Int64), .long (35 : Int64)]) (rest := []) ⟨hx, hb, hml, hown, hts⟩ (m_X7_in l D y n0.toInt64 (0 : Int64) (35 : Int64) x1 hy2) (va_cwS 3 hts (gA_S wl_391 wl_392 wl_5 wl_393) rfl rfl rfl (by decide +kernel) ⟨Nat.le_of_ble_eq_true rfl, Nat.le_of_ble_eq_true rfl⟩) rfl hl.1 rfl (Nat.le_of_ble_eq_true rfl) dX7_isCell_6 ⟨Nat.zero_le _, Nat.zero_le _⟩ hK hP hD hS hA (fun H locs hP hD hS => ?_)
  obtain ⟨h3, hf⟩ := dq_g hf
  obtain rfl := dq_r1 hf
  exact ct_zret hx hb hr (dq_zn h3) hlocks hAe hP hK hD hS dX7_isCell_9
noncomputable def f_X7_wrongNumber (n0 : Int32) (n1 : Int32) (n2 : Int32) : Option Int32 := dq_if (n1 ≤ n0) (dq_if (n0 ≤ n2) (some (0 : Int32)) (some (-6 : Int32))) (some (-4 : Int32))
def wA_X7_wrongNumber : List Cond := .code yX7_wrongNumber cX7_wrongNumber 3 (some .int) :: wsL_law
-- DraughtsTakeModel.wrongNumber(III)I
set_option maxHeartbeats 4000000 in
set_option maxRecDepth 100000 in
theorem m_X7_wrongNumber (l : Launch) (D : va_G) (y : Nat → ClassId) (n0 : Int32) (n1 : Int32) (n2 : Int32) (z0 : Int32) (hf : f_X7_wrongNumber n0 n1 n2 = some z0) : Ct l D y yX7_wrongNumber wA_X7_wrongNumber 0 0 [.int n0, .int n1, .int n2] [] [] (some (.int z0)) := by
  refine ct_head (cc := cX7_wrongNumber) (n := 3) (ret := (some .int)) (by decide) rfl (Nat.le_of_ble_eq_true rfl) ?_
  intro p e s m below meth c A ls hx hb hr hml hown hlocks hts hA hAe hP hK hD hl
  have hS : va_S A s.heap s.heap [] := va_S.rf
  have hl : lv_has ls 3 [(0, .int n0), (1, .int n1), (2, .int n2)] := hl
  have hown : s.vm.findClass RX7 = some m.cls := hown
  have hts : ∀ w ∈ wsL_law, w.before [.int n0, .int n1, .int n2].toArray s = true := fun w h => hts w (List.mem_cons_of_mem _ h)
  unfold f_X7_wrongNumber at hf
  refine lv_iload_n hx hb dX7_wrongNumber_0 rfl (lv_at hl 0 rfl) ?_
  refine lv_iload_n hx hb dX7_wrongNumber_1 rfl (lv_at hl 1 rfl) ?_
  refine lv_icmp_ge (tgt := 10) hx hb dX7_wrongNumber_2 (by decide) (fun c1 => ?_) (fun c1 => ?_)
  · have hf := dq_t hf c1
    clear c1
    refine lv_iload_n hx hb dX7_wrongNumber_10 rfl (lv_at hl 0 rfl) ?_
    refine lv_iload_n hx hb dX7_wrongNumber_11 rfl (lv_at hl 2 rfl) ?_
    refine lv_icmp_le (tgt := 20) hx hb dX7_wrongNumber_12 (by decide) (fun c2 => ?_) (fun c2 => ?_)
    · have hf := dq_t hf c2
      clear c2
      refine lv_iconst (v := 0) hx hb dX7_wrongNumber_20 (by decide) ?_
      obtain rfl := dq_r1 hf
      exact ct_iret hx hb hr hlocks hAe hP hK hD hS dX7_wrongNumber_21
    · have hf := dq_f hf c2
      clear c2
      refine lv_bipush (v := -6) hx hb dX7_wrongNumber_15 (by decide) ?_
      refine lv_goto (tgt := 21) hx hb dX7_wrongNumber_17 (by decide) ?_
      obtain rfl := dq_r1 hf
      exact ct_iret hx hb hr hlocks hAe hP hK hD hS dX7_wrongNumber_21
  · have hf := dq_f hf c1
    clear c1
    refine lv_bipush (v := -4) hx hb dX7_wrongNumber_5 (by decide) ?_
    refine lv_goto (tgt := 21) hx hb dX7_wrongNumber_7 (by decide) ?_
    obtain rfl := dq_r1 hf
    exact ct_iret hx hb hr hlocks hAe hP hK hD hS dX7_wrongNumber_21
noncomputable def f_X7_hasBit (n0 : Int32) (n1 : Int32) : Option Int32 := dq_if (((n0 >>> (n1 &&& 31)) &&& (1 : Int32)) = (1 : Int32)) (some (1 : Int32)) (some (0 : Int32))
def wA_X7_hasBit : List Cond := .code yX7_hasBit cX7_hasBit 2 (some .boolean) :: wsL_law
-- DraughtsTakeModel.hasBit(II)Z
set_option maxHeartbeats 4000000 in
set_option maxRecDepth 100000 in
theorem m_X7_hasBit (l : Launch) (D : va_G) (y : Nat → ClassId) (n0 : Int32) (n1 : Int32) (z0 : Int32) (hf : f_X7_hasBit n0 n1 = some z0) : Ct l D y yX7_hasBit wA_X7_hasBit 0 0 [.int n0, .int n1] [] [] (some (.int z0)) := by
  refine ct_head (cc := cX7_hasBit) (n := 2) (ret := (some .boolean)) (by decide) rfl (Nat.le_of_ble_eq_true rfl) ?_
  intro p e s m below meth c A ls hx hb hr hml hown hlocks hts hA hAe hP hK hD hl
  have hS : va_S A s.heap s.heap [] := va_S.rf
  have hl : lv_has ls 2 [(0, .int n0), (1, .int n1)] := hl
  have hown : s.vm.findClass RX7 = some m.cls := hown
  have hts : ∀ w ∈ wsL_law, w.before [.int n0, .int n1].toArray s = true := fun w h => hts w (List.mem_cons_of_mem _ h)
  unfold f_X7_hasBit at hf
  refine lv_iload_n hx hb dX7_hasBit_0 rfl (lv_at hl 0 rfl) ?_
  refine lv_iload_n hx hb dX7_hasBit_1 rfl (lv_at hl 1 rfl) ?_
  refine lv_ishr hx hb dX7_hasBit_2 ?_
  refine lv_iconst (v := 1) hx hb dX7_hasBit_3 (by decide) ?_
  refine lv_iand hx hb dX7_hasBit_4 ?_
  refine lv_iconst (v := 1) hx hb dX7_hasBit_5 (by decide) ?_
  refine lv_icmp_ne (tgt := 13) hx hb dX7_hasBit_6 (by decide) (fun c1 => ?_) (fun c1 => ?_)
  · have hf := dq_f hf c1
    clear c1
    refine lv_iconst (v := 0) hx hb dX7_hasBit_13 (by decide) ?_
    obtain rfl := dq_r1 hf
    exact ct_zret hx hb hr rfl hlocks hAe hP hK hD hS dX7_hasBit_14
  · have hf := dq_t hf c1
    clear c1
    refine lv_iconst (v := 1) hx hb dX7_hasBit_9 (by decide) ?_
    refine lv_goto (tgt := 14) hx hb dX7_hasBit_10 (by decide) ?_
    obtain rfl := dq_r1 hf
    exact ct_zret hx hb hr rfl hlocks hAe hP hK hD hS dX7_hasBit_14
noncomputable def f_X7_onesOf_b4   : Nat → Int32 → Int32 → Option Int32
  | 0, _, _ => none
  | m4 + 1, x1, x2 => dq_if (x2 = 0) (some x1) (dq_let (x1 + (1 : Int32)) (fun (x4 : Int32) => dq_let (x2 &&& (x2 - (1 : Int32))) (fun (x5 : Int32) => (f_X7_onesOf_b4 m4) x4 x5)))
noncomputable def f_X7_onesOf (n0 : Int32) : Option Int32 := f_X7_onesOf_b4 4096 (0 : Int32) n0
def wA_X7_onesOf : List Cond := .code yX7_onesOf cX7_onesOf 3 (some .int) :: wsL_law
-- DraughtsTakeModel.onesOf(I)I
set_option maxHeartbeats 4000000 in
set_option maxRecDepth 100000 in
theorem m_X7_onesOf (l : Launch) (D : va_G) (y : Nat → ClassId) (n0 : Int32) (z0 : Int32) (hf : f_X7_onesOf n0 = some z0) : Ct l D y yX7_onesOf wA_X7_onesOf 0 0 [.int n0] [] [] (some (.int z0)) := by
  refine ct_head (cc := cX7_onesOf) (n := 3) (ret := (some .int)) (by decide) rfl (Nat.le_of_ble_eq_true rfl) ?_
  intro p e s m below meth c A ls hx hb hr hml hown hlocks hts hA hAe hP hK hD hl
  have hS : va_S A s.heap s.heap [] := va_S.rf
  have hl : lv_has ls 3 [(0, .int n0)] := hl
  have hown : s.vm.findClass RX7 = some m.cls := hown
  have hts : ∀ w ∈ wsL_law, w.before [.int n0].toArray s = true := fun w h => hts w (List.mem_cons_of_mem _ h)
  unfold f_X7_onesOf at hf
  refine lv_iconst (v := 0) hx hb dX7_onesOf_0 (by decide) ?_
  refine lv_istore_n (lv' := [(1, .int (0 : Int32)), (0, .int n0)]) hx hb dX7_onesOf_1 rfl hl (by decide) rfl (fun ls hl => ?_)
  refine lv_iload_n hx hb dX7_onesOf_2 rfl (lv_at hl 1 rfl) ?_
  refine lv_istore_n (lv' := [(2, .int n0), (1, .int (0 : Int32)), (0, .int n0)]) hx hb dX7_onesOf_3 rfl hl (by decide) rfl (fun ls hl => ?_)
  have J4 : ∀ (m4 : Nat) (x1 : Int32) (x2 : Int32), f_X7_onesOf_b4 m4 x1 x2 = some z0 → ∀ (H : Heap) (locs : List Loc), va_P D vwCl [] H → va_D A [] → va_S A s.heap H locs → ∀ ls : Array Slot, lv_has ls 3 [(1, .int x1), (2, .int x2)] → W p l e ({ frames := 0, cells := 0, slots := 0, locals := 0 } : Room) s m [.int n0].toArray below meth c H locs 0 0 (MQ below (dQ D y (some (.int z0)) s.heap.size [] []) [.int n0].toArray s 0 0 A) (F0 m 4 ls []) := by
    intro m4
    induction m4 with
    | zero => intro x1 x2 hf; exact absurd hf (by unfold f_X7_onesOf_b4; exact fun h => by cases h)
    | succ m4 I4 =>
      intro x1 x2 hf H locs hP hD hS ls hl
      unfold f_X7_onesOf_b4 at hf
      refine lv_iload_n hx hb dX7_onesOf_4 rfl (lv_at hl 1 rfl) ?_
      refine lv_if_eq (tgt := 20) hx hb dX7_onesOf_5 (by decide) (fun c3 => ?_) (fun c3 => ?_)
      · have hf := dq_t hf c3
        clear c3
        refine lv_iload_n hx hb dX7_onesOf_20 rfl (lv_at hl 0 rfl) ?_
        obtain rfl := dq_r1 hf
        exact ct_iret hx hb hr hlocks hAe hP hK hD hS dX7_onesOf_21
      · have hf := dq_f hf c3
        clear c3
        obtain ⟨x4, ex4⟩ : ∃ z : Int32, z = (x1 + (1 : Int32)) := ⟨_, rfl⟩
        have hf := dq_l hf x4 ex4
        refine lv_iinc (v := x4) (lv' := [(1, .int x4), (2, .int x2)]) hx hb dX7_onesOf_8 hl (k := 0) rfl (by rw [ex4]; rfl) (by decide) rfl (fun ls hl => ?_)
        clear ex4
        refine lv_iload_n hx hb dX7_onesOf_11 rfl (lv_at hl 1 rfl) ?_
        refine lv_iload_n hx hb dX7_onesOf_12 rfl (lv_at hl 1 rfl) ?_
        refine lv_iconst (v := 1) hx hb dX7_onesOf_13 (by decide) ?_
        refine lv_isub hx hb dX7_onesOf_14 ?_
        refine lv_iand hx hb dX7_onesOf_15 ?_
        refine lv_topi (fun x5 ex5 => ?_)
        have hf := dq_l hf x5 ex5
        clear ex5
        refine lv_istore_n (lv' := [(2, .int x5), (1, .int x4)]) hx hb dX7_onesOf_16 rfl hl (by decide) rfl (fun ls hl => ?_)
        refine lv_goto (tgt := 4) hx hb dX7_onesOf_17 (by decide) ?_
        exact I4 _ _ hf _ _ hP hD hS _ (lv_sub hl [1, 0] rfl)
  exact J4 4096 _ _ hf _ _ hP hD hS _ (lv_sub hl [1, 0] rfl)
noncomputable def f_X7_held (n0 : Int32) (n1 : Int32) : Option Int32 := dq_if (0 ≤ n0) (dq_if (n0 ≤ n1) (some n0) (some n1)) (some (0 : Int32))
def wA_X7_held : List Cond := .code yX7_held cX7_held 2 (some .int) :: wsL_law
-- DraughtsTakeModel.held(II)I
set_option maxHeartbeats 4000000 in
set_option maxRecDepth 100000 in
theorem m_X7_held (l : Launch) (D : va_G) (y : Nat → ClassId) (n0 : Int32) (n1 : Int32) (z0 : Int32) (hf : f_X7_held n0 n1 = some z0) : Ct l D y yX7_held wA_X7_held 0 0 [.int n0, .int n1] [] [] (some (.int z0)) := by
  refine ct_head (cc := cX7_held) (n := 2) (ret := (some .int)) (by decide) rfl (Nat.le_of_ble_eq_true rfl) ?_
  intro p e s m below meth c A ls hx hb hr hml hown hlocks hts hA hAe hP hK hD hl
  have hS : va_S A s.heap s.heap [] := va_S.rf
  have hl : lv_has ls 2 [(0, .int n0), (1, .int n1)] := hl
  have hown : s.vm.findClass RX7 = some m.cls := hown
  have hts : ∀ w ∈ wsL_law, w.before [.int n0, .int n1].toArray s = true := fun w h => hts w (List.mem_cons_of_mem _ h)
  unfold f_X7_held at hf
  refine lv_iload_n hx hb dX7_held_0 rfl (lv_at hl 0 rfl) ?_
  refine lv_if_ge (tgt := 8) hx hb dX7_held_1 (by decide) (fun c1 => ?_) (fun c1 => ?_)
  · have hf := dq_t hf c1
    clear c1
    refine lv_iload_n hx hb dX7_held_8 rfl (lv_at hl 0 rfl) ?_
    refine lv_iload_n hx hb dX7_held_9 rfl (lv_at hl 1 rfl) ?_
    refine lv_icmp_le (tgt := 17) hx hb dX7_held_10 (by decide) (fun c2 => ?_) (fun c2 => ?_)
    · have hf := dq_t hf c2
      clear c2
      refine lv_iload_n hx hb dX7_held_17 rfl (lv_at hl 0 rfl) ?_
      obtain rfl := dq_r1 hf
      exact ct_iret hx hb hr hlocks hAe hP hK hD hS dX7_held_18
    · have hf := dq_f hf c2
      clear c2
      refine lv_iload_n hx hb dX7_held_13 rfl (lv_at hl 1 rfl) ?_
      refine lv_goto (tgt := 18) hx hb dX7_held_14 (by decide) ?_
      obtain rfl := dq_r1 hf
      exact ct_iret hx hb hr hlocks hAe hP hK hD hS dX7_held_18
  · have hf := dq_f hf c1
    clear c1
    refine lv_iconst (v := 0) hx hb dX7_held_4 (by decide) ?_
    refine lv_goto (tgt := 18) hx hb dX7_held_5 (by decide) ?_
    obtain rfl := dq_r1 hf
    exact ct_iret hx hb hr hlocks hAe hP hK hD hS dX7_held_18
noncomputable def f_X7_heldWarm (n0 : UInt32) : Option UInt32 := dq_if ((Op.cmpValue (FP.fcmp n0 (1120403456 : UInt32)) .l) ≤ 0) (dq_if (0 ≤ (Op.cmpValue (FP.fcmp n0 (3267887104 : UInt32)) .g)) (some n0) (some (3267887104 : UInt32))) (some (1120403456 : UInt32))
def wA_X7_heldWarm : List Cond := .code yX7_heldWarm cX7_heldWarm 1 (some .float) :: wsL_law
-- DraughtsTakeModel.heldWarm(F)F
set_option maxHeartbeats 4000000 in
set_option maxRecDepth 100000 in
theorem m_X7_heldWarm (l : Launch) (D : va_G) (y : Nat → ClassId) (n0 : UInt32) (z0 : UInt32) (hf : f_X7_heldWarm n0 = some z0) : Ct l D y yX7_heldWarm wA_X7_heldWarm 0 0 [.float n0] [] [] (some (.float z0)) := by
  refine ct_head (cc := cX7_heldWarm) (n := 1) (ret := (some .float)) (by decide) rfl (Nat.le_of_ble_eq_true rfl) ?_
  intro p e s m below meth c A ls hx hb hr hml hown hlocks hts hA hAe hP hK hD hl
  have hS : va_S A s.heap s.heap [] := va_S.rf
  have hl : lv_has ls 1 [(0, .float n0)] := hl
  have hown : s.vm.findClass RX7 = some m.cls := hown
  have hts : ∀ w ∈ wsL_law, w.before [.float n0].toArray s = true := fun w h => hts w (List.mem_cons_of_mem _ h)
  unfold f_X7_heldWarm at hf
  refine lv_fload_n hx hb dX7_heldWarm_0 rfl (lv_at hl 0 rfl) ?_
  refine lv_ldcf hx hb hown (hts _ wl_480) dX7_heldWarm_1 ?_
  refine lv_fcmp hx hb dX7_heldWarm_3 ?_
  refine lv_if_le (tgt := 12) hx hb dX7_heldWarm_4 (by decide) (fun c1 => ?_) (fun c1 => ?_)
  · have hf := dq_t hf c1
    clear c1
    refine lv_fload_n hx hb dX7_heldWarm_12 rfl (lv_at hl 0 rfl) ?_
    refine lv_ldcf hx hb hown (hts _ wl_481) dX7_heldWarm_13 ?_
    refine lv_fcmp hx hb dX7_heldWarm_15 ?_
    refine lv_if_ge (tgt := 24) hx hb dX7_heldWarm_16 (by decide) (fun c2 => ?_) (fun c2 => ?_)
    · have hf := dq_t hf c2
      clear c2
      refine lv_fload_n hx hb dX7_heldWarm_24 rfl (lv_at hl 0 rfl) ?_
      obtain rfl := dq_r1 hf
      exact ct_fret hx hb hr hlocks hAe hP hK hD hS dX7_heldWarm_25
    · have hf := dq_f hf c2
      clear c2
      refine lv_ldcf hx hb hown (hts _ wl_481) dX7_heldWarm_19 ?_
      refine lv_goto (tgt := 25) hx hb dX7_heldWarm_21 (by decide) ?_
      obtain rfl := dq_r1 hf
      exact ct_fret hx hb hr hlocks hAe hP hK hD hS dX7_heldWarm_25
  · have hf := dq_f hf c1
    clear c1
    refine lv_ldcf hx hb hown (hts _ wl_480) dX7_heldWarm_7 ?_
    refine lv_goto (tgt := 25) hx hb dX7_heldWarm_9 (by decide) ?_
    obtain rfl := dq_r1 hf
    exact ct_fret hx hb hr hlocks hAe hP hK hD hS dX7_heldWarm_25
noncomputable def f_X7_leapsOf (r_kinds0 : (Nat → Int32)) (r_figures : (Nat → Int32)) (n0 : Int32) : Option Int32 := dq_gd (vp_in n0 5) (dq_let (r_figures n0.toNatClampNeg) (fun (x2 : Int32) => dq_let ((x2 / (3 : Int32)) + (1 : Int32)) (fun (x3 : Int32) => dq_gd (vp_in n0 5) (dq_let (r_kinds0 n0.toNatClampNeg) (fun (x5 : Int32) => dq_if (x5 = 1) (some x3) (dq_if (x5 = 2) (some (1 : Int32)) (dq_if (x5 = 3) (some ((2 : Int32) * x3)) (dq_if (x5 = 4) (some (0 : Int32)) (dq_if (x5 = 5) (some (x2 / (2 : Int32))) (dq_if (x5 = 6) (some (((2 : Int32) * x3) + (1 : Int32))) (dq_if (x5 = 7) (dq_bd (f_X7_held ((x2 / (2 : Int32)) - (1 : Int32)) (9 : Int32)) (fun (x13 : Int32) => some x13)) (some (1 : Int32)))))))))))))
def wA_X7_leapsOf : List Cond := .code yX7_leapsOf cX7_leapsOf 4 (some .int) :: wsL_law
-- DraughtsTakeModel.leapsOf(I)I
set_option maxHeartbeats 4000000 in
set_option maxRecDepth 100000 in
theorem m_X7_leapsOf (l : Launch) (D : va_G) (y : Nat → ClassId) (a : (Nat → Nat)) (r_airs : Int32) (r_sitters : Int32) (r_stepMany : Int32) (r_today : Int32) (r_taken : Int32) (r_isStill : Int32) (r_thrown : Int32) (r_letterMany : Int32) (r_at0 : Int32) (r_isBad : Int32) (r_statements : Int32) (r_stepsMany : Int32) (r_hasImage : Int32) (r_place0 : Int32) (r_isTaking : Int32) (r_keptIn : Value) (r_turned : Int32) (r_rowMany : Int32) (r_seed : Int32) (r_warms : (Nat → UInt32)) (r_shutAt : (Nat → Int32)) (r_kinds0 : (Nat → Int32)) (r_figures : (Nat → Int32)) (r_airAt : (Nat → Int32)) (r_ways : (Nat → Int32)) (r_crowned : (Nat → Int32)) (r_sitsAt : (Nat → Int32)) (r_shawls : (Nat → Int32)) (r_isOn : (Nat → Int32)) (r_stepOf : (Nat → Int32)) (r_stepBy : (Nat → Int32)) (r_refusals : (Nat → Int32)) (r_letters : (Nat → Int32)) (r_placeIn : (Nat → Int32)) (r_letterOf : (Nat → Int32)) (r_numbers : (Nat → Int32)) (r_stepsRead : (Nat → Int32)) (r_stepsBy : (Nat → Int32)) (r_kept : (Nat → Int32)) (r_keptWarms : (Nat → UInt32)) (r_i_imaged : (Nat → Int32)) (r_imagedWarms : (Nat → UInt32)) (r_turns0 : (Nat → Int32)) (r_turnWarms0 : (Nat → UInt32)) (r_turnOf : (Nat → Int32)) (r_turnWarms : (Nat → UInt32)) (r_row0 : (Nat → Int32)) (r_gains : (Nat → Int32)) (r_pegSort : (Nat → Int32)) (r_pegMany : (Nat → Int32)) (r_pegHolds : (Nat → Int32)) (r_coats : (Nat → Int32)) (r_coatsMoved : (Nat → Int32)) (n0 : Int32) (z0 : Int32) (hf : f_X7_leapsOf r_kinds0 r_figures n0 = some z0) : Ct l D y yX7_leapsOf wA_X7_leapsOf 1 21 [.ref (a 0), .int n0] (w_X7 y a r_airs r_sitters r_stepMany r_today r_taken r_isStill r_thrown r_letterMany r_at0 r_isBad r_statements r_stepsMany r_hasImage r_place0 r_isTaking r_keptIn r_turned r_rowMany r_seed r_warms r_shutAt r_kinds0 r_figures r_airAt r_ways r_crowned r_sitsAt r_shawls r_isOn r_stepOf r_stepBy r_refusals r_letters r_placeIn r_letterOf r_numbers r_stepsRead r_stepsBy r_kept r_keptWarms r_i_imaged r_imagedWarms r_turns0 r_turnWarms0 r_turnOf r_turnWarms r_row0 r_gains r_pegSort r_pegMany r_pegHolds r_coats r_coatsMoved) (w_X7 y a r_airs r_sitters r_stepMany r_today r_taken r_isStill r_thrown r_letterMany r_at0 r_isBad r_statements r_stepsMany r_hasImage r_place0 r_isTaking r_keptIn r_turned r_rowMany r_seed r_warms r_shutAt r_kinds0 r_figures r_airAt r_ways r_crowned r_sitsAt r_shawls r_isOn r_stepOf r_stepBy r_refusals r_letters r_placeIn r_letterOf r_numbers r_stepsRead r_stepsBy r_kept r_keptWarms r_i_imaged r_imagedWarms r_turns0 r_turnWarms0 r_turnOf r_turnWarms r_row0 r_gains r_pegSort r_pegMany r_pegHolds r_coats r_coatsMoved) (some (.int z0)) := by
  refine ct_head (cc := cX7_leapsOf) (n := 4) (ret := (some .int)) (by decide) rfl (Nat.le_of_ble_eq_true rfl) ?_
  intro p e s m below meth c A ls hx hb hr hml hown hlocks hts hA hAe hP hK hD hl
  have hS : va_S A s.heap s.heap [] := va_S.rf
  have hl : lv_has ls 4 [(0, .ref (a 0)), (1, .int n0)] := hl
  have hown : s.vm.findClass RX7 = some m.cls := hown
  have hts : ∀ w ∈ wsL_law, w.before [.ref (a 0), .int n0].toArray s = true := fun w h => hts w (List.mem_cons_of_mem _ h)
  unfold f_X7_leapsOf at hf
  refine lv_aload_n hx hb dX7_leapsOf_0 rfl (lv_at hl 0 rfl) ?_
  refine va_get (D := D) (ci := 6) (v := .ref (a 4)) (C := RX7) (T := TX7) (N := 53) hx hb hts iwX7 hown hK hP 0 rfl rfl 4 (by decide) (hts _ wl_84) (fun _ h9 => h9) rfl dX7_leapsOf_1 ?_
  refine lv_iload_n hx hb dX7_leapsOf_4 rfl (lv_at hl 1 rfl) ?_
  obtain ⟨h1, hf⟩ := dq_g hf
  refine va_iald (cA := y 1) (n := 5) (f := r_figures) hx hb hK hP 4 1 rfl rfl h1 dX7_leapsOf_5 ?_
  refine lv_topi (fun x2 ex2 => ?_)
  have hf := dq_l hf x2 ex2
  clear ex2
  refine lv_istore_n (lv' := [(2, .int x2), (0, .ref (a 0)), (1, .int n0)]) hx hb dX7_leapsOf_6 rfl hl (by decide) rfl (fun ls hl => ?_)
  refine lv_iload_n hx hb dX7_leapsOf_7 rfl (lv_at hl 0 rfl) ?_
  refine lv_iconst (v := 3) hx hb dX7_leapsOf_8 (by decide) ?_
  refine lv_idiv hx hb dX7_leapsOf_9 (by decide) ?_
  refine lv_iconst (v := 1) hx hb dX7_leapsOf_10 (by decide) ?_
  refine lv_iadd hx hb dX7_leapsOf_11 ?_
  refine lv_topi (fun x3 ex3 => ?_)
  have hf := dq_l hf x3 ex3
  clear ex3
  refine lv_istore_n (lv' := [(3, .int x3), (2, .int x2), (0, .ref (a 0)), (1, .int n0)]) hx hb dX7_leapsOf_12 rfl hl (by decide) rfl (fun ls hl => ?_)
  refine lv_aload_n hx hb dX7_leapsOf_13 rfl (lv_at hl 2 rfl) ?_
  refine va_get (D := D) (ci := 6) (v := .ref (a 3)) (C := RX7) (T := TX7) (N := 53) hx hb hts iwX7 hown hK hP 0 rfl rfl 3 (by decide) (hts _ wl_83) (fun _ h9 => h9) rfl dX7_leapsOf_14 ?_
  refine lv_iload_n hx hb dX7_leapsOf_17 rfl (lv_at hl 3 rfl) ?_
  obtain ⟨h4, hf⟩ := dq_g hf
  refine va_iald (cA := y 1) (n := 5) (f := r_kinds0) hx hb hK hP 3 1 rfl rfl h4 dX7_leapsOf_18 ?_
  refine lv_topi (fun x5 ex5 => ?_)
  have hf := dq_l hf x5 ex5
  clear ex5
  by_cases c6 : x5 = (1 : Int32)
  · have hf := dq_t hf c6
    refine lv_tableIn (tgt := 60) (off := 41) hx hb dX7_leapsOf_19 (by rw [c6]; decide) (by rw [c6]; decide) (by rw [c6]; decide) (by decide) ?_
    clear c6
    refine lv_iload_n hx hb dX7_leapsOf_60 rfl (lv_at hl 0 rfl) ?_
    obtain rfl := dq_r1 hf
    exact ct_iret hx hb hr hlocks hAe hP hK hD hS dX7_leapsOf_61
  have hf := dq_f hf c6
  by_cases c7 : x5 = (2 : Int32)
  · have hf := dq_t hf c7
    refine lv_tableIn (tgt := 89) (off := 70) hx hb dX7_leapsOf_19 (by rw [c7]; decide) (by rw [c7]; decide) (by rw [c7]; decide) (by decide) ?_
    clear c6 c7
    refine lv_iconst (v := 1) hx hb dX7_leapsOf_89 (by decide) ?_
    obtain rfl := dq_r1 hf
    exact ct_iret hx hb hr hlocks hAe hP hK hD hS dX7_leapsOf_90
  have hf := dq_f hf c7
  by_cases c8 : x5 = (3 : Int32)
  · have hf := dq_t hf c8
    refine lv_tableIn (tgt := 62) (off := 43) hx hb dX7_leapsOf_19 (by rw [c8]; decide) (by rw [c8]; decide) (by rw [c8]; decide) (by decide) ?_
    clear c6 c7 c8
    refine lv_iconst (v := 2) hx hb dX7_leapsOf_62 (by decide) ?_
    refine lv_iload_n hx hb dX7_leapsOf_63 rfl (lv_at hl 0 rfl) ?_
    refine lv_imul hx hb dX7_leapsOf_64 ?_
    obtain rfl := dq_r1 hf
    exact ct_iret hx hb hr hlocks hAe hP hK hD hS dX7_leapsOf_65
  have hf := dq_f hf c8
  by_cases c9 : x5 = (4 : Int32)
  · have hf := dq_t hf c9
    refine lv_tableIn (tgt := 66) (off := 47) hx hb dX7_leapsOf_19 (by rw [c9]; decide) (by rw [c9]; decide) (by rw [c9]; decide) (by decide) ?_
    clear c6 c7 c8 c9
    refine lv_iconst (v := 0) hx hb dX7_leapsOf_66 (by decide) ?_
    obtain rfl := dq_r1 hf
    exact ct_iret hx hb hr hlocks hAe hP hK hD hS dX7_leapsOf_67
  have hf := dq_f hf c9
  by_cases c10 : x5 = (5 : Int32)
  · have hf := dq_t hf c10
    refine lv_tableIn (tgt := 68) (off := 49) hx hb dX7_leapsOf_19 (by rw [c10]; decide) (by rw [c10]; decide) (by rw [c10]; decide) (by decide) ?_
    clear c6 c7 c8 c9 c10
    refine lv_iload_n hx hb dX7_leapsOf_68 rfl (lv_at hl 1 rfl) ?_
    refine lv_iconst (v := 2) hx hb dX7_leapsOf_69 (by decide) ?_
    refine lv_idiv hx hb dX7_leapsOf_70 (by decide) ?_
    obtain rfl := dq_r1 hf
    exact ct_iret hx hb hr hlocks hAe hP hK hD hS dX7_leapsOf_71
  have hf := dq_f hf c10
  by_cases c11 : x5 = (6 : Int32)
  · have hf := dq_t hf c11
    refine lv_tableIn (tgt := 72) (off := 53) hx hb dX7_leapsOf_19 (by rw [c11]; decide) (by rw [c11]; decide) (by rw [c11]; decide) (by decide) ?_
    clear c6 c7 c8 c9 c10 c11
    refine lv_iconst (v := 2) hx hb dX7_leapsOf_72 (by decide) ?_
    refine lv_iload_n hx hb dX7_leapsOf_73 rfl (lv_at hl 0 rfl) ?_
    refine lv_imul hx hb dX7_leapsOf_74 ?_
    refine lv_iconst (v := 1) hx hb dX7_leapsOf_75 (by decide) ?_
    refine lv_iadd hx hb dX7_leapsOf_76 ?_
    obtain rfl := dq_r1 hf
    exact ct_iret hx hb hr hlocks hAe hP hK hD hS dX7_leapsOf_77
  have hf := dq_f hf c11
  by_cases c12 : x5 = (7 : Int32)
  · have hf := dq_t hf c12
    refine lv_tableIn (tgt := 78) (off := 59) hx hb dX7_leapsOf_19 (by rw [c12]; decide) (by rw [c12]; decide) (by rw [c12]; decide) (by decide) ?_
    clear c6 c7 c8 c9 c10 c11 c12
    refine lv_iload_n hx hb dX7_leapsOf_78 rfl (lv_at hl 1 rfl) ?_
    refine lv_iconst (v := 2) hx hb dX7_leapsOf_79 (by decide) ?_
    refine lv_idiv hx hb dX7_leapsOf_80 (by decide) ?_
    refine lv_iconst (v := 1) hx hb dX7_leapsOf_81 (by decide) ?_
    refine lv_isub hx hb dX7_leapsOf_82 ?_
    refine lv_bipush (v := 9) hx hb dX7_leapsOf_83 (by decide) ?_
    obtain ⟨x13, hy14, hf⟩ := dq_b hf
    refine ct_callS0 (own := RX7) (As := [.int ((x2 / (2 : Int32)) - (1 : Int32)), .int (9 : Int32)]) (rest := []) ⟨hx, hb, hml, hown, hts⟩ (m_X7_held l D y ((x2 / (2 : Int32)) - (1 : Int32)) (9 : Int32) x13 hy14) (va_cwS 2 hts (gA_S wl_490 wl_491 wl_5 wl_492) rfl rfl rfl (by decide +kernel) ⟨Nat.le_of_ble_eq_true rfl, Nat.le_of_ble_eq_true rfl⟩) rfl hl.1 rfl (Nat.le_of_ble_eq_true rfl) dX7_leapsOf_85 ⟨Nat.zero_le _, Nat.zero_le _⟩ hK hP hD hS hA (fun H locs hP hD hS => ?_)
    obtain rfl := dq_r1 hf
    exact ct_iret hx hb hr hlocks hAe hP hK hD hS dX7_leapsOf_88
  have hf := dq_f hf c12
  have c6 : x5.toInt ≠ 1 := fun q => c6 (Int32.toInt_inj.mp q)
  have c7 : x5.toInt ≠ 2 := fun q => c7 (Int32.toInt_inj.mp q)
  have c8 : x5.toInt ≠ 3 := fun q => c8 (Int32.toInt_inj.mp q)
  have c9 : x5.toInt ≠ 4 := fun q => c9 (Int32.toInt_inj.mp q)
  have c10 : x5.toInt ≠ 5 := fun q => c10 (Int32.toInt_inj.mp q)
  have c11 : x5.toInt ≠ 6 := fun q => c11 (Int32.toInt_inj.mp q)
  have c12 : x5.toInt ≠ 7 := fun q => c12 (Int32.toInt_inj.mp q)
  refine lv_tableOut (tgt := 89) hx hb dX7_leapsOf_19 (by omega) (by decide) ?_
  clear c6 c7 c8 c9 c10 c11 c12
  refine lv_iconst (v := 1) hx hb dX7_leapsOf_89 (by decide) ?_
  obtain rfl := dq_r1 hf
  exact ct_iret hx hb hr hlocks hAe hP hK hD hS dX7_leapsOf_90
noncomputable def f_X7_gustOf (n0 : UInt32) : Option UInt32 := dq_gd (vf_n32 (FP.fmul n0 (1061158912 : UInt32))) (dq_let (FP.fmul n0 (1061158912 : UInt32)) (fun (x2 : UInt32) => dq_gd (vf_n32 (FP.fsub x2 (1056964608 : UInt32))) (dq_let (FP.fsub x2 (1056964608 : UInt32)) (fun (x4 : UInt32) => some x4))))
def wA_X7_gustOf : List Cond := .code yX7_gustOf cX7_gustOf 2 (some .float) :: wsL_law
-- DraughtsTakeModel.gustOf(F)F
set_option maxHeartbeats 4000000 in
set_option maxRecDepth 100000 in
theorem m_X7_gustOf (l : Launch) (D : va_G) (y : Nat → ClassId) (n0 : UInt32) (z0 : UInt32) (hf : f_X7_gustOf n0 = some z0) : Ct l D y yX7_gustOf wA_X7_gustOf 0 0 [.float n0] [] [] (some (.float z0)) := by
  refine ct_head (cc := cX7_gustOf) (n := 2) (ret := (some .float)) (by decide) rfl (Nat.le_of_ble_eq_true rfl) ?_
  intro p e s m below meth c A ls hx hb hr hml hown hlocks hts hA hAe hP hK hD hl
  have hS : va_S A s.heap s.heap [] := va_S.rf
  have hl : lv_has ls 2 [(0, .float n0)] := hl
  have hown : s.vm.findClass RX7 = some m.cls := hown
  have hts : ∀ w ∈ wsL_law, w.before [.float n0].toArray s = true := fun w h => hts w (List.mem_cons_of_mem _ h)
  unfold f_X7_gustOf at hf
  refine lv_fload_n hx hb dX7_gustOf_0 rfl (lv_at hl 0 rfl) ?_
  refine lv_ldcf hx hb hown (hts _ wl_513) dX7_gustOf_1 ?_
  obtain ⟨h1, hf⟩ := dq_g hf
  refine lv_fmul hx hb dX7_gustOf_3 h1 ?_
  refine lv_topf (fun x2 ex2 => ?_)
  have hf := dq_l hf x2 ex2
  clear ex2
  refine lv_fstore_n (lv' := [(1, .float x2), (0, .float n0)]) hx hb dX7_gustOf_4 rfl hl (by decide) rfl (fun ls hl => ?_)
  refine lv_fload_n hx hb dX7_gustOf_5 rfl (lv_at hl 0 rfl) ?_
  refine lv_ldcf hx hb hown (hts _ wl_512) dX7_gustOf_6 ?_
  obtain ⟨h3, hf⟩ := dq_g hf
  refine lv_fsub hx hb dX7_gustOf_8 h3 ?_
  refine lv_topf (fun x4 ex4 => ?_)
  have hf := dq_l hf x4 ex4
  clear ex4
  obtain rfl := dq_r1 hf
  exact ct_fret hx hb hr hlocks hAe hP hK hD hS dX7_gustOf_9
noncomputable def f_X7_sighOf (n0 : UInt32) (n1 : Int32) : Option UInt32 := dq_gd (vf_n32 (FP.fmul (FP.i2f n1) (1040187392 : UInt32))) (dq_let (FP.fmul (FP.i2f n1) (1040187392 : UInt32)) (fun (x2 : UInt32) => dq_gd (vf_n32 (FP.fsub n0 x2)) (dq_let (FP.fsub n0 x2) (fun (x4 : UInt32) => some x4))))
def wA_X7_sighOf : List Cond := .code yX7_sighOf cX7_sighOf 4 (some .float) :: wsL_law
-- DraughtsTakeModel.sighOf(FI)F
set_option maxHeartbeats 4000000 in
set_option maxRecDepth 100000 in
theorem m_X7_sighOf (l : Launch) (D : va_G) (y : Nat → ClassId) (a : (Nat → Nat)) (r_airs : Int32) (r_sitters : Int32) (r_stepMany : Int32) (r_today : Int32) (r_taken : Int32) (r_isStill : Int32) (r_thrown : Int32) (r_letterMany : Int32) (r_at0 : Int32) (r_isBad : Int32) (r_statements : Int32) (r_stepsMany : Int32) (r_hasImage : Int32) (r_place0 : Int32) (r_isTaking : Int32) (r_keptIn : Value) (r_turned : Int32) (r_rowMany : Int32) (r_seed : Int32) (r_warms : (Nat → UInt32)) (r_shutAt : (Nat → Int32)) (r_kinds0 : (Nat → Int32)) (r_figures : (Nat → Int32)) (r_airAt : (Nat → Int32)) (r_ways : (Nat → Int32)) (r_crowned : (Nat → Int32)) (r_sitsAt : (Nat → Int32)) (r_shawls : (Nat → Int32)) (r_isOn : (Nat → Int32)) (r_stepOf : (Nat → Int32)) (r_stepBy : (Nat → Int32)) (r_refusals : (Nat → Int32)) (r_letters : (Nat → Int32)) (r_placeIn : (Nat → Int32)) (r_letterOf : (Nat → Int32)) (r_numbers : (Nat → Int32)) (r_stepsRead : (Nat → Int32)) (r_stepsBy : (Nat → Int32)) (r_kept : (Nat → Int32)) (r_keptWarms : (Nat → UInt32)) (r_i_imaged : (Nat → Int32)) (r_imagedWarms : (Nat → UInt32)) (r_turns0 : (Nat → Int32)) (r_turnWarms0 : (Nat → UInt32)) (r_turnOf : (Nat → Int32)) (r_turnWarms : (Nat → UInt32)) (r_row0 : (Nat → Int32)) (r_gains : (Nat → Int32)) (r_pegSort : (Nat → Int32)) (r_pegMany : (Nat → Int32)) (r_pegHolds : (Nat → Int32)) (r_coats : (Nat → Int32)) (r_coatsMoved : (Nat → Int32)) (n0 : UInt32) (n1 : Int32) (z0 : UInt32) (hf : f_X7_sighOf n0 n1 = some z0) : Ct l D y yX7_sighOf wA_X7_sighOf 0 0 [.ref (a 0), .float n0, .int n1] (w_X7 y a r_airs r_sitters r_stepMany r_today r_taken r_isStill r_thrown r_letterMany r_at0 r_isBad r_statements r_stepsMany r_hasImage r_place0 r_isTaking r_keptIn r_turned r_rowMany r_seed r_warms r_shutAt r_kinds0 r_figures r_airAt r_ways r_crowned r_sitsAt r_shawls r_isOn r_stepOf r_stepBy r_refusals r_letters r_placeIn r_letterOf r_numbers r_stepsRead r_stepsBy r_kept r_keptWarms r_i_imaged r_imagedWarms r_turns0 r_turnWarms0 r_turnOf r_turnWarms r_row0 r_gains r_pegSort r_pegMany r_pegHolds r_coats r_coatsMoved) (w_X7 y a r_airs r_sitters r_stepMany r_today r_taken r_isStill r_thrown r_letterMany r_at0 r_isBad r_statements r_stepsMany r_hasImage r_place0 r_isTaking r_keptIn r_turned r_rowMany r_seed r_warms r_shutAt r_kinds0 r_figures r_airAt r_ways r_crowned r_sitsAt r_shawls r_isOn r_stepOf r_stepBy r_refusals r_letters r_placeIn r_letterOf r_numbers r_stepsRead r_stepsBy r_kept r_keptWarms r_i_imaged r_imagedWarms r_turns0 r_turnWarms0 r_turnOf r_turnWarms r_row0 r_gains r_pegSort r_pegMany r_pegHolds r_coats r_coatsMoved) (some (.float z0)) := by
  refine ct_head (cc := cX7_sighOf) (n := 4) (ret := (some .float)) (by decide) rfl (Nat.le_of_ble_eq_true rfl) ?_
  intro p e s m below meth c A ls hx hb hr hml hown hlocks hts hA hAe hP hK hD hl
  have hS : va_S A s.heap s.heap [] := va_S.rf
  have hl : lv_has ls 4 [(0, .ref (a 0)), (1, .float n0), (2, .int n1)] := hl
  have hown : s.vm.findClass RX7 = some m.cls := hown
  have hts : ∀ w ∈ wsL_law, w.before [.ref (a 0), .float n0, .int n1].toArray s = true := fun w h => hts w (List.mem_cons_of_mem _ h)
  unfold f_X7_sighOf at hf
  refine lv_iload_n hx hb dX7_sighOf_0 rfl (lv_at hl 2 rfl) ?_
  refine lv_i2f hx hb dX7_sighOf_1 ?_
  refine lv_ldcf hx hb hown (hts _ wl_475) dX7_sighOf_2 ?_
  obtain ⟨h1, hf⟩ := dq_g hf
  refine lv_fmul hx hb dX7_sighOf_4 h1 ?_
  refine lv_topf (fun x2 ex2 => ?_)
  have hf := dq_l hf x2 ex2
  clear ex2
  refine lv_fstore_n (lv' := [(3, .float x2), (0, .ref (a 0)), (1, .float n0), (2, .int n1)]) hx hb dX7_sighOf_5 rfl hl (by decide) rfl (fun ls hl => ?_)
  refine lv_fload_n hx hb dX7_sighOf_6 rfl (lv_at hl 2 rfl) ?_
  refine lv_fload_n hx hb dX7_sighOf_7 rfl (lv_at hl 0 rfl) ?_
  obtain ⟨h3, hf⟩ := dq_g hf
  refine lv_fsub hx hb dX7_sighOf_8 h3 ?_
  refine lv_topf (fun x4 ex4 => ?_)
  have hf := dq_l hf x4 ex4
  clear ex4
  obtain rfl := dq_r1 hf
  exact ct_fret hx hb hr hlocks hAe hP hK hD hS dX7_sighOf_9
noncomputable def f_X7_chilled (r_today : Int32) (n0 : Int32) (n1 : Int32) (n2 : UInt32) : Option UInt32 := dq_bd (f_X7_gustOf n2) (fun (x1 : UInt32) => dq_bd (f_X7_gustOf x1) (fun (x3 : UInt32) => dq_bd (f_X7_sighOf n2 n1) (fun (x5 : UInt32) => dq_gd (vf_n32 (FP.fdiv n2 (FP.i2f (n1 + (1 : Int32))))) (dq_let (FP.fdiv n2 (FP.i2f (n1 + (1 : Int32)))) (fun (x8 : UInt32) => dq_if (n0 = 1) (dq_bd (f_X7_gustOf n2) (fun (x10 : UInt32) => some x10)) (dq_if (n0 = 2) (some x5) (dq_if (n0 = 3) (some x3) (dq_if (n0 = 4) (some (FP.i2f (FP.f2i x5))) (dq_if (n0 = 5) (some x8) (dq_if (n0 = 6) (dq_if ((r_today - r_today / (2 : Int32) * (2 : Int32)) = (1 : Int32)) (dq_gd (vf_n32 (FP.fsub x3 FP.fconst1)) (dq_let (FP.fsub x3 FP.fconst1) (fun (x19 : UInt32) => some x19))) (some x3)) (dq_if (n0 = 7) (dq_gd (vf_n32 (FP.fmul n2 (1056964608 : UInt32))) (dq_let (FP.fmul n2 (1056964608 : UInt32)) (fun (x22 : UInt32) => dq_gd (vf_n32 (FP.fmul x8 (1056964608 : UInt32))) (dq_let (FP.fmul x8 (1056964608 : UInt32)) (fun (x24 : UInt32) => dq_gd (vf_n32 (FP.fadd x22 x24)) (dq_let (FP.fadd x22 x24) (fun (x26 : UInt32) => some x26))))))) (dq_gd (vf_n32 (FP.fmul n2 (1061158912 : UInt32))) (dq_let (FP.fmul n2 (1061158912 : UInt32)) (fun (x28 : UInt32) => some x28))))))))))))))
def wA_X7_chilled : List Cond := .code yX7_chilled cX7_chilled 7 (some .float) :: wsL_law
-- DraughtsTakeModel.chilled(IIF)F
set_option maxHeartbeats 4000000 in
set_option maxRecDepth 100000 in
theorem m_X7_chilled (l : Launch) (D : va_G) (y : Nat → ClassId) (a : (Nat → Nat)) (r_airs : Int32) (r_sitters : Int32) (r_stepMany : Int32) (r_today : Int32) (r_taken : Int32) (r_isStill : Int32) (r_thrown : Int32) (r_letterMany : Int32) (r_at0 : Int32) (r_isBad : Int32) (r_statements : Int32) (r_stepsMany : Int32) (r_hasImage : Int32) (r_place0 : Int32) (r_isTaking : Int32) (r_keptIn : Value) (r_turned : Int32) (r_rowMany : Int32) (r_seed : Int32) (r_warms : (Nat → UInt32)) (r_shutAt : (Nat → Int32)) (r_kinds0 : (Nat → Int32)) (r_figures : (Nat → Int32)) (r_airAt : (Nat → Int32)) (r_ways : (Nat → Int32)) (r_crowned : (Nat → Int32)) (r_sitsAt : (Nat → Int32)) (r_shawls : (Nat → Int32)) (r_isOn : (Nat → Int32)) (r_stepOf : (Nat → Int32)) (r_stepBy : (Nat → Int32)) (r_refusals : (Nat → Int32)) (r_letters : (Nat → Int32)) (r_placeIn : (Nat → Int32)) (r_letterOf : (Nat → Int32)) (r_numbers : (Nat → Int32)) (r_stepsRead : (Nat → Int32)) (r_stepsBy : (Nat → Int32)) (r_kept : (Nat → Int32)) (r_keptWarms : (Nat → UInt32)) (r_i_imaged : (Nat → Int32)) (r_imagedWarms : (Nat → UInt32)) (r_turns0 : (Nat → Int32)) (r_turnWarms0 : (Nat → UInt32)) (r_turnOf : (Nat → Int32)) (r_turnWarms : (Nat → UInt32)) (r_row0 : (Nat → Int32)) (r_gains : (Nat → Int32)) (r_pegSort : (Nat → Int32)) (r_pegMany : (Nat → Int32)) (r_pegHolds : (Nat → Int32)) (r_coats : (Nat → Int32)) (r_coatsMoved : (Nat → Int32)) (n0 : Int32) (n1 : Int32) (n2 : UInt32) (z0 : UInt32) (hf : f_X7_chilled r_today n0 n1 n2 = some z0) : Ct l D y yX7_chilled wA_X7_chilled 1 23 [.ref (a 0), .int n0, .int n1, .float n2] (w_X7 y a r_airs r_sitters r_stepMany r_today r_taken r_isStill r_thrown r_letterMany r_at0 r_isBad r_statements r_stepsMany r_hasImage r_place0 r_isTaking r_keptIn r_turned r_rowMany r_seed r_warms r_shutAt r_kinds0 r_figures r_airAt r_ways r_crowned r_sitsAt r_shawls r_isOn r_stepOf r_stepBy r_refusals r_letters r_placeIn r_letterOf r_numbers r_stepsRead r_stepsBy r_kept r_keptWarms r_i_imaged r_imagedWarms r_turns0 r_turnWarms0 r_turnOf r_turnWarms r_row0 r_gains r_pegSort r_pegMany r_pegHolds r_coats r_coatsMoved) (w_X7 y a r_airs r_sitters r_stepMany r_today r_taken r_isStill r_thrown r_letterMany r_at0 r_isBad r_statements r_stepsMany r_hasImage r_place0 r_isTaking r_keptIn r_turned r_rowMany r_seed r_warms r_shutAt r_kinds0 r_figures r_airAt r_ways r_crowned r_sitsAt r_shawls r_isOn r_stepOf r_stepBy r_refusals r_letters r_placeIn r_letterOf r_numbers r_stepsRead r_stepsBy r_kept r_keptWarms r_i_imaged r_imagedWarms r_turns0 r_turnWarms0 r_turnOf r_turnWarms r_row0 r_gains r_pegSort r_pegMany r_pegHolds r_coats r_coatsMoved) (some (.float z0)) := by
  refine ct_head (cc := cX7_chilled) (n := 7) (ret := (some .float)) (by decide) rfl (Nat.le_of_ble_eq_true rfl) ?_
  intro p e s m below meth c A ls hx hb hr hml hown hlocks hts hA hAe hP hK hD hl
  have hS : va_S A s.heap s.heap [] := va_S.rf
  have hl : lv_has ls 7 [(0, .ref (a 0)), (1, .int n0), (2, .int n1), (3, .float n2)] := hl
  have hown : s.vm.findClass RX7 = some m.cls := hown
  have hts : ∀ w ∈ wsL_law, w.before [.ref (a 0), .int n0, .int n1, .float n2].toArray s = true := fun w h => hts w (List.mem_cons_of_mem _ h)
  unfold f_X7_chilled at hf
  refine lv_fload_n hx hb dX7_chilled_0 rfl (lv_at hl 3 rfl) ?_
  obtain ⟨x1, hy2, hf⟩ := dq_b hf
  refine ct_callS0 (own := RX7) (As := [.float n2]) (rest := []) ⟨hx, hb, hml, hown, hts⟩ (m_X7_gustOf l D y n2 x1 hy2) (va_cwS 1 hts (gA_S wl_514 wl_515 wl_5 wl_516) rfl rfl rfl (by decide +kernel) ⟨Nat.le_of_ble_eq_true rfl, Nat.le_of_ble_eq_true rfl⟩) rfl hl.1 rfl (Nat.le_of_ble_eq_true rfl) dX7_chilled_1 ⟨Nat.zero_le _, Nat.zero_le _⟩ hK hP hD hS hA (fun H locs hP hD hS => ?_)
  obtain ⟨x3, hy4, hf⟩ := dq_b hf
  refine ct_callS0 (own := RX7) (As := [.float x1]) (rest := []) ⟨hx, hb, hml, hown, hts⟩ (m_X7_gustOf l D y x1 x3 hy4) (va_cwS 1 hts (gA_S wl_514 wl_515 wl_5 wl_516) rfl rfl rfl (by decide +kernel) ⟨Nat.le_of_ble_eq_true rfl, Nat.le_of_ble_eq_true rfl⟩) rfl hl.1 rfl (Nat.le_of_ble_eq_true rfl) dX7_chilled_4 ⟨Nat.zero_le _, Nat.zero_le _⟩ hK hP hD hS hA (fun H locs hP hD hS => ?_)
  refine lv_fstore (lv' := [(4, .float x3), (0, .ref (a 0)), (1, .int n0), (2, .int n1), (3, .float n2)]) hx hb dX7_chilled_7 hl (by decide) rfl (fun ls hl => ?_)
  refine lv_aload_n hx hb dX7_chilled_9 rfl (lv_at hl 1 rfl) ?_
  refine lv_fload_n hx hb dX7_chilled_10 rfl (lv_at hl 4 rfl) ?_
  refine lv_iload_n hx hb dX7_chilled_11 rfl (lv_at hl 3 rfl) ?_
  obtain ⟨x5, hy6, hf⟩ := dq_b hf
  refine ct_callV0 (ci := 6) (q0 := 0) (own := RX7) (As := [.float n2, .int n1]) (rest := []) (ws' := (w_X7 y a r_airs r_sitters r_stepMany r_today r_taken r_isStill r_thrown r_letterMany r_at0 r_isBad r_statements r_stepsMany r_hasImage r_place0 r_isTaking r_keptIn r_turned r_rowMany r_seed r_warms r_shutAt r_kinds0 r_figures r_airAt r_ways r_crowned r_sitsAt r_shawls r_isOn r_stepOf r_stepBy r_refusals r_letters r_placeIn r_letterOf r_numbers r_stepsRead r_stepsBy r_kept r_keptWarms r_i_imaged r_imagedWarms r_turns0 r_turnWarms0 r_turnOf r_turnWarms r_row0 r_gains r_pegSort r_pegMany r_pegHolds r_coats r_coatsMoved)) ⟨hx, hb, hml, hown, hts⟩ (m_X7_sighOf l D y a r_airs r_sitters r_stepMany r_today r_taken r_isStill r_thrown r_letterMany r_at0 r_isBad r_statements r_stepsMany r_hasImage r_place0 r_isTaking r_keptIn r_turned r_rowMany r_seed r_warms r_shutAt r_kinds0 r_figures r_airAt r_ways r_crowned r_sitsAt r_shawls r_isOn r_stepOf r_stepBy r_refusals r_letters r_placeIn r_letterOf r_numbers r_stepsRead r_stepsBy r_kept r_keptWarms r_i_imaged r_imagedWarms r_turns0 r_turnWarms0 r_turnOf r_turnWarms r_row0 r_gains r_pegSort r_pegMany r_pegHolds r_coats r_coatsMoved n2 n1 x5 hy6) (cwV 2 hts (gA_V wl_517 wl_518 wl_519 wl_5 wl_520) rfl rfl rfl (by decide +kernel) ⟨Nat.le_of_ble_eq_true rfl, Nat.le_of_ble_eq_true rfl⟩) rfl rfl rfl hl.1 rfl (Nat.le_of_ble_eq_true rfl) dX7_chilled_12 ⟨Nat.zero_le _, Nat.zero_le _⟩ hK hP hD hS hA (fun H locs hP hD hS => ?_)
  refine lv_fstore (lv' := [(5, .float x5), (4, .float x3), (0, .ref (a 0)), (1, .int n0), (2, .int n1), (3, .float n2)]) hx hb dX7_chilled_15 hl (by decide) rfl (fun ls hl => ?_)
  refine lv_fload_n hx hb dX7_chilled_17 rfl (lv_at hl 5 rfl) ?_
  refine lv_iload_n hx hb dX7_chilled_18 rfl (lv_at hl 4 rfl) ?_
  refine lv_iconst (v := 1) hx hb dX7_chilled_19 (by decide) ?_
  refine lv_iadd hx hb dX7_chilled_20 ?_
  refine lv_i2f hx hb dX7_chilled_21 ?_
  obtain ⟨h7, hf⟩ := dq_g hf
  refine lv_fdiv hx hb dX7_chilled_22 h7 ?_
  refine lv_topf (fun x8 ex8 => ?_)
  have hf := dq_l hf x8 ex8
  clear ex8
  refine lv_fstore (lv' := [(6, .float x8), (5, .float x5), (4, .float x3), (0, .ref (a 0)), (1, .int n0), (2, .int n1), (3, .float n2)]) hx hb dX7_chilled_23 hl (by decide) rfl (fun ls hl => ?_)
  refine lv_iload_n hx hb dX7_chilled_25 rfl (lv_at hl 4 rfl) ?_
  by_cases c9 : n0 = (1 : Int32)
  · have hf := dq_t hf c9
    refine lv_tableIn (tgt := 68) (off := 42) hx hb dX7_chilled_26 (by rw [c9]; decide) (by rw [c9]; decide) (by rw [c9]; decide) (by decide) ?_
    clear c9
    refine lv_fload_n hx hb dX7_chilled_68 rfl (lv_at hl 6 rfl) ?_
    obtain ⟨x10, hy11, hf⟩ := dq_b hf
    refine ct_callS0 (own := RX7) (As := [.float n2]) (rest := []) ⟨hx, hb, hml, hown, hts⟩ (m_X7_gustOf l D y n2 x10 hy11) (va_cwS 1 hts (gA_S wl_514 wl_515 wl_5 wl_516) rfl rfl rfl (by decide +kernel) ⟨Nat.le_of_ble_eq_true rfl, Nat.le_of_ble_eq_true rfl⟩) rfl hl.1 rfl (Nat.le_of_ble_eq_true rfl) dX7_chilled_69 ⟨Nat.zero_le _, Nat.zero_le _⟩ hK hP hD hS hA (fun H locs hP hD hS => ?_)
    obtain rfl := dq_r1 hf
    exact ct_fret hx hb hr hlocks hAe hP hK hD hS dX7_chilled_72
  have hf := dq_f hf c9
  by_cases c12 : n0 = (2 : Int32)
  · have hf := dq_t hf c12
    refine lv_tableIn (tgt := 73) (off := 47) hx hb dX7_chilled_26 (by rw [c12]; decide) (by rw [c12]; decide) (by rw [c12]; decide) (by decide) ?_
    clear c9 c12
    refine lv_fload hx hb dX7_chilled_73 (lv_at hl 1 rfl) ?_
    obtain rfl := dq_r1 hf
    exact ct_fret hx hb hr hlocks hAe hP hK hD hS dX7_chilled_75
  have hf := dq_f hf c12
  by_cases c13 : n0 = (3 : Int32)
  · have hf := dq_t hf c13
    refine lv_tableIn (tgt := 76) (off := 50) hx hb dX7_chilled_26 (by rw [c13]; decide) (by rw [c13]; decide) (by rw [c13]; decide) (by decide) ?_
    clear c9 c12 c13
    refine lv_fload hx hb dX7_chilled_76 (lv_at hl 2 rfl) ?_
    obtain rfl := dq_r1 hf
    exact ct_fret hx hb hr hlocks hAe hP hK hD hS dX7_chilled_78
  have hf := dq_f hf c13
  by_cases c14 : n0 = (4 : Int32)
  · have hf := dq_t hf c14
    refine lv_tableIn (tgt := 79) (off := 53) hx hb dX7_chilled_26 (by rw [c14]; decide) (by rw [c14]; decide) (by rw [c14]; decide) (by decide) ?_
    clear c9 c12 c13 c14
    refine lv_fload hx hb dX7_chilled_79 (lv_at hl 1 rfl) ?_
    refine lv_f2i hx hb dX7_chilled_81 ?_
    refine lv_i2f hx hb dX7_chilled_82 ?_
    obtain rfl := dq_r1 hf
    exact ct_fret hx hb hr hlocks hAe hP hK hD hS dX7_chilled_83
  have hf := dq_f hf c14
  by_cases c15 : n0 = (5 : Int32)
  · have hf := dq_t hf c15
    refine lv_tableIn (tgt := 84) (off := 58) hx hb dX7_chilled_26 (by rw [c15]; decide) (by rw [c15]; decide) (by rw [c15]; decide) (by decide) ?_
    clear c9 c12 c13 c14 c15
    refine lv_fload hx hb dX7_chilled_84 (lv_at hl 0 rfl) ?_
    obtain rfl := dq_r1 hf
    exact ct_fret hx hb hr hlocks hAe hP hK hD hS dX7_chilled_86
  have hf := dq_f hf c15
  by_cases c16 : n0 = (6 : Int32)
  · have hf := dq_t hf c16
    refine lv_tableIn (tgt := 87) (off := 61) hx hb dX7_chilled_26 (by rw [c16]; decide) (by rw [c16]; decide) (by rw [c16]; decide) (by decide) ?_
    clear c9 c12 c13 c14 c15 c16
    refine lv_aload_n hx hb dX7_chilled_87 rfl (lv_at hl 3 rfl) ?_
    refine va_get (D := D) (ci := 6) (v := .int r_today) (C := RX7) (T := TX7) (N := 53) hx hb hts iwX7 hown hK hP 0 rfl rfl 15 (by decide) (hts _ wl_408) (fun _ h9 => h9) rfl dX7_chilled_88 ?_
    refine lv_iconst (v := 2) hx hb dX7_chilled_91 (by decide) ?_
    refine lv_irem hx hb dX7_chilled_92 (by decide) ?_
    refine lv_iconst (v := 1) hx hb dX7_chilled_93 (by decide) ?_
    refine lv_icmp_ne (tgt := 104) hx hb dX7_chilled_94 (by decide) (fun c17 => ?_) (fun c17 => ?_)
    · have hf := dq_f hf c17
      clear c17
      refine lv_fload hx hb dX7_chilled_104 (lv_at hl 2 rfl) ?_
      obtain rfl := dq_r1 hf
      exact ct_fret hx hb hr hlocks hAe hP hK hD hS dX7_chilled_106
    · have hf := dq_t hf c17
      clear c17
      refine lv_fload hx hb dX7_chilled_97 (lv_at hl 2 rfl) ?_
      refine lv_fconst1 hx hb dX7_chilled_99 ?_
      obtain ⟨h18, hf⟩ := dq_g hf
      refine lv_fsub hx hb dX7_chilled_100 h18 ?_
      refine lv_topf (fun x19 ex19 => ?_)
      have hf := dq_l hf x19 ex19
      clear ex19
      refine lv_goto (tgt := 106) hx hb dX7_chilled_101 (by decide) ?_
      obtain rfl := dq_r1 hf
      exact ct_fret hx hb hr hlocks hAe hP hK hD hS dX7_chilled_106
  have hf := dq_f hf c16
  by_cases c20 : n0 = (7 : Int32)
  · have hf := dq_t hf c20
    refine lv_tableIn (tgt := 107) (off := 81) hx hb dX7_chilled_26 (by rw [c20]; decide) (by rw [c20]; decide) (by rw [c20]; decide) (by decide) ?_
    clear c9 c12 c13 c14 c15 c16 c20
    refine lv_fload_n hx hb dX7_chilled_107 rfl (lv_at hl 6 rfl) ?_
    refine lv_ldcf hx hb hown (hts _ wl_512) dX7_chilled_108 ?_
    obtain ⟨h21, hf⟩ := dq_g hf
    refine lv_fmul hx hb dX7_chilled_110 h21 ?_
    refine lv_topf (fun x22 ex22 => ?_)
    have hf := dq_l hf x22 ex22
    clear ex22
    refine lv_fload hx hb dX7_chilled_111 (lv_at hl 0 rfl) ?_
    refine lv_ldcf hx hb hown (hts _ wl_512) dX7_chilled_113 ?_
    obtain ⟨h23, hf⟩ := dq_g hf
    refine lv_fmul hx hb dX7_chilled_115 h23 ?_
    refine lv_topf (fun x24 ex24 => ?_)
    have hf := dq_l hf x24 ex24
    clear ex24
    obtain ⟨h25, hf⟩ := dq_g hf
    refine lv_fadd hx hb dX7_chilled_116 h25 ?_
    refine lv_topf (fun x26 ex26 => ?_)
    have hf := dq_l hf x26 ex26
    clear ex26
    obtain rfl := dq_r1 hf
    exact ct_fret hx hb hr hlocks hAe hP hK hD hS dX7_chilled_117
  have hf := dq_f hf c20
  have c9 : n0.toInt ≠ 1 := fun q => c9 (Int32.toInt_inj.mp q)
  have c12 : n0.toInt ≠ 2 := fun q => c12 (Int32.toInt_inj.mp q)
  have c13 : n0.toInt ≠ 3 := fun q => c13 (Int32.toInt_inj.mp q)
  have c14 : n0.toInt ≠ 4 := fun q => c14 (Int32.toInt_inj.mp q)
  have c15 : n0.toInt ≠ 5 := fun q => c15 (Int32.toInt_inj.mp q)
  have c16 : n0.toInt ≠ 6 := fun q => c16 (Int32.toInt_inj.mp q)
  have c20 : n0.toInt ≠ 7 := fun q => c20 (Int32.toInt_inj.mp q)
  refine lv_tableOut (tgt := 118) hx hb dX7_chilled_26 (by omega) (by decide) ?_
  clear c9 c12 c13 c14 c15 c16 c20
  refine lv_fload_n hx hb dX7_chilled_118 rfl (lv_at hl 6 rfl) ?_
  refine lv_ldcf hx hb hown (hts _ wl_513) dX7_chilled_119 ?_
  obtain ⟨h27, hf⟩ := dq_g hf
  refine lv_fmul hx hb dX7_chilled_121 h27 ?_
  refine lv_topf (fun x28 ex28 => ?_)
  have hf := dq_l hf x28 ex28
  clear ex28
  obtain rfl := dq_r1 hf
  exact ct_fret hx hb hr hlocks hAe hP hK hD hS dX7_chilled_122
noncomputable def f_X7_stepped (n0 : Int32) (n1 : UInt32) (n2 : UInt32) : Option UInt32 := dq_if (n0 = 0) (dq_gd (vf_n32 (FP.fsub n1 n2)) (dq_let (FP.fsub n1 n2) (fun (x3 : UInt32) => dq_gd (vf_n32 (FP.fmul x3 (1040187392 : UInt32))) (dq_let (FP.fmul x3 (1040187392 : UInt32)) (fun (x5 : UInt32) => dq_gd (vf_n32 (FP.fadd n2 x5)) (dq_let (FP.fadd n2 x5) (fun (x7 : UInt32) => some x7))))))) (dq_if (n0 = 1) (dq_gd (vf_n32 (FP.fdiv n1 (1098907648 : UInt32))) (dq_let (FP.fdiv n1 (1098907648 : UInt32)) (fun (x10 : UInt32) => dq_gd (vf_n32 (FP.fmul n2 x10)) (dq_let (FP.fmul n2 x10) (fun (x12 : UInt32) => some x12))))) (dq_if (n0 = 2) (dq_gd (vf_n32 (FP.fdiv n1 (1090519040 : UInt32))) (dq_let (FP.fdiv n1 (1090519040 : UInt32)) (fun (x15 : UInt32) => dq_gd (vf_n32 (FP.fadd n2 x15)) (dq_let (FP.fadd n2 x15) (fun (x17 : UInt32) => some x17))))) (dq_if (n0 = 3) (dq_gd (vf_n32 (FP.fdiv n1 (1090519040 : UInt32))) (dq_let (FP.fdiv n1 (1090519040 : UInt32)) (fun (x20 : UInt32) => dq_gd (vf_n32 (FP.fsub n2 x20)) (dq_let (FP.fsub n2 x20) (fun (x22 : UInt32) => some x22))))) (dq_if (n0 = 4) (dq_if (0 ≤ (Op.cmpValue (FP.fcmp n2 n1) .g)) (some n2) (some n1)) (dq_if (n0 = 5) (dq_if ((Op.cmpValue (FP.fcmp n2 n1) .l) ≤ 0) (some n2) (some n1)) (some (FP.i2f (FP.f2i n2))))))))
def wA_X7_stepped : List Cond := .code yX7_stepped cX7_stepped 3 (some .float) :: wsL_law
-- DraughtsTakeModel.stepped(IFF)F
set_option maxHeartbeats 4000000 in
set_option maxRecDepth 100000 in
theorem m_X7_stepped (l : Launch) (D : va_G) (y : Nat → ClassId) (n0 : Int32) (n1 : UInt32) (n2 : UInt32) (z0 : UInt32) (hf : f_X7_stepped n0 n1 n2 = some z0) : Ct l D y yX7_stepped wA_X7_stepped 0 0 [.int n0, .float n1, .float n2] [] [] (some (.float z0)) := by
  refine ct_head (cc := cX7_stepped) (n := 3) (ret := (some .float)) (by decide) rfl (Nat.le_of_ble_eq_true rfl) ?_
  intro p e s m below meth c A ls hx hb hr hml hown hlocks hts hA hAe hP hK hD hl
  have hS : va_S A s.heap s.heap [] := va_S.rf
  have hl : lv_has ls 3 [(0, .int n0), (1, .float n1), (2, .float n2)] := hl
  have hown : s.vm.findClass RX7 = some m.cls := hown
  have hts : ∀ w ∈ wsL_law, w.before [.int n0, .float n1, .float n2].toArray s = true := fun w h => hts w (List.mem_cons_of_mem _ h)
  unfold f_X7_stepped at hf
  refine lv_iload_n hx hb dX7_stepped_0 rfl (lv_at hl 0 rfl) ?_
  by_cases c1 : n0 = (0 : Int32)
  · have hf := dq_t hf c1
    refine lv_tableIn (tgt := 40) (off := 39) hx hb dX7_stepped_1 (by rw [c1]; decide) (by rw [c1]; decide) (by rw [c1]; decide) (by decide) ?_
    clear c1
    refine lv_fload_n hx hb dX7_stepped_40 rfl (lv_at hl 2 rfl) ?_
    refine lv_fload_n hx hb dX7_stepped_41 rfl (lv_at hl 1 rfl) ?_
    refine lv_fload_n hx hb dX7_stepped_42 rfl (lv_at hl 2 rfl) ?_
    obtain ⟨h2, hf⟩ := dq_g hf
    refine lv_fsub hx hb dX7_stepped_43 h2 ?_
    refine lv_topf (fun x3 ex3 => ?_)
    have hf := dq_l hf x3 ex3
    clear ex3
    refine lv_ldcf hx hb hown (hts _ wl_475) dX7_stepped_44 ?_
    obtain ⟨h4, hf⟩ := dq_g hf
    refine lv_fmul hx hb dX7_stepped_46 h4 ?_
    refine lv_topf (fun x5 ex5 => ?_)
    have hf := dq_l hf x5 ex5
    clear ex5
    obtain ⟨h6, hf⟩ := dq_g hf
    refine lv_fadd hx hb dX7_stepped_47 h6 ?_
    refine lv_topf (fun x7 ex7 => ?_)
    have hf := dq_l hf x7 ex7
    clear ex7
    obtain rfl := dq_r1 hf
    exact ct_fret hx hb hr hlocks hAe hP hK hD hS dX7_stepped_48
  have hf := dq_f hf c1
  by_cases c8 : n0 = (1 : Int32)
  · have hf := dq_t hf c8
    refine lv_tableIn (tgt := 49) (off := 48) hx hb dX7_stepped_1 (by rw [c8]; decide) (by rw [c8]; decide) (by rw [c8]; decide) (by decide) ?_
    clear c1 c8
    refine lv_fload_n hx hb dX7_stepped_49 rfl (lv_at hl 2 rfl) ?_
    refine lv_fload_n hx hb dX7_stepped_50 rfl (lv_at hl 1 rfl) ?_
    refine lv_ldcf hx hb hown (hts _ wl_117) dX7_stepped_51 ?_
    obtain ⟨h9, hf⟩ := dq_g hf
    refine lv_fdiv hx hb dX7_stepped_53 h9 ?_
    refine lv_topf (fun x10 ex10 => ?_)
    have hf := dq_l hf x10 ex10
    clear ex10
    obtain ⟨h11, hf⟩ := dq_g hf
    refine lv_fmul hx hb dX7_stepped_54 h11 ?_
    refine lv_topf (fun x12 ex12 => ?_)
    have hf := dq_l hf x12 ex12
    clear ex12
    obtain rfl := dq_r1 hf
    exact ct_fret hx hb hr hlocks hAe hP hK hD hS dX7_stepped_55
  have hf := dq_f hf c8
  by_cases c13 : n0 = (2 : Int32)
  · have hf := dq_t hf c13
    refine lv_tableIn (tgt := 56) (off := 55) hx hb dX7_stepped_1 (by rw [c13]; decide) (by rw [c13]; decide) (by rw [c13]; decide) (by decide) ?_
    clear c1 c8 c13
    refine lv_fload_n hx hb dX7_stepped_56 rfl (lv_at hl 2 rfl) ?_
    refine lv_fload_n hx hb dX7_stepped_57 rfl (lv_at hl 1 rfl) ?_
    refine lv_ldcf hx hb hown (hts _ wl_476) dX7_stepped_58 ?_
    obtain ⟨h14, hf⟩ := dq_g hf
    refine lv_fdiv hx hb dX7_stepped_60 h14 ?_
    refine lv_topf (fun x15 ex15 => ?_)
    have hf := dq_l hf x15 ex15
    clear ex15
    obtain ⟨h16, hf⟩ := dq_g hf
    refine lv_fadd hx hb dX7_stepped_61 h16 ?_
    refine lv_topf (fun x17 ex17 => ?_)
    have hf := dq_l hf x17 ex17
    clear ex17
    obtain rfl := dq_r1 hf
    exact ct_fret hx hb hr hlocks hAe hP hK hD hS dX7_stepped_62
  have hf := dq_f hf c13
  by_cases c18 : n0 = (3 : Int32)
  · have hf := dq_t hf c18
    refine lv_tableIn (tgt := 63) (off := 62) hx hb dX7_stepped_1 (by rw [c18]; decide) (by rw [c18]; decide) (by rw [c18]; decide) (by decide) ?_
    clear c1 c8 c13 c18
    refine lv_fload_n hx hb dX7_stepped_63 rfl (lv_at hl 2 rfl) ?_
    refine lv_fload_n hx hb dX7_stepped_64 rfl (lv_at hl 1 rfl) ?_
    refine lv_ldcf hx hb hown (hts _ wl_476) dX7_stepped_65 ?_
    obtain ⟨h19, hf⟩ := dq_g hf
    refine lv_fdiv hx hb dX7_stepped_67 h19 ?_
    refine lv_topf (fun x20 ex20 => ?_)
    have hf := dq_l hf x20 ex20
    clear ex20
    obtain ⟨h21, hf⟩ := dq_g hf
    refine lv_fsub hx hb dX7_stepped_68 h21 ?_
    refine lv_topf (fun x22 ex22 => ?_)
    have hf := dq_l hf x22 ex22
    clear ex22
    obtain rfl := dq_r1 hf
    exact ct_fret hx hb hr hlocks hAe hP hK hD hS dX7_stepped_69
  have hf := dq_f hf c18
  by_cases c23 : n0 = (4 : Int32)
  · have hf := dq_t hf c23
    refine lv_tableIn (tgt := 70) (off := 69) hx hb dX7_stepped_1 (by rw [c23]; decide) (by rw [c23]; decide) (by rw [c23]; decide) (by decide) ?_
    clear c1 c8 c13 c18 c23
    refine lv_fload_n hx hb dX7_stepped_70 rfl (lv_at hl 2 rfl) ?_
    refine lv_fload_n hx hb dX7_stepped_71 rfl (lv_at hl 1 rfl) ?_
    refine lv_fcmp hx hb dX7_stepped_72 ?_
    refine lv_if_ge (tgt := 80) hx hb dX7_stepped_73 (by decide) (fun c24 => ?_) (fun c24 => ?_)
    · have hf := dq_t hf c24
      clear c24
      refine lv_fload_n hx hb dX7_stepped_80 rfl (lv_at hl 2 rfl) ?_
      obtain rfl := dq_r1 hf
      exact ct_fret hx hb hr hlocks hAe hP hK hD hS dX7_stepped_81
    · have hf := dq_f hf c24
      clear c24
      refine lv_fload_n hx hb dX7_stepped_76 rfl (lv_at hl 1 rfl) ?_
      refine lv_goto (tgt := 81) hx hb dX7_stepped_77 (by decide) ?_
      obtain rfl := dq_r1 hf
      exact ct_fret hx hb hr hlocks hAe hP hK hD hS dX7_stepped_81
  have hf := dq_f hf c23
  by_cases c25 : n0 = (5 : Int32)
  · have hf := dq_t hf c25
    refine lv_tableIn (tgt := 82) (off := 81) hx hb dX7_stepped_1 (by rw [c25]; decide) (by rw [c25]; decide) (by rw [c25]; decide) (by decide) ?_
    clear c1 c8 c13 c18 c23 c25
    refine lv_fload_n hx hb dX7_stepped_82 rfl (lv_at hl 2 rfl) ?_
    refine lv_fload_n hx hb dX7_stepped_83 rfl (lv_at hl 1 rfl) ?_
    refine lv_fcmp hx hb dX7_stepped_84 ?_
    refine lv_if_le (tgt := 92) hx hb dX7_stepped_85 (by decide) (fun c26 => ?_) (fun c26 => ?_)
    · have hf := dq_t hf c26
      clear c26
      refine lv_fload_n hx hb dX7_stepped_92 rfl (lv_at hl 2 rfl) ?_
      obtain rfl := dq_r1 hf
      exact ct_fret hx hb hr hlocks hAe hP hK hD hS dX7_stepped_93
    · have hf := dq_f hf c26
      clear c26
      refine lv_fload_n hx hb dX7_stepped_88 rfl (lv_at hl 1 rfl) ?_
      refine lv_goto (tgt := 93) hx hb dX7_stepped_89 (by decide) ?_
      obtain rfl := dq_r1 hf
      exact ct_fret hx hb hr hlocks hAe hP hK hD hS dX7_stepped_93
  have hf := dq_f hf c25
  have c1 : n0.toInt ≠ 0 := fun q => c1 (Int32.toInt_inj.mp q)
  have c8 : n0.toInt ≠ 1 := fun q => c8 (Int32.toInt_inj.mp q)
  have c13 : n0.toInt ≠ 2 := fun q => c13 (Int32.toInt_inj.mp q)
  have c18 : n0.toInt ≠ 3 := fun q => c18 (Int32.toInt_inj.mp q)
  have c23 : n0.toInt ≠ 4 := fun q => c23 (Int32.toInt_inj.mp q)
  have c25 : n0.toInt ≠ 5 := fun q => c25 (Int32.toInt_inj.mp q)
  refine lv_tableOut (tgt := 94) hx hb dX7_stepped_1 (by omega) (by decide) ?_
  clear c1 c8 c13 c18 c23 c25
  refine lv_fload_n hx hb dX7_stepped_94 rfl (lv_at hl 2 rfl) ?_
  refine lv_f2i hx hb dX7_stepped_95 ?_
  refine lv_i2f hx hb dX7_stepped_96 ?_
  obtain rfl := dq_r1 hf
  exact ct_fret hx hb hr hlocks hAe hP hK hD hS dX7_stepped_97
