noncomputable def f_X7_nearest_b23 (n0 : Int32) (r_sitters : Int32) (r_refusals : (Nat → Int32))   : Option (Int32 × Int32 × (Nat → Int32)) := dq_bd (f_X7_isSitter r_sitters n0) (fun (x3 : Int32) => dq_if (x3 = 0) (dq_bd2 (f_X7_refuse r_refusals (-1 : Int32)) (fun (x6 : Int32) (r_refusals_7 : (Nat → Int32)) => some (x6, (0 : Int32), r_refusals_7))) (dq_bd2 (f_X7_refuse r_refusals (-2 : Int32)) (fun (x9 : Int32) (r_refusals_10 : (Nat → Int32)) => some (x9, (0 : Int32), r_refusals_10))))
noncomputable def f_X7_nearest_b126 (x17 : Int32) (x18 : Int32) (x29 : Int32) (k52 : (Int32 → Int32 → Int32 → Option (Int32 × Int32 × (Nat → Int32)))) (x30 : Int32) : Option (Int32 × Int32 × (Nat → Int32)) := dq_if (x17 < 0) (dq_let (x18 + (1 : Int32)) (fun (x32 : Int32) => k52 x30 x29 x32)) (dq_if (x17 ≤ x29) (dq_let (x18 + (1 : Int32)) (fun (x34 : Int32) => k52 x30 x17 x34)) (dq_let (x18 + (1 : Int32)) (fun (x35 : Int32) => k52 x30 x29 x35)))
noncomputable def f_X7_nearest_b52 (n0 : Int32) (n1 : Int32) (r_airs : Int32) (r_airAt : (Nat → Int32)) (r_sitsAt : (Nat → Int32)) (r_refusals : (Nat → Int32))  : Nat → Int32 → Int32 → Int32 → Option (Int32 × Int32 × (Nat → Int32))
  | 0, _, _, _ => none
  | m52 + 1, x16, x17, x18 => dq_if (r_airs ≤ x18) (dq_if (n1 = 0) (some (x16, (0 : Int32), r_refusals)) (some (x17, (0 : Int32), r_refusals))) (dq_gd (vp_in x18 5) (dq_gd (vp_in n0 6) (dq_bd (f_X7_far ((r_airAt x18.toNatClampNeg) / (6 : Int32)) ((r_sitsAt n0.toNatClampNeg) / (6 : Int32))) (fun (x23 : Int32) => dq_gd (vp_in x18 5) (dq_gd (vp_in n0 6) (dq_bd (f_X7_far ((r_airAt x18.toNatClampNeg) - (r_airAt x18.toNatClampNeg) / (6 : Int32) * (6 : Int32)) ((r_sitsAt n0.toNatClampNeg) - (r_sitsAt n0.toNatClampNeg) / (6 : Int32) * (6 : Int32))) (fun (x27 : Int32) => dq_let (x23 + x27) (fun (x29 : Int32) => dq_if (x17 < 0) (f_X7_nearest_b126 x17 x18 x29 (f_X7_nearest_b52 n0 n1 r_airs r_airAt r_sitsAt r_refusals m52) x18) (dq_if (x17 ≤ x29) (f_X7_nearest_b126 x17 x18 x29 (f_X7_nearest_b52 n0 n1 r_airs r_airAt r_sitsAt r_refusals m52) x16) (f_X7_nearest_b126 x17 x18 x29 (f_X7_nearest_b52 n0 n1 r_airs r_airAt r_sitsAt r_refusals m52) x18))))))))))
noncomputable def f_X7_nearest (r_airs : Int32) (r_sitters : Int32) (r_airAt : (Nat → Int32)) (r_sitsAt : (Nat → Int32)) (r_refusals : (Nat → Int32)) (n0 : Int32) (n1 : Int32) : Option (Int32 × Int32 × (Nat → Int32)) := dq_bd (f_X7_isSitter r_sitters n0) (fun (x1 : Int32) => dq_if (x1 = 0) (f_X7_nearest_b23 n0 r_sitters r_refusals) (dq_bd (f_X7_in n1.toInt64 (0 : Int64) (1 : Int64)) (fun (x13 : Int32) => dq_if (x13 = 0) (f_X7_nearest_b23 n0 r_sitters r_refusals) (f_X7_nearest_b52 n0 n1 r_airs r_airAt r_sitsAt r_refusals 4096 (-9 : Int32) (-9 : Int32) (0 : Int32)))))
def wA_X7_nearest : List Cond := .code yX7_nearest cX7_nearest 7 (some .int) :: wsL_law
-- DraughtsTakeModel.nearest(II)I
set_option maxHeartbeats 4000000 in
set_option maxRecDepth 100000 in
theorem m_X7_nearest (l : Launch) (D : va_G) (y : Nat → ClassId) (a : (Nat → Nat)) (r_airs : Int32) (r_sitters : Int32) (r_stepMany : Int32) (r_today : Int32) (r_taken : Int32) (r_isStill : Int32) (r_thrown : Int32) (r_letterMany : Int32) (r_at0 : Int32) (r_isBad : Int32) (r_statements : Int32) (r_stepsMany : Int32) (r_hasImage : Int32) (r_place0 : Int32) (r_isTaking : Int32) (r_keptIn : Value) (r_turned : Int32) (r_rowMany : Int32) (r_seed : Int32) (r_warms : (Nat → UInt32)) (r_shutAt : (Nat → Int32)) (r_kinds0 : (Nat → Int32)) (r_figures : (Nat → Int32)) (r_airAt : (Nat → Int32)) (r_ways : (Nat → Int32)) (r_crowned : (Nat → Int32)) (r_sitsAt : (Nat → Int32)) (r_shawls : (Nat → Int32)) (r_isOn : (Nat → Int32)) (r_stepOf : (Nat → Int32)) (r_stepBy : (Nat → Int32)) (r_refusals : (Nat → Int32)) (r_letters : (Nat → Int32)) (r_placeIn : (Nat → Int32)) (r_letterOf : (Nat → Int32)) (r_numbers : (Nat → Int32)) (r_stepsRead : (Nat → Int32)) (r_stepsBy : (Nat → Int32)) (r_kept : (Nat → Int32)) (r_keptWarms : (Nat → UInt32)) (r_i_imaged : (Nat → Int32)) (r_imagedWarms : (Nat → UInt32)) (r_turns0 : (Nat → Int32)) (r_turnWarms0 : (Nat → UInt32)) (r_turnOf : (Nat → Int32)) (r_turnWarms : (Nat → UInt32)) (r_row0 : (Nat → Int32)) (r_gains : (Nat → Int32)) (r_pegSort : (Nat → Int32)) (r_pegMany : (Nat → Int32)) (r_pegHolds : (Nat → Int32)) (r_coats : (Nat → Int32)) (r_coatsMoved : (Nat → Int32)) (n0 : Int32) (n1 : Int32) (z0 : Int32) (z1 : Int32) (z2 : (Nat → Int32)) (hf : f_X7_nearest r_airs r_sitters r_airAt r_sitsAt r_refusals n0 n1 = some (z0, z1, z2)) : Ct l D y yX7_nearest wA_X7_nearest 2 46 [.ref (a 0), .int n0, .int n1] (w_X7 y a r_airs r_sitters r_stepMany r_today r_taken r_isStill r_thrown r_letterMany r_at0 r_isBad r_statements r_stepsMany r_hasImage r_place0 r_isTaking r_keptIn r_turned r_rowMany r_seed r_warms r_shutAt r_kinds0 r_figures r_airAt r_ways r_crowned r_sitsAt r_shawls r_isOn r_stepOf r_stepBy r_refusals r_letters r_placeIn r_letterOf r_numbers r_stepsRead r_stepsBy r_kept r_keptWarms r_i_imaged r_imagedWarms r_turns0 r_turnWarms0 r_turnOf r_turnWarms r_row0 r_gains r_pegSort r_pegMany r_pegHolds r_coats r_coatsMoved) (w_X7 y a r_airs r_sitters r_stepMany r_today r_taken r_isStill z1 r_letterMany r_at0 r_isBad r_statements r_stepsMany r_hasImage r_place0 r_isTaking r_keptIn r_turned r_rowMany r_seed r_warms r_shutAt r_kinds0 r_figures r_airAt r_ways r_crowned r_sitsAt r_shawls r_isOn r_stepOf r_stepBy z2 r_letters r_placeIn r_letterOf r_numbers r_stepsRead r_stepsBy r_kept r_keptWarms r_i_imaged r_imagedWarms r_turns0 r_turnWarms0 r_turnOf r_turnWarms r_row0 r_gains r_pegSort r_pegMany r_pegHolds r_coats r_coatsMoved) (some (.int z0)) := by
  refine ct_head (cc := cX7_nearest) (n := 7) (ret := (some .int)) (by decide) rfl (Nat.le_of_ble_eq_true rfl) ?_
  intro p e s m below meth c A ls hx hb hr hml hown hlocks hts hA hAe hP hK hD hl
  have hS : va_S A s.heap s.heap [] := va_S.rf
  have hl : lv_has ls 7 [(0, .ref (a 0)), (1, .int n0), (2, .int n1)] := hl
  have hown : s.vm.findClass RX7 = some m.cls := hown
  have hts : ∀ w ∈ wsL_law, w.before [.ref (a 0), .int n0, .int n1].toArray s = true := fun w h => hts w (List.mem_cons_of_mem _ h)
  unfold f_X7_nearest at hf
  refine lv_aload_n hx hb dX7_nearest_0 rfl (lv_at hl 0 rfl) ?_
  refine lv_iconst (v := 0) hx hb dX7_nearest_1 (by decide) ?_
  refine va_put (D := D) (ci := 6) (v := .int (0 : Int32)) (ty := .int) (C := RX7) (T := TX7) (N := 53) hx hb hts iwX7 tyX7 tyX7_ok nmX7 hown hK hP hD hS 0 rfl rfl 18 (by decide) (hts _ wl_116) (fun _ h9 => h9) rfl (tyX7_ok 18 (by decide)) rfl rfl (Nat.le_of_ble_eq_true rfl) dX7_nearest_2 (fun H locs hP hD hS => ?_)
  have hP : va_P D vwCl (w_X7 y a r_airs r_sitters r_stepMany r_today r_taken r_isStill (0 : Int32) r_letterMany r_at0 r_isBad r_statements r_stepsMany r_hasImage r_place0 r_isTaking r_keptIn r_turned r_rowMany r_seed r_warms r_shutAt r_kinds0 r_figures r_airAt r_ways r_crowned r_sitsAt r_shawls r_isOn r_stepOf r_stepBy r_refusals r_letters r_placeIn r_letterOf r_numbers r_stepsRead r_stepsBy r_kept r_keptWarms r_i_imaged r_imagedWarms r_turns0 r_turnWarms0 r_turnOf r_turnWarms r_row0 r_gains r_pegSort r_pegMany r_pegHolds r_coats r_coatsMoved) H := hP
  have hD : va_D A (w_X7 y a r_airs r_sitters r_stepMany r_today r_taken r_isStill (0 : Int32) r_letterMany r_at0 r_isBad r_statements r_stepsMany r_hasImage r_place0 r_isTaking r_keptIn r_turned r_rowMany r_seed r_warms r_shutAt r_kinds0 r_figures r_airAt r_ways r_crowned r_sitsAt r_shawls r_isOn r_stepOf r_stepBy r_refusals r_letters r_placeIn r_letterOf r_numbers r_stepsRead r_stepsBy r_kept r_keptWarms r_i_imaged r_imagedWarms r_turns0 r_turnWarms0 r_turnOf r_turnWarms r_row0 r_gains r_pegSort r_pegMany r_pegHolds r_coats r_coatsMoved) := hD
  refine lv_aload_n hx hb dX7_nearest_5 rfl (lv_at hl 0 rfl) ?_
  refine lv_iload_n hx hb dX7_nearest_6 rfl (lv_at hl 1 rfl) ?_
  obtain ⟨x1, hy2, hf⟩ := dq_b hf
  refine ct_callV0 (ci := 6) (q0 := 0) (own := RX7) (As := [.int n0]) (rest := []) (ws' := (w_X7 y a r_airs r_sitters r_stepMany r_today r_taken r_isStill (0 : Int32) r_letterMany r_at0 r_isBad r_statements r_stepsMany r_hasImage r_place0 r_isTaking r_keptIn r_turned r_rowMany r_seed r_warms r_shutAt r_kinds0 r_figures r_airAt r_ways r_crowned r_sitsAt r_shawls r_isOn r_stepOf r_stepBy r_refusals r_letters r_placeIn r_letterOf r_numbers r_stepsRead r_stepsBy r_kept r_keptWarms r_i_imaged r_imagedWarms r_turns0 r_turnWarms0 r_turnOf r_turnWarms r_row0 r_gains r_pegSort r_pegMany r_pegHolds r_coats r_coatsMoved)) ⟨hx, hb, hml, hown, hts⟩ (m_X7_isSitter l D y a r_airs r_sitters r_stepMany r_today r_taken r_isStill (0 : Int32) r_letterMany r_at0 r_isBad r_statements r_stepsMany r_hasImage r_place0 r_isTaking r_keptIn r_turned r_rowMany r_seed r_warms r_shutAt r_kinds0 r_figures r_airAt r_ways r_crowned r_sitsAt r_shawls r_isOn r_stepOf r_stepBy r_refusals r_letters r_placeIn r_letterOf r_numbers r_stepsRead r_stepsBy r_kept r_keptWarms r_i_imaged r_imagedWarms r_turns0 r_turnWarms0 r_turnOf r_turnWarms r_row0 r_gains r_pegSort r_pegMany r_pegHolds r_coats r_coatsMoved n0 x1 hy2) (cwV 1 hts (gA_V wl_569 wl_570 wl_571 wl_5 wl_572) rfl rfl rfl (by decide +kernel) ⟨Nat.le_of_ble_eq_true rfl, Nat.le_of_ble_eq_true rfl⟩) rfl rfl rfl hl.1 rfl (Nat.le_of_ble_eq_true rfl) dX7_nearest_7 ⟨Nat.zero_le _, Nat.zero_le _⟩ hK hP hD hS hA (fun H locs hP hD hS => ?_)
  have J23 : f_X7_nearest_b23 n0 r_sitters r_refusals = some (z0, z1, z2) → ∀ (H : Heap) (locs : List Loc), va_P D vwCl (w_X7 y a r_airs r_sitters r_stepMany r_today r_taken r_isStill (0 : Int32) r_letterMany r_at0 r_isBad r_statements r_stepsMany r_hasImage r_place0 r_isTaking r_keptIn r_turned r_rowMany r_seed r_warms r_shutAt r_kinds0 r_figures r_airAt r_ways r_crowned r_sitsAt r_shawls r_isOn r_stepOf r_stepBy r_refusals r_letters r_placeIn r_letterOf r_numbers r_stepsRead r_stepsBy r_kept r_keptWarms r_i_imaged r_imagedWarms r_turns0 r_turnWarms0 r_turnOf r_turnWarms r_row0 r_gains r_pegSort r_pegMany r_pegHolds r_coats r_coatsMoved) H → va_D A (w_X7 y a r_airs r_sitters r_stepMany r_today r_taken r_isStill (0 : Int32) r_letterMany r_at0 r_isBad r_statements r_stepsMany r_hasImage r_place0 r_isTaking r_keptIn r_turned r_rowMany r_seed r_warms r_shutAt r_kinds0 r_figures r_airAt r_ways r_crowned r_sitsAt r_shawls r_isOn r_stepOf r_stepBy r_refusals r_letters r_placeIn r_letterOf r_numbers r_stepsRead r_stepsBy r_kept r_keptWarms r_i_imaged r_imagedWarms r_turns0 r_turnWarms0 r_turnOf r_turnWarms r_row0 r_gains r_pegSort r_pegMany r_pegHolds r_coats r_coatsMoved) → va_S A s.heap H locs → ∀ ls : Array Slot, lv_has ls 7 [(0, .ref (a 0)), (1, .int n0)] → W p l e ({ frames := 2, cells := 0, slots := 0, locals := 46 } : Room) s m [.ref (a 0), .int n0, .int n1].toArray below meth c H locs 0 0 (MQ below (dQ D y (some (.int z0)) s.heap.size (w_X7 y a r_airs r_sitters r_stepMany r_today r_taken r_isStill r_thrown r_letterMany r_at0 r_isBad r_statements r_stepsMany r_hasImage r_place0 r_isTaking r_keptIn r_turned r_rowMany r_seed r_warms r_shutAt r_kinds0 r_figures r_airAt r_ways r_crowned r_sitsAt r_shawls r_isOn r_stepOf r_stepBy r_refusals r_letters r_placeIn r_letterOf r_numbers r_stepsRead r_stepsBy r_kept r_keptWarms r_i_imaged r_imagedWarms r_turns0 r_turnWarms0 r_turnOf r_turnWarms r_row0 r_gains r_pegSort r_pegMany r_pegHolds r_coats r_coatsMoved) (w_X7 y a r_airs r_sitters r_stepMany r_today r_taken r_isStill z1 r_letterMany r_at0 r_isBad r_statements r_stepsMany r_hasImage r_place0 r_isTaking r_keptIn r_turned r_rowMany r_seed r_warms r_shutAt r_kinds0 r_figures r_airAt r_ways r_crowned r_sitsAt r_shawls r_isOn r_stepOf r_stepBy z2 r_letters r_placeIn r_letterOf r_numbers r_stepsRead r_stepsBy r_kept r_keptWarms r_i_imaged r_imagedWarms r_turns0 r_turnWarms0 r_turnOf r_turnWarms r_row0 r_gains r_pegSort r_pegMany r_pegHolds r_coats r_coatsMoved)) [.ref (a 0), .int n0, .int n1].toArray s 0 0 A) (F0 m 23 ls []) := by
    intro  hf H locs hP hD hS ls hl
    unfold f_X7_nearest_b23 at hf
    refine lv_aload_n hx hb dX7_nearest_23 rfl (lv_at hl 0 rfl) ?_
    refine lv_aload_n hx hb dX7_nearest_24 rfl (lv_at hl 0 rfl) ?_
    refine lv_iload_n hx hb dX7_nearest_25 rfl (lv_at hl 1 rfl) ?_
    obtain ⟨x3, hy4, hf⟩ := dq_b hf
    refine ct_callV0 (ci := 6) (q0 := 0) (own := RX7) (As := [.int n0]) (rest := [.ref (a 0)]) (ws' := (w_X7 y a r_airs r_sitters r_stepMany r_today r_taken r_isStill (0 : Int32) r_letterMany r_at0 r_isBad r_statements r_stepsMany r_hasImage r_place0 r_isTaking r_keptIn r_turned r_rowMany r_seed r_warms r_shutAt r_kinds0 r_figures r_airAt r_ways r_crowned r_sitsAt r_shawls r_isOn r_stepOf r_stepBy r_refusals r_letters r_placeIn r_letterOf r_numbers r_stepsRead r_stepsBy r_kept r_keptWarms r_i_imaged r_imagedWarms r_turns0 r_turnWarms0 r_turnOf r_turnWarms r_row0 r_gains r_pegSort r_pegMany r_pegHolds r_coats r_coatsMoved)) ⟨hx, hb, hml, hown, hts⟩ (m_X7_isSitter l D y a r_airs r_sitters r_stepMany r_today r_taken r_isStill (0 : Int32) r_letterMany r_at0 r_isBad r_statements r_stepsMany r_hasImage r_place0 r_isTaking r_keptIn r_turned r_rowMany r_seed r_warms r_shutAt r_kinds0 r_figures r_airAt r_ways r_crowned r_sitsAt r_shawls r_isOn r_stepOf r_stepBy r_refusals r_letters r_placeIn r_letterOf r_numbers r_stepsRead r_stepsBy r_kept r_keptWarms r_i_imaged r_imagedWarms r_turns0 r_turnWarms0 r_turnOf r_turnWarms r_row0 r_gains r_pegSort r_pegMany r_pegHolds r_coats r_coatsMoved n0 x3 hy4) (cwV 1 hts (gA_V wl_569 wl_570 wl_571 wl_5 wl_572) rfl rfl rfl (by decide +kernel) ⟨Nat.le_of_ble_eq_true rfl, Nat.le_of_ble_eq_true rfl⟩) rfl rfl rfl hl.1 rfl (Nat.le_of_ble_eq_true rfl) dX7_nearest_26 ⟨Nat.zero_le _, Nat.zero_le _⟩ hK hP hD hS hA (fun H locs hP hD hS => ?_)
    refine lv_if_eq (tgt := 37) hx hb dX7_nearest_29 (by decide) (fun c5 => ?_) (fun c5 => ?_)
    · have hf := dq_t hf c5
      clear c5
      refine lv_iconst (v := -1) hx hb dX7_nearest_37 (by decide) ?_
      obtain ⟨x6, r_refusals_7, hy8, hf⟩ := dq_b2 hf
      refine ct_callV0 (ci := 6) (q0 := 0) (own := RX7) (As := [.int (-1 : Int32)]) (rest := []) (ws' := (w_X7 y a r_airs r_sitters r_stepMany r_today r_taken r_isStill (0 : Int32) r_letterMany r_at0 r_isBad r_statements r_stepsMany r_hasImage r_place0 r_isTaking r_keptIn r_turned r_rowMany r_seed r_warms r_shutAt r_kinds0 r_figures r_airAt r_ways r_crowned r_sitsAt r_shawls r_isOn r_stepOf r_stepBy r_refusals_7 r_letters r_placeIn r_letterOf r_numbers r_stepsRead r_stepsBy r_kept r_keptWarms r_i_imaged r_imagedWarms r_turns0 r_turnWarms0 r_turnOf r_turnWarms r_row0 r_gains r_pegSort r_pegMany r_pegHolds r_coats r_coatsMoved)) ⟨hx, hb, hml, hown, hts⟩ (m_X7_refuse l D y a r_airs r_sitters r_stepMany r_today r_taken r_isStill (0 : Int32) r_letterMany r_at0 r_isBad r_statements r_stepsMany r_hasImage r_place0 r_isTaking r_keptIn r_turned r_rowMany r_seed r_warms r_shutAt r_kinds0 r_figures r_airAt r_ways r_crowned r_sitsAt r_shawls r_isOn r_stepOf r_stepBy r_refusals r_letters r_placeIn r_letterOf r_numbers r_stepsRead r_stepsBy r_kept r_keptWarms r_i_imaged r_imagedWarms r_turns0 r_turnWarms0 r_turnOf r_turnWarms r_row0 r_gains r_pegSort r_pegMany r_pegHolds r_coats r_coatsMoved (-1 : Int32) x6 r_refusals_7 hy8) (cwV 1 hts (gA_V wl_133 wl_134 wl_135 wl_5 wl_136) rfl rfl rfl (by decide +kernel) ⟨Nat.le_of_ble_eq_true rfl, Nat.le_of_ble_eq_true rfl⟩) rfl rfl rfl hl.1 rfl (Nat.le_of_ble_eq_true rfl) dX7_nearest_38 ⟨Nat.zero_le _, Nat.zero_le _⟩ hK hP hD hS hA (fun H locs hP hD hS => ?_)
      obtain ⟨rfl, rfl, rfl⟩ := dq_r3 hf
      exact ct_iret hx hb hr hlocks hAe hP hK hD hS dX7_nearest_41
    · have hf := dq_f hf c5
      clear c5
      refine lv_bipush (v := -2) hx hb dX7_nearest_32 (by decide) ?_
      refine lv_goto (tgt := 38) hx hb dX7_nearest_34 (by decide) ?_
      obtain ⟨x9, r_refusals_10, hy11, hf⟩ := dq_b2 hf
      refine ct_callV0 (ci := 6) (q0 := 0) (own := RX7) (As := [.int (-2 : Int32)]) (rest := []) (ws' := (w_X7 y a r_airs r_sitters r_stepMany r_today r_taken r_isStill (0 : Int32) r_letterMany r_at0 r_isBad r_statements r_stepsMany r_hasImage r_place0 r_isTaking r_keptIn r_turned r_rowMany r_seed r_warms r_shutAt r_kinds0 r_figures r_airAt r_ways r_crowned r_sitsAt r_shawls r_isOn r_stepOf r_stepBy r_refusals_10 r_letters r_placeIn r_letterOf r_numbers r_stepsRead r_stepsBy r_kept r_keptWarms r_i_imaged r_imagedWarms r_turns0 r_turnWarms0 r_turnOf r_turnWarms r_row0 r_gains r_pegSort r_pegMany r_pegHolds r_coats r_coatsMoved)) ⟨hx, hb, hml, hown, hts⟩ (m_X7_refuse l D y a r_airs r_sitters r_stepMany r_today r_taken r_isStill (0 : Int32) r_letterMany r_at0 r_isBad r_statements r_stepsMany r_hasImage r_place0 r_isTaking r_keptIn r_turned r_rowMany r_seed r_warms r_shutAt r_kinds0 r_figures r_airAt r_ways r_crowned r_sitsAt r_shawls r_isOn r_stepOf r_stepBy r_refusals r_letters r_placeIn r_letterOf r_numbers r_stepsRead r_stepsBy r_kept r_keptWarms r_i_imaged r_imagedWarms r_turns0 r_turnWarms0 r_turnOf r_turnWarms r_row0 r_gains r_pegSort r_pegMany r_pegHolds r_coats r_coatsMoved (-2 : Int32) x9 r_refusals_10 hy11) (cwV 1 hts (gA_V wl_133 wl_134 wl_135 wl_5 wl_136) rfl rfl rfl (by decide +kernel) ⟨Nat.le_of_ble_eq_true rfl, Nat.le_of_ble_eq_true rfl⟩) rfl rfl rfl hl.1 rfl (Nat.le_of_ble_eq_true rfl) dX7_nearest_38 ⟨Nat.zero_le _, Nat.zero_le _⟩ hK hP hD hS hA (fun H locs hP hD hS => ?_)
      obtain ⟨rfl, rfl, rfl⟩ := dq_r3 hf
      exact ct_iret hx hb hr hlocks hAe hP hK hD hS dX7_nearest_41
  refine lv_if_eq (tgt := 23) hx hb dX7_nearest_10 (by decide) (fun c12 => ?_) (fun c12 => ?_)
  · have hf := dq_t hf c12
    clear c12
    exact J23  hf _ _ hP hD hS _ (lv_sub hl [0, 1] rfl)
  · have hf := dq_f hf c12
    clear c12
    refine lv_iload_n hx hb dX7_nearest_13 rfl (lv_at hl 2 rfl) ?_
    refine lv_i2l hx hb dX7_nearest_14 rfl ?_
    refine lv_lconst (v := 0) hx hb dX7_nearest_15 (by decide) ?_
    refine lv_lconst (v := 1) hx hb dX7_nearest_16 (by decide) ?_
    obtain ⟨x13, hy14, hf⟩ := dq_b hf
    refine ct_callS0 (own := RX7) (As := [.long n1.toInt64, .long (0 : Int64), .long (1 : Int64)]) (rest := []) ⟨hx, hb, hml, hown, hts⟩ (m_X7_in l D y n1.toInt64 (0 : Int64) (1 : Int64) x13 hy14) (va_cwS 3 hts (gA_S wl_391 wl_392 wl_5 wl_393) rfl rfl rfl (by decide +kernel) ⟨Nat.le_of_ble_eq_true rfl, Nat.le_of_ble_eq_true rfl⟩) rfl hl.1 rfl (Nat.le_of_ble_eq_true rfl) dX7_nearest_17 ⟨Nat.zero_le _, Nat.zero_le _⟩ hK hP hD hS hA (fun H locs hP hD hS => ?_)
    refine lv_if_ne (tgt := 42) hx hb dX7_nearest_20 (by decide) (fun c15 => ?_) (fun c15 => ?_)
    · have hf := dq_f hf c15
      clear c15
      refine lv_bipush (v := -9) hx hb dX7_nearest_42 (by decide) ?_
      refine lv_istore_n (lv' := [(3, .int (-9 : Int32)), (0, .ref (a 0)), (1, .int n0), (2, .int n1)]) hx hb dX7_nearest_44 rfl hl (by decide) rfl (fun ls hl => ?_)
      refine lv_bipush (v := -9) hx hb dX7_nearest_45 (by decide) ?_
      refine lv_istore (lv' := [(4, .int (-9 : Int32)), (3, .int (-9 : Int32)), (0, .ref (a 0)), (1, .int n0), (2, .int n1)]) hx hb dX7_nearest_47 hl (by decide) rfl (fun ls hl => ?_)
      refine lv_iconst (v := 0) hx hb dX7_nearest_49 (by decide) ?_
      refine lv_istore (lv' := [(5, .int (0 : Int32)), (4, .int (-9 : Int32)), (3, .int (-9 : Int32)), (0, .ref (a 0)), (1, .int n0), (2, .int n1)]) hx hb dX7_nearest_50 hl (by decide) rfl (fun ls hl => ?_)
      have J52 : ∀ (m52 : Nat) (x16 : Int32) (x17 : Int32) (x18 : Int32), f_X7_nearest_b52 n0 n1 r_airs r_airAt r_sitsAt r_refusals m52 x16 x17 x18 = some (z0, z1, z2) → ∀ (H : Heap) (locs : List Loc), va_P D vwCl (w_X7 y a r_airs r_sitters r_stepMany r_today r_taken r_isStill (0 : Int32) r_letterMany r_at0 r_isBad r_statements r_stepsMany r_hasImage r_place0 r_isTaking r_keptIn r_turned r_rowMany r_seed r_warms r_shutAt r_kinds0 r_figures r_airAt r_ways r_crowned r_sitsAt r_shawls r_isOn r_stepOf r_stepBy r_refusals r_letters r_placeIn r_letterOf r_numbers r_stepsRead r_stepsBy r_kept r_keptWarms r_i_imaged r_imagedWarms r_turns0 r_turnWarms0 r_turnOf r_turnWarms r_row0 r_gains r_pegSort r_pegMany r_pegHolds r_coats r_coatsMoved) H → va_D A (w_X7 y a r_airs r_sitters r_stepMany r_today r_taken r_isStill (0 : Int32) r_letterMany r_at0 r_isBad r_statements r_stepsMany r_hasImage r_place0 r_isTaking r_keptIn r_turned r_rowMany r_seed r_warms r_shutAt r_kinds0 r_figures r_airAt r_ways r_crowned r_sitsAt r_shawls r_isOn r_stepOf r_stepBy r_refusals r_letters r_placeIn r_letterOf r_numbers r_stepsRead r_stepsBy r_kept r_keptWarms r_i_imaged r_imagedWarms r_turns0 r_turnWarms0 r_turnOf r_turnWarms r_row0 r_gains r_pegSort r_pegMany r_pegHolds r_coats r_coatsMoved) → va_S A s.heap H locs → ∀ ls : Array Slot, lv_has ls 7 [(0, .ref (a 0)), (1, .int n0), (2, .int n1), (3, .int x16), (4, .int x17), (5, .int x18)] → W p l e ({ frames := 2, cells := 0, slots := 0, locals := 46 } : Room) s m [.ref (a 0), .int n0, .int n1].toArray below meth c H locs 0 0 (MQ below (dQ D y (some (.int z0)) s.heap.size (w_X7 y a r_airs r_sitters r_stepMany r_today r_taken r_isStill r_thrown r_letterMany r_at0 r_isBad r_statements r_stepsMany r_hasImage r_place0 r_isTaking r_keptIn r_turned r_rowMany r_seed r_warms r_shutAt r_kinds0 r_figures r_airAt r_ways r_crowned r_sitsAt r_shawls r_isOn r_stepOf r_stepBy r_refusals r_letters r_placeIn r_letterOf r_numbers r_stepsRead r_stepsBy r_kept r_keptWarms r_i_imaged r_imagedWarms r_turns0 r_turnWarms0 r_turnOf r_turnWarms r_row0 r_gains r_pegSort r_pegMany r_pegHolds r_coats r_coatsMoved) (w_X7 y a r_airs r_sitters r_stepMany r_today r_taken r_isStill z1 r_letterMany r_at0 r_isBad r_statements r_stepsMany r_hasImage r_place0 r_isTaking r_keptIn r_turned r_rowMany r_seed r_warms r_shutAt r_kinds0 r_figures r_airAt r_ways r_crowned r_sitsAt r_shawls r_isOn r_stepOf r_stepBy z2 r_letters r_placeIn r_letterOf r_numbers r_stepsRead r_stepsBy r_kept r_keptWarms r_i_imaged r_imagedWarms r_turns0 r_turnWarms0 r_turnOf r_turnWarms r_row0 r_gains r_pegSort r_pegMany r_pegHolds r_coats r_coatsMoved)) [.ref (a 0), .int n0, .int n1].toArray s 0 0 A) (F0 m 52 ls []) := by
        intro m52
        induction m52 with
        | zero => intro x16 x17 x18 hf; exact absurd hf (by unfold f_X7_nearest_b52; exact fun h => by cases h)
        | succ m52 I52 =>
          intro x16 x17 x18 hf H locs hP hD hS ls hl
          unfold f_X7_nearest_b52 at hf
          refine lv_iload hx hb dX7_nearest_52 (lv_at hl 5 rfl) ?_
          refine lv_aload_n hx hb dX7_nearest_54 rfl (lv_at hl 0 rfl) ?_
          refine va_get (D := D) (ci := 6) (v := .int r_airs) (C := RX7) (T := TX7) (N := 53) hx hb hts iwX7 hown hK hP 0 rfl rfl 2 (by decide) (hts _ wl_405) (fun _ h9 => h9) rfl dX7_nearest_55 ?_
          refine lv_icmp_ge (tgt := 154) hx hb dX7_nearest_58 (by decide) (fun c19 => ?_) (fun c19 => ?_)
          · have hf := dq_t hf c19
            clear c19
            refine lv_iload_n hx hb dX7_nearest_154 rfl (lv_at hl 2 rfl) ?_
            refine lv_if_ne (tgt := 162) hx hb dX7_nearest_155 (by decide) (fun c20 => ?_) (fun c20 => ?_)
            · have hf := dq_f hf c20
              clear c20
              refine lv_iload hx hb dX7_nearest_162 (lv_at hl 4 rfl) ?_
              obtain ⟨rfl, rfl, rfl⟩ := dq_r3 hf
              exact ct_iret hx hb hr hlocks hAe hP hK hD hS dX7_nearest_164
            · have hf := dq_t hf c20
              clear c20
              refine lv_iload_n hx hb dX7_nearest_158 rfl (lv_at hl 3 rfl) ?_
              refine lv_goto (tgt := 164) hx hb dX7_nearest_159 (by decide) ?_
              obtain ⟨rfl, rfl, rfl⟩ := dq_r3 hf
              exact ct_iret hx hb hr hlocks hAe hP hK hD hS dX7_nearest_164
          · have hf := dq_f hf c19
            clear c19
            refine lv_aload_n hx hb dX7_nearest_61 rfl (lv_at hl 0 rfl) ?_
            refine va_get (D := D) (ci := 6) (v := .ref (a 5)) (C := RX7) (T := TX7) (N := 53) hx hb hts iwX7 hown hK hP 0 rfl rfl 5 (by decide) (hts _ wl_85) (fun _ h9 => h9) rfl dX7_nearest_62 ?_
            refine lv_iload hx hb dX7_nearest_65 (lv_at hl 5 rfl) ?_
            obtain ⟨h21, hf⟩ := dq_g hf
            refine va_iald (cA := y 1) (n := 5) (f := r_airAt) hx hb hK hP 5 1 rfl rfl h21 dX7_nearest_67 ?_
            refine lv_bipush (v := 6) hx hb dX7_nearest_68 (by decide) ?_
            refine lv_idiv hx hb dX7_nearest_70 (by decide) ?_
            refine lv_aload_n hx hb dX7_nearest_71 rfl (lv_at hl 0 rfl) ?_
            refine va_get (D := D) (ci := 6) (v := .ref (a 8)) (C := RX7) (T := TX7) (N := 53) hx hb hts iwX7 hown hK hP 0 rfl rfl 9 (by decide) (hts _ wl_88) (fun _ h9 => h9) rfl dX7_nearest_72 ?_
            refine lv_iload_n hx hb dX7_nearest_75 rfl (lv_at hl 1 rfl) ?_
            obtain ⟨h22, hf⟩ := dq_g hf
            refine va_iald (cA := y 1) (n := 6) (f := r_sitsAt) hx hb hK hP 8 1 rfl rfl h22 dX7_nearest_76 ?_
            refine lv_bipush (v := 6) hx hb dX7_nearest_77 (by decide) ?_
            refine lv_idiv hx hb dX7_nearest_79 (by decide) ?_
            obtain ⟨x23, hy24, hf⟩ := dq_b hf
            refine ct_callS0 (own := RX7) (As := [.int ((r_airAt x18.toNatClampNeg) / (6 : Int32)), .int ((r_sitsAt n0.toNatClampNeg) / (6 : Int32))]) (rest := []) ⟨hx, hb, hml, hown, hts⟩ (m_X7_far l D y ((r_airAt x18.toNatClampNeg) / (6 : Int32)) ((r_sitsAt n0.toNatClampNeg) / (6 : Int32)) x23 hy24) (va_cwS 2 hts (gA_S wl_961 wl_962 wl_5 wl_963) rfl rfl rfl (by decide +kernel) ⟨Nat.le_of_ble_eq_true rfl, Nat.le_of_ble_eq_true rfl⟩) rfl hl.1 rfl (Nat.le_of_ble_eq_true rfl) dX7_nearest_80 ⟨Nat.zero_le _, Nat.zero_le _⟩ hK hP hD hS hA (fun H locs hP hD hS => ?_)
            refine lv_aload_n hx hb dX7_nearest_83 rfl (lv_at hl 0 rfl) ?_
            refine va_get (D := D) (ci := 6) (v := .ref (a 5)) (C := RX7) (T := TX7) (N := 53) hx hb hts iwX7 hown hK hP 0 rfl rfl 5 (by decide) (hts _ wl_85) (fun _ h9 => h9) rfl dX7_nearest_84 ?_
            refine lv_iload hx hb dX7_nearest_87 (lv_at hl 5 rfl) ?_
            obtain ⟨h25, hf⟩ := dq_g hf
            refine va_iald (cA := y 1) (n := 5) (f := r_airAt) hx hb hK hP 5 1 rfl rfl h25 dX7_nearest_89 ?_
            refine lv_bipush (v := 6) hx hb dX7_nearest_90 (by decide) ?_
            refine lv_irem hx hb dX7_nearest_92 (by decide) ?_
            refine lv_aload_n hx hb dX7_nearest_93 rfl (lv_at hl 0 rfl) ?_
            refine va_get (D := D) (ci := 6) (v := .ref (a 8)) (C := RX7) (T := TX7) (N := 53) hx hb hts iwX7 hown hK hP 0 rfl rfl 9 (by decide) (hts _ wl_88) (fun _ h9 => h9) rfl dX7_nearest_94 ?_
            refine lv_iload_n hx hb dX7_nearest_97 rfl (lv_at hl 1 rfl) ?_
            obtain ⟨h26, hf⟩ := dq_g hf
            refine va_iald (cA := y 1) (n := 6) (f := r_sitsAt) hx hb hK hP 8 1 rfl rfl h26 dX7_nearest_98 ?_
            refine lv_bipush (v := 6) hx hb dX7_nearest_99 (by decide) ?_
            refine lv_irem hx hb dX7_nearest_101 (by decide) ?_
            obtain ⟨x27, hy28, hf⟩ := dq_b hf
            refine ct_callS0 (own := RX7) (As := [.int ((r_airAt x18.toNatClampNeg) - (r_airAt x18.toNatClampNeg) / (6 : Int32) * (6 : Int32)), .int ((r_sitsAt n0.toNatClampNeg) - (r_sitsAt n0.toNatClampNeg) / (6 : Int32) * (6 : Int32))]) (rest := [.int x23]) ⟨hx, hb, hml, hown, hts⟩ (m_X7_far l D y ((r_airAt x18.toNatClampNeg) - (r_airAt x18.toNatClampNeg) / (6 : Int32) * (6 : Int32)) ((r_sitsAt n0.toNatClampNeg) - (r_sitsAt n0.toNatClampNeg) / (6 : Int32) * (6 : Int32)) x27 hy28) (va_cwS 2 hts (gA_S wl_961 wl_962 wl_5 wl_963) rfl rfl rfl (by decide +kernel) ⟨Nat.le_of_ble_eq_true rfl, Nat.le_of_ble_eq_true rfl⟩) rfl hl.1 rfl (Nat.le_of_ble_eq_true rfl) dX7_nearest_102 ⟨Nat.zero_le _, Nat.zero_le _⟩ hK hP hD hS hA (fun H locs hP hD hS => ?_)
            refine lv_iadd hx hb dX7_nearest_105 ?_
            refine lv_topi (fun x29 ex29 => ?_)
            have hf := dq_l hf x29 ex29
            clear ex29
            refine lv_istore (lv' := [(6, .int x29), (0, .ref (a 0)), (1, .int n0), (2, .int n1), (3, .int x16), (4, .int x17), (5, .int x18)]) hx hb dX7_nearest_106 hl (by decide) rfl (fun ls hl => ?_)
            refine lv_iload hx hb dX7_nearest_108 (lv_at hl 5 rfl) ?_
            have J126 : ∀ (x30 : Int32), f_X7_nearest_b126 x17 x18 x29 (f_X7_nearest_b52 n0 n1 r_airs r_airAt r_sitsAt r_refusals m52) x30 = some (z0, z1, z2) → ∀ (H : Heap) (locs : List Loc), va_P D vwCl (w_X7 y a r_airs r_sitters r_stepMany r_today r_taken r_isStill (0 : Int32) r_letterMany r_at0 r_isBad r_statements r_stepsMany r_hasImage r_place0 r_isTaking r_keptIn r_turned r_rowMany r_seed r_warms r_shutAt r_kinds0 r_figures r_airAt r_ways r_crowned r_sitsAt r_shawls r_isOn r_stepOf r_stepBy r_refusals r_letters r_placeIn r_letterOf r_numbers r_stepsRead r_stepsBy r_kept r_keptWarms r_i_imaged r_imagedWarms r_turns0 r_turnWarms0 r_turnOf r_turnWarms r_row0 r_gains r_pegSort r_pegMany r_pegHolds r_coats r_coatsMoved) H → va_D A (w_X7 y a r_airs r_sitters r_stepMany r_today r_taken r_isStill (0 : Int32) r_letterMany r_at0 r_isBad r_statements r_stepsMany r_hasImage r_place0 r_isTaking r_keptIn r_turned r_rowMany r_seed r_warms r_shutAt r_kinds0 r_figures r_airAt r_ways r_crowned r_sitsAt r_shawls r_isOn r_stepOf r_stepBy r_refusals r_letters r_placeIn r_letterOf r_numbers r_stepsRead r_stepsBy r_kept r_keptWarms r_i_imaged r_imagedWarms r_turns0 r_turnWarms0 r_turnOf r_turnWarms r_row0 r_gains r_pegSort r_pegMany r_pegHolds r_coats r_coatsMoved) → va_S A s.heap H locs → ∀ ls : Array Slot, lv_has ls 7 [(0, .ref (a 0)), (1, .int n0), (2, .int n1), (4, .int x17), (5, .int x18), (6, .int x29)] → W p l e ({ frames := 2, cells := 0, slots := 0, locals := 46 } : Room) s m [.ref (a 0), .int n0, .int n1].toArray below meth c H locs 0 0 (MQ below (dQ D y (some (.int z0)) s.heap.size (w_X7 y a r_airs r_sitters r_stepMany r_today r_taken r_isStill r_thrown r_letterMany r_at0 r_isBad r_statements r_stepsMany r_hasImage r_place0 r_isTaking r_keptIn r_turned r_rowMany r_seed r_warms r_shutAt r_kinds0 r_figures r_airAt r_ways r_crowned r_sitsAt r_shawls r_isOn r_stepOf r_stepBy r_refusals r_letters r_placeIn r_letterOf r_numbers r_stepsRead r_stepsBy r_kept r_keptWarms r_i_imaged r_imagedWarms r_turns0 r_turnWarms0 r_turnOf r_turnWarms r_row0 r_gains r_pegSort r_pegMany r_pegHolds r_coats r_coatsMoved) (w_X7 y a r_airs r_sitters r_stepMany r_today r_taken r_isStill z1 r_letterMany r_at0 r_isBad r_statements r_stepsMany r_hasImage r_place0 r_isTaking r_keptIn r_turned r_rowMany r_seed r_warms r_shutAt r_kinds0 r_figures r_airAt r_ways r_crowned r_sitsAt r_shawls r_isOn r_stepOf r_stepBy z2 r_letters r_placeIn r_letterOf r_numbers r_stepsRead r_stepsBy r_kept r_keptWarms r_i_imaged r_imagedWarms r_turns0 r_turnWarms0 r_turnOf r_turnWarms r_row0 r_gains r_pegSort r_pegMany r_pegHolds r_coats r_coatsMoved)) [.ref (a 0), .int n0, .int n1].toArray s 0 0 A) (F0 m 126 ls [.int x30]) := by
              intro x30 hf H locs hP hD hS ls hl
              unfold f_X7_nearest_b126 at hf
              refine lv_istore_n (lv' := [(3, .int x30), (0, .ref (a 0)), (1, .int n0), (2, .int n1), (4, .int x17), (5, .int x18), (6, .int x29)]) hx hb dX7_nearest_126 rfl hl (by decide) rfl (fun ls hl => ?_)
              refine lv_iload hx hb dX7_nearest_127 (lv_at hl 4 rfl) ?_
              refine lv_if_lt (tgt := 139) hx hb dX7_nearest_129 (by decide) (fun c31 => ?_) (fun c31 => ?_)
              · have hf := dq_t hf c31
                clear c31
                refine lv_iload hx hb dX7_nearest_139 (lv_at hl 6 rfl) ?_
                refine lv_goto (tgt := 146) hx hb dX7_nearest_141 (by decide) ?_
                refine lv_istore (lv' := [(4, .int x29), (3, .int x30), (0, .ref (a 0)), (1, .int n0), (2, .int n1), (5, .int x18), (6, .int x29)]) hx hb dX7_nearest_146 hl (by decide) rfl (fun ls hl => ?_)
                obtain ⟨x32, ex32⟩ : ∃ z : Int32, z = (x18 + (1 : Int32)) := ⟨_, rfl⟩
                have hf := dq_l hf x32 ex32
                refine lv_iinc (v := x32) (lv' := [(5, .int x32), (4, .int x29), (3, .int x30), (0, .ref (a 0)), (1, .int n0), (2, .int n1), (6, .int x29)]) hx hb dX7_nearest_148 hl (k := 5) rfl (by rw [ex32]; rfl) (by decide) rfl (fun ls hl => ?_)
                clear ex32
                refine lv_goto (tgt := 52) hx hb dX7_nearest_151 (by decide) ?_
                exact I52 _ _ _ hf _ _ hP hD hS _ (lv_sub hl [3, 4, 5, 2, 1, 0] rfl)
              · have hf := dq_f hf c31
                clear c31
                refine lv_iload hx hb dX7_nearest_132 (lv_at hl 6 rfl) ?_
                refine lv_iload hx hb dX7_nearest_134 (lv_at hl 4 rfl) ?_
                refine lv_icmp_ge (tgt := 144) hx hb dX7_nearest_136 (by decide) (fun c33 => ?_) (fun c33 => ?_)
                · have hf := dq_t hf c33
                  clear c33
                  refine lv_iload hx hb dX7_nearest_144 (lv_at hl 4 rfl) ?_
                  refine lv_istore (lv' := [(4, .int x17), (3, .int x30), (0, .ref (a 0)), (1, .int n0), (2, .int n1), (5, .int x18), (6, .int x29)]) hx hb dX7_nearest_146 hl (by decide) rfl (fun ls hl => ?_)
                  obtain ⟨x34, ex34⟩ : ∃ z : Int32, z = (x18 + (1 : Int32)) := ⟨_, rfl⟩
                  have hf := dq_l hf x34 ex34
                  refine lv_iinc (v := x34) (lv' := [(5, .int x34), (4, .int x17), (3, .int x30), (0, .ref (a 0)), (1, .int n0), (2, .int n1), (6, .int x29)]) hx hb dX7_nearest_148 hl (k := 5) rfl (by rw [ex34]; rfl) (by decide) rfl (fun ls hl => ?_)
                  clear ex34
                  refine lv_goto (tgt := 52) hx hb dX7_nearest_151 (by decide) ?_
                  exact I52 _ _ _ hf _ _ hP hD hS _ (lv_sub hl [3, 4, 5, 2, 1, 0] rfl)
                · have hf := dq_f hf c33
                  clear c33
                  refine lv_iload hx hb dX7_nearest_139 (lv_at hl 6 rfl) ?_
                  refine lv_goto (tgt := 146) hx hb dX7_nearest_141 (by decide) ?_
                  refine lv_istore (lv' := [(4, .int x29), (3, .int x30), (0, .ref (a 0)), (1, .int n0), (2, .int n1), (5, .int x18), (6, .int x29)]) hx hb dX7_nearest_146 hl (by decide) rfl (fun ls hl => ?_)
                  obtain ⟨x35, ex35⟩ : ∃ z : Int32, z = (x18 + (1 : Int32)) := ⟨_, rfl⟩
                  have hf := dq_l hf x35 ex35
                  refine lv_iinc (v := x35) (lv' := [(5, .int x35), (4, .int x29), (3, .int x30), (0, .ref (a 0)), (1, .int n0), (2, .int n1), (6, .int x29)]) hx hb dX7_nearest_148 hl (k := 5) rfl (by rw [ex35]; rfl) (by decide) rfl (fun ls hl => ?_)
                  clear ex35
                  refine lv_goto (tgt := 52) hx hb dX7_nearest_151 (by decide) ?_
                  exact I52 _ _ _ hf _ _ hP hD hS _ (lv_sub hl [3, 4, 5, 2, 1, 0] rfl)
            refine lv_if_lt (tgt := 120) hx hb dX7_nearest_110 (by decide) (fun c36 => ?_) (fun c36 => ?_)
            · have hf := dq_t hf c36
              clear c36
              refine lv_iload hx hb dX7_nearest_120 (lv_at hl 6 rfl) ?_
              refine lv_goto (tgt := 126) hx hb dX7_nearest_122 (by decide) ?_
              exact J126 _ hf _ _ hP hD hS _ (lv_sub hl [1, 2, 3, 5, 6, 0] rfl)
            · have hf := dq_f hf c36
              clear c36
              refine lv_iload hx hb dX7_nearest_113 (lv_at hl 0 rfl) ?_
              refine lv_iload hx hb dX7_nearest_115 (lv_at hl 5 rfl) ?_
              refine lv_icmp_ge (tgt := 125) hx hb dX7_nearest_117 (by decide) (fun c37 => ?_) (fun c37 => ?_)
              · have hf := dq_t hf c37
                clear c37
                refine lv_iload_n hx hb dX7_nearest_125 rfl (lv_at hl 4 rfl) ?_
                exact J126 _ hf _ _ hP hD hS _ (lv_sub hl [1, 2, 3, 5, 6, 0] rfl)
              · have hf := dq_f hf c37
                clear c37
                refine lv_iload hx hb dX7_nearest_120 (lv_at hl 6 rfl) ?_
                refine lv_goto (tgt := 126) hx hb dX7_nearest_122 (by decide) ?_
                exact J126 _ hf _ _ hP hD hS _ (lv_sub hl [1, 2, 3, 5, 6, 0] rfl)
      exact J52 4096 _ _ _ hf _ _ hP hD hS _ (lv_sub hl [3, 4, 5, 2, 1, 0] rfl)
    · have hf := dq_t hf c15
      clear c15
      exact J23  hf _ _ hP hD hS _ (lv_sub hl [0, 1] rfl)
noncomputable def f_X7_kinds_b28 (n0 : Int32) (r_airs : Int32) (r_kinds0 : (Nat → Int32)) (r_refusals : (Nat → Int32))  : Nat → Int32 → Int32 → Option (Int32 × Int32 × (Nat → Int32))
  | 0, _, _ => none
  | m28 + 1, x4, x5 => dq_if (r_airs ≤ x5) (some (x4, (0 : Int32), r_refusals)) (dq_gd (vp_in x5 5) (dq_if ((r_kinds0 x5.toNatClampNeg) = n0) (dq_let (x4 + (1 : Int32)) (fun (x11 : Int32) => dq_let (x5 + (1 : Int32)) (fun (x12 : Int32) => (f_X7_kinds_b28 n0 r_airs r_kinds0 r_refusals m28) x11 x12))) (dq_let (x4 + (0 : Int32)) (fun (x9 : Int32) => dq_let (x5 + (1 : Int32)) (fun (x10 : Int32) => (f_X7_kinds_b28 n0 r_airs r_kinds0 r_refusals m28) x9 x10)))))
noncomputable def f_X7_kinds (r_airs : Int32) (r_kinds0 : (Nat → Int32)) (r_refusals : (Nat → Int32)) (n0 : Int32) : Option (Int32 × Int32 × (Nat → Int32)) := dq_bd (f_X7_in n0.toInt64 (0 : Int64) (7 : Int64)) (fun (x1 : Int32) => dq_if (x1 = 0) (dq_bd2 (f_X7_refuse r_refusals (-2 : Int32)) (fun (x13 : Int32) (r_refusals_14 : (Nat → Int32)) => some (x13, (0 : Int32), r_refusals_14))) (f_X7_kinds_b28 n0 r_airs r_kinds0 r_refusals 4096 (0 : Int32) (0 : Int32)))
def wA_X7_kinds : List Cond := .code yX7_kinds cX7_kinds 4 (some .int) :: wsL_law
-- DraughtsTakeModel.kinds(I)I
set_option maxHeartbeats 4000000 in
set_option maxRecDepth 100000 in
theorem m_X7_kinds (l : Launch) (D : va_G) (y : Nat → ClassId) (a : (Nat → Nat)) (r_airs : Int32) (r_sitters : Int32) (r_stepMany : Int32) (r_today : Int32) (r_taken : Int32) (r_isStill : Int32) (r_thrown : Int32) (r_letterMany : Int32) (r_at0 : Int32) (r_isBad : Int32) (r_statements : Int32) (r_stepsMany : Int32) (r_hasImage : Int32) (r_place0 : Int32) (r_isTaking : Int32) (r_keptIn : Value) (r_turned : Int32) (r_rowMany : Int32) (r_seed : Int32) (r_warms : (Nat → UInt32)) (r_shutAt : (Nat → Int32)) (r_kinds0 : (Nat → Int32)) (r_figures : (Nat → Int32)) (r_airAt : (Nat → Int32)) (r_ways : (Nat → Int32)) (r_crowned : (Nat → Int32)) (r_sitsAt : (Nat → Int32)) (r_shawls : (Nat → Int32)) (r_isOn : (Nat → Int32)) (r_stepOf : (Nat → Int32)) (r_stepBy : (Nat → Int32)) (r_refusals : (Nat → Int32)) (r_letters : (Nat → Int32)) (r_placeIn : (Nat → Int32)) (r_letterOf : (Nat → Int32)) (r_numbers : (Nat → Int32)) (r_stepsRead : (Nat → Int32)) (r_stepsBy : (Nat → Int32)) (r_kept : (Nat → Int32)) (r_keptWarms : (Nat → UInt32)) (r_i_imaged : (Nat → Int32)) (r_imagedWarms : (Nat → UInt32)) (r_turns0 : (Nat → Int32)) (r_turnWarms0 : (Nat → UInt32)) (r_turnOf : (Nat → Int32)) (r_turnWarms : (Nat → UInt32)) (r_row0 : (Nat → Int32)) (r_gains : (Nat → Int32)) (r_pegSort : (Nat → Int32)) (r_pegMany : (Nat → Int32)) (r_pegHolds : (Nat → Int32)) (r_coats : (Nat → Int32)) (r_coatsMoved : (Nat → Int32)) (n0 : Int32) (z0 : Int32) (z1 : Int32) (z2 : (Nat → Int32)) (hf : f_X7_kinds r_airs r_kinds0 r_refusals n0 = some (z0, z1, z2)) : Ct l D y yX7_kinds wA_X7_kinds 1 25 [.ref (a 0), .int n0] (w_X7 y a r_airs r_sitters r_stepMany r_today r_taken r_isStill r_thrown r_letterMany r_at0 r_isBad r_statements r_stepsMany r_hasImage r_place0 r_isTaking r_keptIn r_turned r_rowMany r_seed r_warms r_shutAt r_kinds0 r_figures r_airAt r_ways r_crowned r_sitsAt r_shawls r_isOn r_stepOf r_stepBy r_refusals r_letters r_placeIn r_letterOf r_numbers r_stepsRead r_stepsBy r_kept r_keptWarms r_i_imaged r_imagedWarms r_turns0 r_turnWarms0 r_turnOf r_turnWarms r_row0 r_gains r_pegSort r_pegMany r_pegHolds r_coats r_coatsMoved) (w_X7 y a r_airs r_sitters r_stepMany r_today r_taken r_isStill z1 r_letterMany r_at0 r_isBad r_statements r_stepsMany r_hasImage r_place0 r_isTaking r_keptIn r_turned r_rowMany r_seed r_warms r_shutAt r_kinds0 r_figures r_airAt r_ways r_crowned r_sitsAt r_shawls r_isOn r_stepOf r_stepBy z2 r_letters r_placeIn r_letterOf r_numbers r_stepsRead r_stepsBy r_kept r_keptWarms r_i_imaged r_imagedWarms r_turns0 r_turnWarms0 r_turnOf r_turnWarms r_row0 r_gains r_pegSort r_pegMany r_pegHolds r_coats r_coatsMoved) (some (.int z0)) := by
  refine ct_head (cc := cX7_kinds) (n := 4) (ret := (some .int)) (by decide) rfl (Nat.le_of_ble_eq_true rfl) ?_
  intro p e s m below meth c A ls hx hb hr hml hown hlocks hts hA hAe hP hK hD hl
  have hS : va_S A s.heap s.heap [] := va_S.rf
  have hl : lv_has ls 4 [(0, .ref (a 0)), (1, .int n0)] := hl
  have hown : s.vm.findClass RX7 = some m.cls := hown
  have hts : ∀ w ∈ wsL_law, w.before [.ref (a 0), .int n0].toArray s = true := fun w h => hts w (List.mem_cons_of_mem _ h)
  unfold f_X7_kinds at hf
  refine lv_aload_n hx hb dX7_kinds_0 rfl (lv_at hl 0 rfl) ?_
  refine lv_iconst (v := 0) hx hb dX7_kinds_1 (by decide) ?_
  refine va_put (D := D) (ci := 6) (v := .int (0 : Int32)) (ty := .int) (C := RX7) (T := TX7) (N := 53) hx hb hts iwX7 tyX7 tyX7_ok nmX7 hown hK hP hD hS 0 rfl rfl 18 (by decide) (hts _ wl_116) (fun _ h9 => h9) rfl (tyX7_ok 18 (by decide)) rfl rfl (Nat.le_of_ble_eq_true rfl) dX7_kinds_2 (fun H locs hP hD hS => ?_)
  have hP : va_P D vwCl (w_X7 y a r_airs r_sitters r_stepMany r_today r_taken r_isStill (0 : Int32) r_letterMany r_at0 r_isBad r_statements r_stepsMany r_hasImage r_place0 r_isTaking r_keptIn r_turned r_rowMany r_seed r_warms r_shutAt r_kinds0 r_figures r_airAt r_ways r_crowned r_sitsAt r_shawls r_isOn r_stepOf r_stepBy r_refusals r_letters r_placeIn r_letterOf r_numbers r_stepsRead r_stepsBy r_kept r_keptWarms r_i_imaged r_imagedWarms r_turns0 r_turnWarms0 r_turnOf r_turnWarms r_row0 r_gains r_pegSort r_pegMany r_pegHolds r_coats r_coatsMoved) H := hP
  have hD : va_D A (w_X7 y a r_airs r_sitters r_stepMany r_today r_taken r_isStill (0 : Int32) r_letterMany r_at0 r_isBad r_statements r_stepsMany r_hasImage r_place0 r_isTaking r_keptIn r_turned r_rowMany r_seed r_warms r_shutAt r_kinds0 r_figures r_airAt r_ways r_crowned r_sitsAt r_shawls r_isOn r_stepOf r_stepBy r_refusals r_letters r_placeIn r_letterOf r_numbers r_stepsRead r_stepsBy r_kept r_keptWarms r_i_imaged r_imagedWarms r_turns0 r_turnWarms0 r_turnOf r_turnWarms r_row0 r_gains r_pegSort r_pegMany r_pegHolds r_coats r_coatsMoved) := hD
  refine lv_iload_n hx hb dX7_kinds_5 rfl (lv_at hl 1 rfl) ?_
  refine lv_i2l hx hb dX7_kinds_6 rfl ?_
  refine lv_lconst (v := 0) hx hb dX7_kinds_7 (by decide) ?_
  refine lv_ldc2 hx hb hown (hts _ wl_625) dX7_kinds_8 ?_
  obtain ⟨x1, hy2, hf⟩ := dq_b hf
  refine ct_callS0 (own := RX7) (As := [.long n0.toInt64, .long (0 : Int64), .long (7 : Int64)]) (rest := []) ⟨hx, hb, hml, hown, hts⟩ (m_X7_in l D y n0.toInt64 (0 : Int64) (7 : Int64) x1 hy2) (va_cwS 3 hts (gA_S wl_391 wl_392 wl_5 wl_393) rfl rfl rfl (by decide +kernel) ⟨Nat.le_of_ble_eq_true rfl, Nat.le_of_ble_eq_true rfl⟩) rfl hl.1 rfl (Nat.le_of_ble_eq_true rfl) dX7_kinds_11 ⟨Nat.zero_le _, Nat.zero_le _⟩ hK hP hD hS hA (fun H locs hP hD hS => ?_)
  refine lv_if_ne (tgt := 24) hx hb dX7_kinds_14 (by decide) (fun c3 => ?_) (fun c3 => ?_)
  · have hf := dq_f hf c3
    clear c3
    refine lv_iconst (v := 0) hx hb dX7_kinds_24 (by decide) ?_
    refine lv_istore_n (lv' := [(2, .int (0 : Int32)), (0, .ref (a 0)), (1, .int n0)]) hx hb dX7_kinds_25 rfl hl (by decide) rfl (fun ls hl => ?_)
    refine lv_iconst (v := 0) hx hb dX7_kinds_26 (by decide) ?_
    refine lv_istore_n (lv' := [(3, .int (0 : Int32)), (2, .int (0 : Int32)), (0, .ref (a 0)), (1, .int n0)]) hx hb dX7_kinds_27 rfl hl (by decide) rfl (fun ls hl => ?_)
    have J28 : ∀ (m28 : Nat) (x4 : Int32) (x5 : Int32), f_X7_kinds_b28 n0 r_airs r_kinds0 r_refusals m28 x4 x5 = some (z0, z1, z2) → ∀ (H : Heap) (locs : List Loc), va_P D vwCl (w_X7 y a r_airs r_sitters r_stepMany r_today r_taken r_isStill (0 : Int32) r_letterMany r_at0 r_isBad r_statements r_stepsMany r_hasImage r_place0 r_isTaking r_keptIn r_turned r_rowMany r_seed r_warms r_shutAt r_kinds0 r_figures r_airAt r_ways r_crowned r_sitsAt r_shawls r_isOn r_stepOf r_stepBy r_refusals r_letters r_placeIn r_letterOf r_numbers r_stepsRead r_stepsBy r_kept r_keptWarms r_i_imaged r_imagedWarms r_turns0 r_turnWarms0 r_turnOf r_turnWarms r_row0 r_gains r_pegSort r_pegMany r_pegHolds r_coats r_coatsMoved) H → va_D A (w_X7 y a r_airs r_sitters r_stepMany r_today r_taken r_isStill (0 : Int32) r_letterMany r_at0 r_isBad r_statements r_stepsMany r_hasImage r_place0 r_isTaking r_keptIn r_turned r_rowMany r_seed r_warms r_shutAt r_kinds0 r_figures r_airAt r_ways r_crowned r_sitsAt r_shawls r_isOn r_stepOf r_stepBy r_refusals r_letters r_placeIn r_letterOf r_numbers r_stepsRead r_stepsBy r_kept r_keptWarms r_i_imaged r_imagedWarms r_turns0 r_turnWarms0 r_turnOf r_turnWarms r_row0 r_gains r_pegSort r_pegMany r_pegHolds r_coats r_coatsMoved) → va_S A s.heap H locs → ∀ ls : Array Slot, lv_has ls 4 [(0, .ref (a 0)), (1, .int n0), (2, .int x4), (3, .int x5)] → W p l e ({ frames := 1, cells := 0, slots := 0, locals := 25 } : Room) s m [.ref (a 0), .int n0].toArray below meth c H locs 0 0 (MQ below (dQ D y (some (.int z0)) s.heap.size (w_X7 y a r_airs r_sitters r_stepMany r_today r_taken r_isStill r_thrown r_letterMany r_at0 r_isBad r_statements r_stepsMany r_hasImage r_place0 r_isTaking r_keptIn r_turned r_rowMany r_seed r_warms r_shutAt r_kinds0 r_figures r_airAt r_ways r_crowned r_sitsAt r_shawls r_isOn r_stepOf r_stepBy r_refusals r_letters r_placeIn r_letterOf r_numbers r_stepsRead r_stepsBy r_kept r_keptWarms r_i_imaged r_imagedWarms r_turns0 r_turnWarms0 r_turnOf r_turnWarms r_row0 r_gains r_pegSort r_pegMany r_pegHolds r_coats r_coatsMoved) (w_X7 y a r_airs r_sitters r_stepMany r_today r_taken r_isStill z1 r_letterMany r_at0 r_isBad r_statements r_stepsMany r_hasImage r_place0 r_isTaking r_keptIn r_turned r_rowMany r_seed r_warms r_shutAt r_kinds0 r_figures r_airAt r_ways r_crowned r_sitsAt r_shawls r_isOn r_stepOf r_stepBy z2 r_letters r_placeIn r_letterOf r_numbers r_stepsRead r_stepsBy r_kept r_keptWarms r_i_imaged r_imagedWarms r_turns0 r_turnWarms0 r_turnOf r_turnWarms r_row0 r_gains r_pegSort r_pegMany r_pegHolds r_coats r_coatsMoved)) [.ref (a 0), .int n0].toArray s 0 0 A) (F0 m 28 ls []) := by
      intro m28
      induction m28 with
      | zero => intro x4 x5 hf; exact absurd hf (by unfold f_X7_kinds_b28; exact fun h => by cases h)
      | succ m28 I28 =>
        intro x4 x5 hf H locs hP hD hS ls hl
        unfold f_X7_kinds_b28 at hf
        refine lv_iload_n hx hb dX7_kinds_28 rfl (lv_at hl 3 rfl) ?_
        refine lv_aload_n hx hb dX7_kinds_29 rfl (lv_at hl 0 rfl) ?_
        refine va_get (D := D) (ci := 6) (v := .int r_airs) (C := RX7) (T := TX7) (N := 53) hx hb hts iwX7 hown hK hP 0 rfl rfl 2 (by decide) (hts _ wl_405) (fun _ h9 => h9) rfl dX7_kinds_30 ?_
        refine lv_icmp_ge (tgt := 60) hx hb dX7_kinds_33 (by decide) (fun c6 => ?_) (fun c6 => ?_)
        · have hf := dq_t hf c6
          clear c6
          refine lv_iload_n hx hb dX7_kinds_60 rfl (lv_at hl 2 rfl) ?_
          obtain ⟨rfl, rfl, rfl⟩ := dq_r3 hf
          exact ct_iret hx hb hr hlocks hAe hP hK hD hS dX7_kinds_61
        · have hf := dq_f hf c6
          clear c6
          refine lv_iload_n hx hb dX7_kinds_36 rfl (lv_at hl 2 rfl) ?_
          refine lv_aload_n hx hb dX7_kinds_37 rfl (lv_at hl 0 rfl) ?_
          refine va_get (D := D) (ci := 6) (v := .ref (a 3)) (C := RX7) (T := TX7) (N := 53) hx hb hts iwX7 hown hK hP 0 rfl rfl 3 (by decide) (hts _ wl_83) (fun _ h9 => h9) rfl dX7_kinds_38 ?_
          refine lv_iload_n hx hb dX7_kinds_41 rfl (lv_at hl 3 rfl) ?_
          obtain ⟨h7, hf⟩ := dq_g hf
          refine va_iald (cA := y 1) (n := 5) (f := r_kinds0) hx hb hK hP 3 1 rfl rfl h7 dX7_kinds_42 ?_
          refine lv_iload_n hx hb dX7_kinds_43 rfl (lv_at hl 1 rfl) ?_
          refine lv_icmp_ne (tgt := 51) hx hb dX7_kinds_44 (by decide) (fun c8 => ?_) (fun c8 => ?_)
          · have hf := dq_f hf c8
            clear c8
            refine lv_iconst (v := 0) hx hb dX7_kinds_51 (by decide) ?_
            refine lv_iadd hx hb dX7_kinds_52 ?_
            refine lv_topi (fun x9 ex9 => ?_)
            have hf := dq_l hf x9 ex9
            clear ex9
            refine lv_istore_n (lv' := [(2, .int x9), (0, .ref (a 0)), (1, .int n0), (3, .int x5)]) hx hb dX7_kinds_53 rfl hl (by decide) rfl (fun ls hl => ?_)
            obtain ⟨x10, ex10⟩ : ∃ z : Int32, z = (x5 + (1 : Int32)) := ⟨_, rfl⟩
            have hf := dq_l hf x10 ex10
            refine lv_iinc (v := x10) (lv' := [(3, .int x10), (2, .int x9), (0, .ref (a 0)), (1, .int n0)]) hx hb dX7_kinds_54 hl (k := 3) rfl (by rw [ex10]; rfl) (by decide) rfl (fun ls hl => ?_)
            clear ex10
            refine lv_goto (tgt := 28) hx hb dX7_kinds_57 (by decide) ?_
            exact I28 _ _ hf _ _ hP hD hS _ (lv_sub hl [2, 3, 1, 0] rfl)
          · have hf := dq_t hf c8
            clear c8
            refine lv_iconst (v := 1) hx hb dX7_kinds_47 (by decide) ?_
            refine lv_goto (tgt := 52) hx hb dX7_kinds_48 (by decide) ?_
            refine lv_iadd hx hb dX7_kinds_52 ?_
            refine lv_topi (fun x11 ex11 => ?_)
            have hf := dq_l hf x11 ex11
            clear ex11
            refine lv_istore_n (lv' := [(2, .int x11), (0, .ref (a 0)), (1, .int n0), (3, .int x5)]) hx hb dX7_kinds_53 rfl hl (by decide) rfl (fun ls hl => ?_)
            obtain ⟨x12, ex12⟩ : ∃ z : Int32, z = (x5 + (1 : Int32)) := ⟨_, rfl⟩
            have hf := dq_l hf x12 ex12
            refine lv_iinc (v := x12) (lv' := [(3, .int x12), (2, .int x11), (0, .ref (a 0)), (1, .int n0)]) hx hb dX7_kinds_54 hl (k := 3) rfl (by rw [ex12]; rfl) (by decide) rfl (fun ls hl => ?_)
            clear ex12
            refine lv_goto (tgt := 28) hx hb dX7_kinds_57 (by decide) ?_
            exact I28 _ _ hf _ _ hP hD hS _ (lv_sub hl [2, 3, 1, 0] rfl)
    exact J28 4096 _ _ hf _ _ hP hD hS _ (lv_sub hl [2, 3, 1, 0] rfl)
  · have hf := dq_t hf c3
    clear c3
    refine lv_aload_n hx hb dX7_kinds_17 rfl (lv_at hl 0 rfl) ?_
    refine lv_bipush (v := -2) hx hb dX7_kinds_18 (by decide) ?_
    obtain ⟨x13, r_refusals_14, hy15, hf⟩ := dq_b2 hf
    refine ct_callV0 (ci := 6) (q0 := 0) (own := RX7) (As := [.int (-2 : Int32)]) (rest := []) (ws' := (w_X7 y a r_airs r_sitters r_stepMany r_today r_taken r_isStill (0 : Int32) r_letterMany r_at0 r_isBad r_statements r_stepsMany r_hasImage r_place0 r_isTaking r_keptIn r_turned r_rowMany r_seed r_warms r_shutAt r_kinds0 r_figures r_airAt r_ways r_crowned r_sitsAt r_shawls r_isOn r_stepOf r_stepBy r_refusals_14 r_letters r_placeIn r_letterOf r_numbers r_stepsRead r_stepsBy r_kept r_keptWarms r_i_imaged r_imagedWarms r_turns0 r_turnWarms0 r_turnOf r_turnWarms r_row0 r_gains r_pegSort r_pegMany r_pegHolds r_coats r_coatsMoved)) ⟨hx, hb, hml, hown, hts⟩ (m_X7_refuse l D y a r_airs r_sitters r_stepMany r_today r_taken r_isStill (0 : Int32) r_letterMany r_at0 r_isBad r_statements r_stepsMany r_hasImage r_place0 r_isTaking r_keptIn r_turned r_rowMany r_seed r_warms r_shutAt r_kinds0 r_figures r_airAt r_ways r_crowned r_sitsAt r_shawls r_isOn r_stepOf r_stepBy r_refusals r_letters r_placeIn r_letterOf r_numbers r_stepsRead r_stepsBy r_kept r_keptWarms r_i_imaged r_imagedWarms r_turns0 r_turnWarms0 r_turnOf r_turnWarms r_row0 r_gains r_pegSort r_pegMany r_pegHolds r_coats r_coatsMoved (-2 : Int32) x13 r_refusals_14 hy15) (cwV 1 hts (gA_V wl_133 wl_134 wl_135 wl_5 wl_136) rfl rfl rfl (by decide +kernel) ⟨Nat.le_of_ble_eq_true rfl, Nat.le_of_ble_eq_true rfl⟩) rfl rfl rfl hl.1 rfl (Nat.le_of_ble_eq_true rfl) dX7_kinds_20 ⟨Nat.zero_le _, Nat.zero_le _⟩ hK hP hD hS hA (fun H locs hP hD hS => ?_)
    obtain ⟨rfl, rfl, rfl⟩ := dq_r3 hf
    exact ct_iret hx hb hr hlocks hAe hP hK hD hS dX7_kinds_23
noncomputable def f_X7_isPeg (n0 : Int32) : Option Int32 := dq_bd (f_X7_in n0.toInt64 (0 : Int64) (2 : Int64)) (fun (x1 : Int32) => dq_gd (dq_z x1) (some x1))
def wA_X7_isPeg : List Cond := .code yX7_isPeg cX7_isPeg 1 (some .boolean) :: wsL_law
-- DraughtsTakeModel.isPeg(I)Z
set_option maxHeartbeats 4000000 in
set_option maxRecDepth 100000 in
theorem m_X7_isPeg (l : Launch) (D : va_G) (y : Nat → ClassId) (n0 : Int32) (z0 : Int32) (hf : f_X7_isPeg n0 = some z0) : Ct l D y yX7_isPeg wA_X7_isPeg 1 25 [.int n0] [] [] (some (.int z0)) := by
  refine ct_head (cc := cX7_isPeg) (n := 1) (ret := (some .boolean)) (by decide) rfl (Nat.le_of_ble_eq_true rfl) ?_
  intro p e s m below meth c A ls hx hb hr hml hown hlocks hts hA hAe hP hK hD hl
  have hS : va_S A s.heap s.heap [] := va_S.rf
  have hl : lv_has ls 1 [(0, .int n0)] := hl
  have hown : s.vm.findClass RX7 = some m.cls := hown
  have hts : ∀ w ∈ wsL_law, w.before [.int n0].toArray s = true := fun w h => hts w (List.mem_cons_of_mem _ h)
  unfold f_X7_isPeg at hf
  refine lv_iload_n hx hb dX7_isPeg_0 rfl (lv_at hl 0 rfl) ?_
  refine lv_i2l hx hb dX7_isPeg_1 rfl ?_
  refine lv_lconst (v := 0) hx hb dX7_isPeg_2 (by decide) ?_
  refine lv_ldc2 hx hb hown (hts _ wl_568) dX7_isPeg_3 ?_
  obtain ⟨x1, hy2, hf⟩ := dq_b hf
  refine ct_callS0 (own := RX7) (As := [.long n0.toInt64, .long (0 : Int64), .long (2 : Int64)]) (rest := []) ⟨hx, hb, hml, hown, hts⟩ (m_X7_in l D y n0.toInt64 (0 : Int64) (2 : Int64) x1 hy2) (va_cwS 3 hts (gA_S wl_391 wl_392 wl_5 wl_393) rfl rfl rfl (by decide +kernel) ⟨Nat.le_of_ble_eq_true rfl, Nat.le_of_ble_eq_true rfl⟩) rfl hl.1 rfl (Nat.le_of_ble_eq_true rfl) dX7_isPeg_6 ⟨Nat.zero_le _, Nat.zero_le _⟩ hK hP hD hS hA (fun H locs hP hD hS => ?_)
  obtain ⟨h3, hf⟩ := dq_g hf
  obtain rfl := dq_r1 hf
  exact ct_zret hx hb hr (dq_zn h3) hlocks hAe hP hK hD hS dX7_isPeg_9
