noncomputable def f_X7_count (r_airs : Int32) (r_sitters : Int32) (r_stepMany : Int32) (r_today : Int32) (r_taken : Int32) (r_letterMany : Int32) (r_turned : Int32) (r_rowMany : Int32) (r_shutAt : (Nat → Int32)) (r_isOn : (Nat → Int32)) (r_refusals : (Nat → Int32)) (n0 : Int32) : Option (Int32 × Int32) := dq_if (n0 = 0) (some (r_airs, (0 : Int32))) (dq_if (n0 = 1) (some (r_sitters, (0 : Int32))) (dq_if (n0 = 2) (some (r_today, (0 : Int32))) (dq_if (n0 = 3) (some (r_taken, (0 : Int32))) (dq_if (n0 = 4) (dq_bd (f_X7_onBits r_sitters r_isOn) (fun (x6 : Int32) => some (x6, (0 : Int32)))) (dq_if (n0 = 5) (some (r_stepMany, (0 : Int32))) (dq_if (n0 = 6) (dq_bd (f_X7_shutMany r_shutAt) (fun (x10 : Int32) => some (x10, (0 : Int32)))) (dq_if (n0 = 7) (some (r_letterMany, (0 : Int32))) (dq_if (n0 = 8) (some (r_rowMany, (0 : Int32))) (dq_if (n0 = 9) (some (r_turned, (0 : Int32))) (dq_bd (f_X7_in n0.toInt64 (11 : Int64) (16 : Int64)) (fun (x15 : Int32) => dq_if (x15 = 0) (some ((-9 : Int32), (0 : Int32))) (dq_gd (vp_in (n0 - (10 : Int32)) 7) (some ((r_refusals (n0 - (10 : Int32)).toNatClampNeg), (0 : Int32)))))))))))))))
def wA_X7_count : List Cond := .code yX7_count cX7_count 2 (some .int) :: wsL_law
-- DraughtsTakeModel.count(I)I
set_option maxHeartbeats 4000000 in
set_option maxRecDepth 100000 in
theorem m_X7_count (l : Launch) (D : va_G) (y : Nat → ClassId) (a : (Nat → Nat)) (r_airs : Int32) (r_sitters : Int32) (r_stepMany : Int32) (r_today : Int32) (r_taken : Int32) (r_isStill : Int32) (r_thrown : Int32) (r_letterMany : Int32) (r_at0 : Int32) (r_isBad : Int32) (r_statements : Int32) (r_stepsMany : Int32) (r_hasImage : Int32) (r_place0 : Int32) (r_isTaking : Int32) (r_keptIn : Value) (r_turned : Int32) (r_rowMany : Int32) (r_seed : Int32) (r_warms : (Nat → UInt32)) (r_shutAt : (Nat → Int32)) (r_kinds0 : (Nat → Int32)) (r_figures : (Nat → Int32)) (r_airAt : (Nat → Int32)) (r_ways : (Nat → Int32)) (r_crowned : (Nat → Int32)) (r_sitsAt : (Nat → Int32)) (r_shawls : (Nat → Int32)) (r_isOn : (Nat → Int32)) (r_stepOf : (Nat → Int32)) (r_stepBy : (Nat → Int32)) (r_refusals : (Nat → Int32)) (r_letters : (Nat → Int32)) (r_placeIn : (Nat → Int32)) (r_letterOf : (Nat → Int32)) (r_numbers : (Nat → Int32)) (r_stepsRead : (Nat → Int32)) (r_stepsBy : (Nat → Int32)) (r_kept : (Nat → Int32)) (r_keptWarms : (Nat → UInt32)) (r_i_imaged : (Nat → Int32)) (r_imagedWarms : (Nat → UInt32)) (r_turns0 : (Nat → Int32)) (r_turnWarms0 : (Nat → UInt32)) (r_turnOf : (Nat → Int32)) (r_turnWarms : (Nat → UInt32)) (r_row0 : (Nat → Int32)) (r_gains : (Nat → Int32)) (r_pegSort : (Nat → Int32)) (r_pegMany : (Nat → Int32)) (r_pegHolds : (Nat → Int32)) (r_coats : (Nat → Int32)) (r_coatsMoved : (Nat → Int32)) (n0 : Int32) (z0 : Int32) (z1 : Int32) (hf : f_X7_count r_airs r_sitters r_stepMany r_today r_taken r_letterMany r_turned r_rowMany r_shutAt r_isOn r_refusals n0 = some (z0, z1)) : Ct l D y yX7_count wA_X7_count 1 25 [.ref (a 0), .int n0] (w_X7 y a r_airs r_sitters r_stepMany r_today r_taken r_isStill r_thrown r_letterMany r_at0 r_isBad r_statements r_stepsMany r_hasImage r_place0 r_isTaking r_keptIn r_turned r_rowMany r_seed r_warms r_shutAt r_kinds0 r_figures r_airAt r_ways r_crowned r_sitsAt r_shawls r_isOn r_stepOf r_stepBy r_refusals r_letters r_placeIn r_letterOf r_numbers r_stepsRead r_stepsBy r_kept r_keptWarms r_i_imaged r_imagedWarms r_turns0 r_turnWarms0 r_turnOf r_turnWarms r_row0 r_gains r_pegSort r_pegMany r_pegHolds r_coats r_coatsMoved) (w_X7 y a r_airs r_sitters r_stepMany r_today r_taken r_isStill z1 r_letterMany r_at0 r_isBad r_statements r_stepsMany r_hasImage r_place0 r_isTaking r_keptIn r_turned r_rowMany r_seed r_warms r_shutAt r_kinds0 r_figures r_airAt r_ways r_crowned r_sitsAt r_shawls r_isOn r_stepOf r_stepBy r_refusals r_letters r_placeIn r_letterOf r_numbers r_stepsRead r_stepsBy r_kept r_keptWarms r_i_imaged r_imagedWarms r_turns0 r_turnWarms0 r_turnOf r_turnWarms r_row0 r_gains r_pegSort r_pegMany r_pegHolds r_coats r_coatsMoved) (some (.int z0)) := by
  refine ct_head (cc := cX7_count) (n := 2) (ret := (some .int)) (by decide) rfl (Nat.le_of_ble_eq_true rfl) ?_
  intro p e s m below meth c A ls hx hb hr hml hown hlocks hts hA hAe hP hK hD hl
  have hS : va_S A s.heap s.heap [] := va_S.rf
  have hl : lv_has ls 2 [(0, .ref (a 0)), (1, .int n0)] := hl
  have hown : s.vm.findClass RX7 = some m.cls := hown
  have hts : ∀ w ∈ wsL_law, w.before [.ref (a 0), .int n0].toArray s = true := fun w h => hts w (List.mem_cons_of_mem _ h)
  unfold f_X7_count at hf
  refine lv_aload_n hx hb dX7_count_0 rfl (lv_at hl 0 rfl) ?_
  refine lv_iconst (v := 0) hx hb dX7_count_1 (by decide) ?_
  refine va_put (D := D) (ci := 6) (v := .int (0 : Int32)) (ty := .int) (C := RX7) (T := TX7) (N := 53) hx hb hts iwX7 tyX7 tyX7_ok nmX7 hown hK hP hD hS 0 rfl rfl 18 (by decide) (hts _ wl_116) (fun _ h9 => h9) rfl (tyX7_ok 18 (by decide)) rfl rfl (Nat.le_of_ble_eq_true rfl) dX7_count_2 (fun H locs hP hD hS => ?_)
  have hP : va_P D vwCl (w_X7 y a r_airs r_sitters r_stepMany r_today r_taken r_isStill (0 : Int32) r_letterMany r_at0 r_isBad r_statements r_stepsMany r_hasImage r_place0 r_isTaking r_keptIn r_turned r_rowMany r_seed r_warms r_shutAt r_kinds0 r_figures r_airAt r_ways r_crowned r_sitsAt r_shawls r_isOn r_stepOf r_stepBy r_refusals r_letters r_placeIn r_letterOf r_numbers r_stepsRead r_stepsBy r_kept r_keptWarms r_i_imaged r_imagedWarms r_turns0 r_turnWarms0 r_turnOf r_turnWarms r_row0 r_gains r_pegSort r_pegMany r_pegHolds r_coats r_coatsMoved) H := hP
  have hD : va_D A (w_X7 y a r_airs r_sitters r_stepMany r_today r_taken r_isStill (0 : Int32) r_letterMany r_at0 r_isBad r_statements r_stepsMany r_hasImage r_place0 r_isTaking r_keptIn r_turned r_rowMany r_seed r_warms r_shutAt r_kinds0 r_figures r_airAt r_ways r_crowned r_sitsAt r_shawls r_isOn r_stepOf r_stepBy r_refusals r_letters r_placeIn r_letterOf r_numbers r_stepsRead r_stepsBy r_kept r_keptWarms r_i_imaged r_imagedWarms r_turns0 r_turnWarms0 r_turnOf r_turnWarms r_row0 r_gains r_pegSort r_pegMany r_pegHolds r_coats r_coatsMoved) := hD
  refine lv_iload_n hx hb dX7_count_5 rfl (lv_at hl 1 rfl) ?_
  by_cases c1 : n0 = (0 : Int32)
  · have hf := dq_t hf c1
    refine lv_tableIn (tgt := 60) (off := 54) hx hb dX7_count_6 (by rw [c1]; decide) (by rw [c1]; decide) (by rw [c1]; decide) (by decide) ?_
    clear c1
    refine lv_aload_n hx hb dX7_count_60 rfl (lv_at hl 0 rfl) ?_
    refine va_get (D := D) (ci := 6) (v := .int r_airs) (C := RX7) (T := TX7) (N := 53) hx hb hts iwX7 hown hK hP 0 rfl rfl 2 (by decide) (hts _ wl_405) (fun _ h9 => h9) rfl dX7_count_61 ?_
    obtain ⟨rfl, rfl⟩ := dq_r2 hf
    exact ct_iret hx hb hr hlocks hAe hP hK hD hS dX7_count_64
  have hf := dq_f hf c1
  by_cases c2 : n0 = (1 : Int32)
  · have hf := dq_t hf c2
    refine lv_tableIn (tgt := 65) (off := 59) hx hb dX7_count_6 (by rw [c2]; decide) (by rw [c2]; decide) (by rw [c2]; decide) (by decide) ?_
    clear c1 c2
    refine lv_aload_n hx hb dX7_count_65 rfl (lv_at hl 0 rfl) ?_
    refine va_get (D := D) (ci := 6) (v := .int r_sitters) (C := RX7) (T := TX7) (N := 53) hx hb hts iwX7 hown hK hP 0 rfl rfl 8 (by decide) (hts _ wl_406) (fun _ h9 => h9) rfl dX7_count_66 ?_
    obtain ⟨rfl, rfl⟩ := dq_r2 hf
    exact ct_iret hx hb hr hlocks hAe hP hK hD hS dX7_count_69
  have hf := dq_f hf c2
  by_cases c3 : n0 = (2 : Int32)
  · have hf := dq_t hf c3
    refine lv_tableIn (tgt := 70) (off := 64) hx hb dX7_count_6 (by rw [c3]; decide) (by rw [c3]; decide) (by rw [c3]; decide) (by decide) ?_
    clear c1 c2 c3
    refine lv_aload_n hx hb dX7_count_70 rfl (lv_at hl 0 rfl) ?_
    refine va_get (D := D) (ci := 6) (v := .int r_today) (C := RX7) (T := TX7) (N := 53) hx hb hts iwX7 hown hK hP 0 rfl rfl 15 (by decide) (hts _ wl_408) (fun _ h9 => h9) rfl dX7_count_71 ?_
    obtain ⟨rfl, rfl⟩ := dq_r2 hf
    exact ct_iret hx hb hr hlocks hAe hP hK hD hS dX7_count_74
  have hf := dq_f hf c3
  by_cases c4 : n0 = (3 : Int32)
  · have hf := dq_t hf c4
    refine lv_tableIn (tgt := 75) (off := 69) hx hb dX7_count_6 (by rw [c4]; decide) (by rw [c4]; decide) (by rw [c4]; decide) (by decide) ?_
    clear c1 c2 c3 c4
    refine lv_aload_n hx hb dX7_count_75 rfl (lv_at hl 0 rfl) ?_
    refine va_get (D := D) (ci := 6) (v := .int r_taken) (C := RX7) (T := TX7) (N := 53) hx hb hts iwX7 hown hK hP 0 rfl rfl 16 (by decide) (hts _ wl_409) (fun _ h9 => h9) rfl dX7_count_76 ?_
    obtain ⟨rfl, rfl⟩ := dq_r2 hf
    exact ct_iret hx hb hr hlocks hAe hP hK hD hS dX7_count_79
  have hf := dq_f hf c4
  by_cases c5 : n0 = (4 : Int32)
  · have hf := dq_t hf c5
    refine lv_tableIn (tgt := 80) (off := 74) hx hb dX7_count_6 (by rw [c5]; decide) (by rw [c5]; decide) (by rw [c5]; decide) (by decide) ?_
    clear c1 c2 c3 c4 c5
    refine lv_aload_n hx hb dX7_count_80 rfl (lv_at hl 0 rfl) ?_
    obtain ⟨x6, hy7, hf⟩ := dq_b hf
    refine ct_callV0 (ci := 6) (q0 := 0) (own := RX7) (As := []) (rest := []) (ws' := (w_X7 y a r_airs r_sitters r_stepMany r_today r_taken r_isStill (0 : Int32) r_letterMany r_at0 r_isBad r_statements r_stepsMany r_hasImage r_place0 r_isTaking r_keptIn r_turned r_rowMany r_seed r_warms r_shutAt r_kinds0 r_figures r_airAt r_ways r_crowned r_sitsAt r_shawls r_isOn r_stepOf r_stepBy r_refusals r_letters r_placeIn r_letterOf r_numbers r_stepsRead r_stepsBy r_kept r_keptWarms r_i_imaged r_imagedWarms r_turns0 r_turnWarms0 r_turnOf r_turnWarms r_row0 r_gains r_pegSort r_pegMany r_pegHolds r_coats r_coatsMoved)) ⟨hx, hb, hml, hown, hts⟩ (m_X7_onBits l D y a r_airs r_sitters r_stepMany r_today r_taken r_isStill (0 : Int32) r_letterMany r_at0 r_isBad r_statements r_stepsMany r_hasImage r_place0 r_isTaking r_keptIn r_turned r_rowMany r_seed r_warms r_shutAt r_kinds0 r_figures r_airAt r_ways r_crowned r_sitsAt r_shawls r_isOn r_stepOf r_stepBy r_refusals r_letters r_placeIn r_letterOf r_numbers r_stepsRead r_stepsBy r_kept r_keptWarms r_i_imaged r_imagedWarms r_turns0 r_turnWarms0 r_turnOf r_turnWarms r_row0 r_gains r_pegSort r_pegMany r_pegHolds r_coats r_coatsMoved x6 hy7) (cwV 0 hts (gA_V wl_770 wl_771 wl_772 wl_5 wl_773) rfl rfl rfl (by decide +kernel) ⟨Nat.le_of_ble_eq_true rfl, Nat.le_of_ble_eq_true rfl⟩) rfl rfl rfl hl.1 rfl (Nat.le_of_ble_eq_true rfl) dX7_count_81 ⟨Nat.zero_le _, Nat.zero_le _⟩ hK hP hD hS hA (fun H locs hP hD hS => ?_)
    obtain ⟨rfl, rfl⟩ := dq_r2 hf
    exact ct_iret hx hb hr hlocks hAe hP hK hD hS dX7_count_84
  have hf := dq_f hf c5
  by_cases c8 : n0 = (5 : Int32)
  · have hf := dq_t hf c8
    refine lv_tableIn (tgt := 85) (off := 79) hx hb dX7_count_6 (by rw [c8]; decide) (by rw [c8]; decide) (by rw [c8]; decide) (by decide) ?_
    clear c1 c2 c3 c4 c5 c8
    refine lv_aload_n hx hb dX7_count_85 rfl (lv_at hl 0 rfl) ?_
    refine va_get (D := D) (ci := 6) (v := .int r_stepMany) (C := RX7) (T := TX7) (N := 53) hx hb hts iwX7 hown hK hP 0 rfl rfl 12 (by decide) (hts _ wl_407) (fun _ h9 => h9) rfl dX7_count_86 ?_
    obtain ⟨rfl, rfl⟩ := dq_r2 hf
    exact ct_iret hx hb hr hlocks hAe hP hK hD hS dX7_count_89
  have hf := dq_f hf c8
  by_cases c9 : n0 = (6 : Int32)
  · have hf := dq_t hf c9
    refine lv_tableIn (tgt := 90) (off := 84) hx hb dX7_count_6 (by rw [c9]; decide) (by rw [c9]; decide) (by rw [c9]; decide) (by decide) ?_
    clear c1 c2 c3 c4 c5 c8 c9
    refine lv_aload_n hx hb dX7_count_90 rfl (lv_at hl 0 rfl) ?_
    obtain ⟨x10, hy11, hf⟩ := dq_b hf
    refine ct_callV0 (ci := 6) (q0 := 0) (own := RX7) (As := []) (rest := []) (ws' := (w_X7 y a r_airs r_sitters r_stepMany r_today r_taken r_isStill (0 : Int32) r_letterMany r_at0 r_isBad r_statements r_stepsMany r_hasImage r_place0 r_isTaking r_keptIn r_turned r_rowMany r_seed r_warms r_shutAt r_kinds0 r_figures r_airAt r_ways r_crowned r_sitsAt r_shawls r_isOn r_stepOf r_stepBy r_refusals r_letters r_placeIn r_letterOf r_numbers r_stepsRead r_stepsBy r_kept r_keptWarms r_i_imaged r_imagedWarms r_turns0 r_turnWarms0 r_turnOf r_turnWarms r_row0 r_gains r_pegSort r_pegMany r_pegHolds r_coats r_coatsMoved)) ⟨hx, hb, hml, hown, hts⟩ (m_X7_shutMany l D y a r_airs r_sitters r_stepMany r_today r_taken r_isStill (0 : Int32) r_letterMany r_at0 r_isBad r_statements r_stepsMany r_hasImage r_place0 r_isTaking r_keptIn r_turned r_rowMany r_seed r_warms r_shutAt r_kinds0 r_figures r_airAt r_ways r_crowned r_sitsAt r_shawls r_isOn r_stepOf r_stepBy r_refusals r_letters r_placeIn r_letterOf r_numbers r_stepsRead r_stepsBy r_kept r_keptWarms r_i_imaged r_imagedWarms r_turns0 r_turnWarms0 r_turnOf r_turnWarms r_row0 r_gains r_pegSort r_pegMany r_pegHolds r_coats r_coatsMoved x10 hy11) (cwV 0 hts (gA_V wl_1138 wl_1139 wl_1140 wl_5 wl_1141) rfl rfl rfl (by decide +kernel) ⟨Nat.le_of_ble_eq_true rfl, Nat.le_of_ble_eq_true rfl⟩) rfl rfl rfl hl.1 rfl (Nat.le_of_ble_eq_true rfl) dX7_count_91 ⟨Nat.zero_le _, Nat.zero_le _⟩ hK hP hD hS hA (fun H locs hP hD hS => ?_)
    obtain ⟨rfl, rfl⟩ := dq_r2 hf
    exact ct_iret hx hb hr hlocks hAe hP hK hD hS dX7_count_94
  have hf := dq_f hf c9
  by_cases c12 : n0 = (7 : Int32)
  · have hf := dq_t hf c12
    refine lv_tableIn (tgt := 95) (off := 89) hx hb dX7_count_6 (by rw [c12]; decide) (by rw [c12]; decide) (by rw [c12]; decide) (by decide) ?_
    clear c1 c2 c3 c4 c5 c8 c9 c12
    refine lv_aload_n hx hb dX7_count_95 rfl (lv_at hl 0 rfl) ?_
    refine va_get (D := D) (ci := 6) (v := .int r_letterMany) (C := RX7) (T := TX7) (N := 53) hx hb hts iwX7 hown hK hP 0 rfl rfl 21 (by decide) (hts _ wl_132) (fun _ h9 => h9) rfl dX7_count_96 ?_
    obtain ⟨rfl, rfl⟩ := dq_r2 hf
    exact ct_iret hx hb hr hlocks hAe hP hK hD hS dX7_count_99
  have hf := dq_f hf c12
  by_cases c13 : n0 = (8 : Int32)
  · have hf := dq_t hf c13
    refine lv_tableIn (tgt := 100) (off := 94) hx hb dX7_count_6 (by rw [c13]; decide) (by rw [c13]; decide) (by rw [c13]; decide) (by decide) ?_
    clear c1 c2 c3 c4 c5 c8 c9 c12 c13
    refine lv_aload_n hx hb dX7_count_100 rfl (lv_at hl 0 rfl) ?_
    refine va_get (D := D) (ci := 6) (v := .int r_rowMany) (C := RX7) (T := TX7) (N := 53) hx hb hts iwX7 hown hK hP 0 rfl rfl 45 (by decide) (hts _ wl_864) (fun _ h9 => h9) rfl dX7_count_101 ?_
    obtain ⟨rfl, rfl⟩ := dq_r2 hf
    exact ct_iret hx hb hr hlocks hAe hP hK hD hS dX7_count_104
  have hf := dq_f hf c13
  by_cases c14 : n0 = (9 : Int32)
  · have hf := dq_t hf c14
    refine lv_tableIn (tgt := 105) (off := 99) hx hb dX7_count_6 (by rw [c14]; decide) (by rw [c14]; decide) (by rw [c14]; decide) (by decide) ?_
    clear c1 c2 c3 c4 c5 c8 c9 c12 c13 c14
    refine lv_aload_n hx hb dX7_count_105 rfl (lv_at hl 0 rfl) ?_
    refine va_get (D := D) (ci := 6) (v := .int r_turned) (C := RX7) (T := TX7) (N := 53) hx hb hts iwX7 hown hK hP 0 rfl rfl 43 (by decide) (hts _ wl_362) (fun _ h9 => h9) rfl dX7_count_106 ?_
    obtain ⟨rfl, rfl⟩ := dq_r2 hf
    exact ct_iret hx hb hr hlocks hAe hP hK hD hS dX7_count_109
  have hf := dq_f hf c14
  have c1 : n0.toInt ≠ 0 := fun q => c1 (Int32.toInt_inj.mp q)
  have c2 : n0.toInt ≠ 1 := fun q => c2 (Int32.toInt_inj.mp q)
  have c3 : n0.toInt ≠ 2 := fun q => c3 (Int32.toInt_inj.mp q)
  have c4 : n0.toInt ≠ 3 := fun q => c4 (Int32.toInt_inj.mp q)
  have c5 : n0.toInt ≠ 4 := fun q => c5 (Int32.toInt_inj.mp q)
  have c8 : n0.toInt ≠ 5 := fun q => c8 (Int32.toInt_inj.mp q)
  have c9 : n0.toInt ≠ 6 := fun q => c9 (Int32.toInt_inj.mp q)
  have c12 : n0.toInt ≠ 7 := fun q => c12 (Int32.toInt_inj.mp q)
  have c13 : n0.toInt ≠ 8 := fun q => c13 (Int32.toInt_inj.mp q)
  have c14 : n0.toInt ≠ 9 := fun q => c14 (Int32.toInt_inj.mp q)
  refine lv_tableOut (tgt := 110) hx hb dX7_count_6 (by omega) (by decide) ?_
  clear c1 c2 c3 c4 c5 c8 c9 c12 c13 c14
  refine lv_iload_n hx hb dX7_count_110 rfl (lv_at hl 1 rfl) ?_
  refine lv_i2l hx hb dX7_count_111 rfl ?_
  refine lv_ldc2 hx hb hown (hts _ wl_1136) dX7_count_112 ?_
  refine lv_ldc2 hx hb hown (hts _ wl_1137) dX7_count_115 ?_
  obtain ⟨x15, hy16, hf⟩ := dq_b hf
  refine ct_callS0 (own := RX7) (As := [.long n0.toInt64, .long (11 : Int64), .long (16 : Int64)]) (rest := []) ⟨hx, hb, hml, hown, hts⟩ (m_X7_in l D y n0.toInt64 (11 : Int64) (16 : Int64) x15 hy16) (va_cwS 3 hts (gA_S wl_391 wl_392 wl_5 wl_393) rfl rfl rfl (by decide +kernel) ⟨Nat.le_of_ble_eq_true rfl, Nat.le_of_ble_eq_true rfl⟩) rfl hl.1 rfl (Nat.le_of_ble_eq_true rfl) dX7_count_118 ⟨Nat.zero_le _, Nat.zero_le _⟩ hK hP hD hS hA (fun H locs hP hD hS => ?_)
  refine lv_if_eq (tgt := 136) hx hb dX7_count_121 (by decide) (fun c17 => ?_) (fun c17 => ?_)
  · have hf := dq_t hf c17
    clear c17
    refine lv_bipush (v := -9) hx hb dX7_count_136 (by decide) ?_
    obtain ⟨rfl, rfl⟩ := dq_r2 hf
    exact ct_iret hx hb hr hlocks hAe hP hK hD hS dX7_count_138
  · have hf := dq_f hf c17
    clear c17
    refine lv_aload_n hx hb dX7_count_124 rfl (lv_at hl 0 rfl) ?_
    refine va_get (D := D) (ci := 6) (v := .ref (a 13)) (C := RX7) (T := TX7) (N := 53) hx hb hts iwX7 hown hK hP 0 rfl rfl 19 (by decide) (hts _ wl_93) (fun _ h9 => h9) rfl dX7_count_125 ?_
    refine lv_iload_n hx hb dX7_count_128 rfl (lv_at hl 1 rfl) ?_
    refine lv_bipush (v := 10) hx hb dX7_count_129 (by decide) ?_
    refine lv_isub hx hb dX7_count_131 ?_
    obtain ⟨h18, hf⟩ := dq_g hf
    refine va_iald (cA := y 1) (n := 7) (f := r_refusals) hx hb hK hP 13 1 rfl rfl h18 dX7_count_132 ?_
    refine lv_goto (tgt := 138) hx hb dX7_count_133 (by decide) ?_
    obtain ⟨rfl, rfl⟩ := dq_r2 hf
    exact ct_iret hx hb hr hlocks hAe hP hK hD hS dX7_count_138
