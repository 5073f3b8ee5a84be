noncomputable def f_X7_howCold_b61 (n0 : Int32) (n1 : Int32) (n2 : Int32) (r_today : Int32) (r_figures : (Nat → Int32)) (r_refusals : (Nat → Int32))  : Nat → Int32 → Int32 → Option (Int32 × Int32 × (Nat → Int32))
  | 0, _, _ => none
  | m61 + 1, x14, x15 => dq_if ((8 : Int32) ≤ x15) (some (x14, (0 : Int32), r_refusals)) (dq_gd (vp_in n0 5) (dq_bd (f_X7_chilled r_today x15 (r_figures n0.toNatClampNeg) (FP.i2f n1)) (fun (x18 : UInt32) => dq_if ((FP.f2i x18) = n2) (dq_let (x14 ||| ((1 : Int32) <<< (x15 &&& 31))) (fun (x23 : Int32) => dq_let (x15 + (1 : Int32)) (fun (x24 : Int32) => (f_X7_howCold_b61 n0 n1 n2 r_today r_figures r_refusals m61) x23 x24))) (dq_let (x14 ||| (0 : Int32)) (fun (x21 : Int32) => dq_let (x15 + (1 : Int32)) (fun (x22 : Int32) => (f_X7_howCold_b61 n0 n1 n2 r_today r_figures r_refusals m61) x21 x22))))))
noncomputable def f_X7_howCold (r_airs : Int32) (r_today : Int32) (r_figures : (Nat → Int32)) (r_refusals : (Nat → Int32)) (n0 : Int32) (n1 : Int32) (n2 : Int32) : Option (Int32 × Int32 × (Nat → Int32)) := dq_bd (f_X7_isAir r_airs n0) (fun (x1 : Int32) => dq_if (x1 = 0) (dq_bd2 (f_X7_refuse r_refusals (-1 : Int32)) (fun (x31 : Int32) (r_refusals_32 : (Nat → Int32)) => some (x31, (0 : Int32), r_refusals_32))) (dq_if (n1 < 0) (dq_bd2 (f_X7_refuse r_refusals (-4 : Int32)) (fun (x5 : Int32) (r_refusals_6 : (Nat → Int32)) => some (x5, (0 : Int32), r_refusals_6))) (dq_if ((-100 : Int32) ≤ n2) (dq_if ((99 : Int32) < n1) (dq_bd2 (f_X7_refuse r_refusals (-6 : Int32)) (fun (x10 : Int32) (r_refusals_11 : (Nat → Int32)) => some (x10, (0 : Int32), r_refusals_11))) (dq_if (n2 ≤ (100 : Int32)) (f_X7_howCold_b61 n0 n1 n2 r_today r_figures r_refusals 4096 (0 : Int32) (0 : Int32)) (dq_bd2 (f_X7_refuse r_refusals (-6 : Int32)) (fun (x25 : Int32) (r_refusals_26 : (Nat → Int32)) => some (x25, (0 : Int32), r_refusals_26))))) (dq_bd2 (f_X7_refuse r_refusals (-4 : Int32)) (fun (x28 : Int32) (r_refusals_29 : (Nat → Int32)) => some (x28, (0 : Int32), r_refusals_29))))))
def wA_X7_howCold : List Cond := .code yX7_howCold cX7_howCold 6 (some .int) :: wsL_law
-- DraughtsTakeModel.howCold(III)I
set_option maxHeartbeats 4000000 in
set_option maxRecDepth 100000 in
theorem m_X7_howCold (l : Launch) (D : va_G) (y : Nat → ClassId) (a : (Nat → Nat)) (r_airs : Int32) (r_sitters : Int32) (r_stepMany : Int32) (r_today : Int32) (r_taken : Int32) (r_isStill : Int32) (r_thrown : Int32) (r_letterMany : Int32) (r_at0 : Int32) (r_isBad : Int32) (r_statements : Int32) (r_stepsMany : Int32) (r_hasImage : Int32) (r_place0 : Int32) (r_isTaking : Int32) (r_keptIn : Value) (r_turned : Int32) (r_rowMany : Int32) (r_seed : Int32) (r_warms : (Nat → UInt32)) (r_shutAt : (Nat → Int32)) (r_kinds0 : (Nat → Int32)) (r_figures : (Nat → Int32)) (r_airAt : (Nat → Int32)) (r_ways : (Nat → Int32)) (r_crowned : (Nat → Int32)) (r_sitsAt : (Nat → Int32)) (r_shawls : (Nat → Int32)) (r_isOn : (Nat → Int32)) (r_stepOf : (Nat → Int32)) (r_stepBy : (Nat → Int32)) (r_refusals : (Nat → Int32)) (r_letters : (Nat → Int32)) (r_placeIn : (Nat → Int32)) (r_letterOf : (Nat → Int32)) (r_numbers : (Nat → Int32)) (r_stepsRead : (Nat → Int32)) (r_stepsBy : (Nat → Int32)) (r_kept : (Nat → Int32)) (r_keptWarms : (Nat → UInt32)) (r_i_imaged : (Nat → Int32)) (r_imagedWarms : (Nat → UInt32)) (r_turns0 : (Nat → Int32)) (r_turnWarms0 : (Nat → UInt32)) (r_turnOf : (Nat → Int32)) (r_turnWarms : (Nat → UInt32)) (r_row0 : (Nat → Int32)) (r_gains : (Nat → Int32)) (r_pegSort : (Nat → Int32)) (r_pegMany : (Nat → Int32)) (r_pegHolds : (Nat → Int32)) (r_coats : (Nat → Int32)) (r_coatsMoved : (Nat → Int32)) (n0 : Int32) (n1 : Int32) (n2 : Int32) (z0 : Int32) (z1 : Int32) (z2 : (Nat → Int32)) (hf : f_X7_howCold r_airs r_today r_figures r_refusals n0 n1 n2 = some (z0, z1, z2)) : Ct l D y yX7_howCold wA_X7_howCold 2 49 [.ref (a 0), .int n0, .int n1, .int n2] (w_X7 y a r_airs r_sitters r_stepMany r_today r_taken r_isStill r_thrown r_letterMany r_at0 r_isBad r_statements r_stepsMany r_hasImage r_place0 r_isTaking r_keptIn r_turned r_rowMany r_seed r_warms r_shutAt r_kinds0 r_figures r_airAt r_ways r_crowned r_sitsAt r_shawls r_isOn r_stepOf r_stepBy r_refusals r_letters r_placeIn r_letterOf r_numbers r_stepsRead r_stepsBy r_kept r_keptWarms r_i_imaged r_imagedWarms r_turns0 r_turnWarms0 r_turnOf r_turnWarms r_row0 r_gains r_pegSort r_pegMany r_pegHolds r_coats r_coatsMoved) (w_X7 y a r_airs r_sitters r_stepMany r_today r_taken r_isStill z1 r_letterMany r_at0 r_isBad r_statements r_stepsMany r_hasImage r_place0 r_isTaking r_keptIn r_turned r_rowMany r_seed r_warms r_shutAt r_kinds0 r_figures r_airAt r_ways r_crowned r_sitsAt r_shawls r_isOn r_stepOf r_stepBy z2 r_letters r_placeIn r_letterOf r_numbers r_stepsRead r_stepsBy r_kept r_keptWarms r_i_imaged r_imagedWarms r_turns0 r_turnWarms0 r_turnOf r_turnWarms r_row0 r_gains r_pegSort r_pegMany r_pegHolds r_coats r_coatsMoved) (some (.int z0)) := by
  refine ct_head (cc := cX7_howCold) (n := 6) (ret := (some .int)) (by decide) rfl (Nat.le_of_ble_eq_true rfl) ?_
  intro p e s m below meth c A ls hx hb hr hml hown hlocks hts hA hAe hP hK hD hl
  have hS : va_S A s.heap s.heap [] := va_S.rf
  have hl : lv_has ls 6 [(0, .ref (a 0)), (1, .int n0), (2, .int n1), (3, .int n2)] := hl
  have hown : s.vm.findClass RX7 = some m.cls := hown
  have hts : ∀ w ∈ wsL_law, w.before [.ref (a 0), .int n0, .int n1, .int n2].toArray s = true := fun w h => hts w (List.mem_cons_of_mem _ h)
  unfold f_X7_howCold at hf
  refine lv_aload_n hx hb dX7_howCold_0 rfl (lv_at hl 0 rfl) ?_
  refine lv_iconst (v := 0) hx hb dX7_howCold_1 (by decide) ?_
  refine va_put (D := D) (ci := 6) (v := .int (0 : Int32)) (ty := .int) (C := RX7) (T := TX7) (N := 53) hx hb hts iwX7 tyX7 tyX7_ok nmX7 hown hK hP hD hS 0 rfl rfl 18 (by decide) (hts _ wl_116) (fun _ h9 => h9) rfl (tyX7_ok 18 (by decide)) rfl rfl (Nat.le_of_ble_eq_true rfl) dX7_howCold_2 (fun H locs hP hD hS => ?_)
  have hP : va_P D vwCl (w_X7 y a r_airs r_sitters r_stepMany r_today r_taken r_isStill (0 : Int32) r_letterMany r_at0 r_isBad r_statements r_stepsMany r_hasImage r_place0 r_isTaking r_keptIn r_turned r_rowMany r_seed r_warms r_shutAt r_kinds0 r_figures r_airAt r_ways r_crowned r_sitsAt r_shawls r_isOn r_stepOf r_stepBy r_refusals r_letters r_placeIn r_letterOf r_numbers r_stepsRead r_stepsBy r_kept r_keptWarms r_i_imaged r_imagedWarms r_turns0 r_turnWarms0 r_turnOf r_turnWarms r_row0 r_gains r_pegSort r_pegMany r_pegHolds r_coats r_coatsMoved) H := hP
  have hD : va_D A (w_X7 y a r_airs r_sitters r_stepMany r_today r_taken r_isStill (0 : Int32) r_letterMany r_at0 r_isBad r_statements r_stepsMany r_hasImage r_place0 r_isTaking r_keptIn r_turned r_rowMany r_seed r_warms r_shutAt r_kinds0 r_figures r_airAt r_ways r_crowned r_sitsAt r_shawls r_isOn r_stepOf r_stepBy r_refusals r_letters r_placeIn r_letterOf r_numbers r_stepsRead r_stepsBy r_kept r_keptWarms r_i_imaged r_imagedWarms r_turns0 r_turnWarms0 r_turnOf r_turnWarms r_row0 r_gains r_pegSort r_pegMany r_pegHolds r_coats r_coatsMoved) := hD
  refine lv_aload_n hx hb dX7_howCold_5 rfl (lv_at hl 0 rfl) ?_
  refine lv_iload_n hx hb dX7_howCold_6 rfl (lv_at hl 1 rfl) ?_
  obtain ⟨x1, hy2, hf⟩ := dq_b hf
  refine ct_callV0 (ci := 6) (q0 := 0) (own := RX7) (As := [.int n0]) (rest := []) (ws' := (w_X7 y a r_airs r_sitters r_stepMany r_today r_taken r_isStill (0 : Int32) r_letterMany r_at0 r_isBad r_statements r_stepsMany r_hasImage r_place0 r_isTaking r_keptIn r_turned r_rowMany r_seed r_warms r_shutAt r_kinds0 r_figures r_airAt r_ways r_crowned r_sitsAt r_shawls r_isOn r_stepOf r_stepBy r_refusals r_letters r_placeIn r_letterOf r_numbers r_stepsRead r_stepsBy r_kept r_keptWarms r_i_imaged r_imagedWarms r_turns0 r_turnWarms0 r_turnOf r_turnWarms r_row0 r_gains r_pegSort r_pegMany r_pegHolds r_coats r_coatsMoved)) ⟨hx, hb, hml, hown, hts⟩ (m_X7_isAir l D y a r_airs r_sitters r_stepMany r_today r_taken r_isStill (0 : Int32) r_letterMany r_at0 r_isBad r_statements r_stepsMany r_hasImage r_place0 r_isTaking r_keptIn r_turned r_rowMany r_seed r_warms r_shutAt r_kinds0 r_figures r_airAt r_ways r_crowned r_sitsAt r_shawls r_isOn r_stepOf r_stepBy r_refusals r_letters r_placeIn r_letterOf r_numbers r_stepsRead r_stepsBy r_kept r_keptWarms r_i_imaged r_imagedWarms r_turns0 r_turnWarms0 r_turnOf r_turnWarms r_row0 r_gains r_pegSort r_pegMany r_pegHolds r_coats r_coatsMoved n0 x1 hy2) (cwV 1 hts (gA_V wl_548 wl_549 wl_550 wl_5 wl_551) rfl rfl rfl (by decide +kernel) ⟨Nat.le_of_ble_eq_true rfl, Nat.le_of_ble_eq_true rfl⟩) rfl rfl rfl hl.1 rfl (Nat.le_of_ble_eq_true rfl) dX7_howCold_7 ⟨Nat.zero_le _, Nat.zero_le _⟩ hK hP hD hS hA (fun H locs hP hD hS => ?_)
  refine lv_if_ne (tgt := 19) hx hb dX7_howCold_10 (by decide) (fun c3 => ?_) (fun c3 => ?_)
  · have hf := dq_f hf c3
    clear c3
    refine lv_iload_n hx hb dX7_howCold_19 rfl (lv_at hl 2 rfl) ?_
    refine lv_if_lt (tgt := 29) hx hb dX7_howCold_20 (by decide) (fun c4 => ?_) (fun c4 => ?_)
    · have hf := dq_t hf c4
      clear c4
      refine lv_aload_n hx hb dX7_howCold_29 rfl (lv_at hl 0 rfl) ?_
      refine lv_bipush (v := -4) hx hb dX7_howCold_30 (by decide) ?_
      obtain ⟨x5, r_refusals_6, hy7, hf⟩ := dq_b2 hf
      refine ct_callV0 (ci := 6) (q0 := 0) (own := RX7) (As := [.int (-4 : Int32)]) (rest := []) (ws' := (w_X7 y a r_airs r_sitters r_stepMany r_today r_taken r_isStill (0 : Int32) r_letterMany r_at0 r_isBad r_statements r_stepsMany r_hasImage r_place0 r_isTaking r_keptIn r_turned r_rowMany r_seed r_warms r_shutAt r_kinds0 r_figures r_airAt r_ways r_crowned r_sitsAt r_shawls r_isOn r_stepOf r_stepBy r_refusals_6 r_letters r_placeIn r_letterOf r_numbers r_stepsRead r_stepsBy r_kept r_keptWarms r_i_imaged r_imagedWarms r_turns0 r_turnWarms0 r_turnOf r_turnWarms r_row0 r_gains r_pegSort r_pegMany r_pegHolds r_coats r_coatsMoved)) ⟨hx, hb, hml, hown, hts⟩ (m_X7_refuse l D y a r_airs r_sitters r_stepMany r_today r_taken r_isStill (0 : Int32) r_letterMany r_at0 r_isBad r_statements r_stepsMany r_hasImage r_place0 r_isTaking r_keptIn r_turned r_rowMany r_seed r_warms r_shutAt r_kinds0 r_figures r_airAt r_ways r_crowned r_sitsAt r_shawls r_isOn r_stepOf r_stepBy r_refusals r_letters r_placeIn r_letterOf r_numbers r_stepsRead r_stepsBy r_kept r_keptWarms r_i_imaged r_imagedWarms r_turns0 r_turnWarms0 r_turnOf r_turnWarms r_row0 r_gains r_pegSort r_pegMany r_pegHolds r_coats r_coatsMoved (-4 : Int32) x5 r_refusals_6 hy7) (cwV 1 hts (gA_V wl_133 wl_134 wl_135 wl_5 wl_136) rfl rfl rfl (by decide +kernel) ⟨Nat.le_of_ble_eq_true rfl, Nat.le_of_ble_eq_true rfl⟩) rfl rfl rfl hl.1 rfl (Nat.le_of_ble_eq_true rfl) dX7_howCold_32 ⟨Nat.zero_le _, Nat.zero_le _⟩ hK hP hD hS hA (fun H locs hP hD hS => ?_)
      obtain ⟨rfl, rfl, rfl⟩ := dq_r3 hf
      exact ct_iret hx hb hr hlocks hAe hP hK hD hS dX7_howCold_35
    · have hf := dq_f hf c4
      clear c4
      refine lv_iload_n hx hb dX7_howCold_23 rfl (lv_at hl 3 rfl) ?_
      refine lv_bipush (v := -100) hx hb dX7_howCold_24 (by decide) ?_
      refine lv_icmp_ge (tgt := 36) hx hb dX7_howCold_26 (by decide) (fun c8 => ?_) (fun c8 => ?_)
      · have hf := dq_t hf c8
        clear c8
        refine lv_iload_n hx hb dX7_howCold_36 rfl (lv_at hl 2 rfl) ?_
        refine lv_bipush (v := 99) hx hb dX7_howCold_37 (by decide) ?_
        refine lv_icmp_gt (tgt := 48) hx hb dX7_howCold_39 (by decide) (fun c9 => ?_) (fun c9 => ?_)
        · have hf := dq_t hf c9
          clear c9
          refine lv_aload_n hx hb dX7_howCold_48 rfl (lv_at hl 0 rfl) ?_
          refine lv_bipush (v := -6) hx hb dX7_howCold_49 (by decide) ?_
          obtain ⟨x10, r_refusals_11, hy12, hf⟩ := dq_b2 hf
          refine ct_callV0 (ci := 6) (q0 := 0) (own := RX7) (As := [.int (-6 : Int32)]) (rest := []) (ws' := (w_X7 y a r_airs r_sitters r_stepMany r_today r_taken r_isStill (0 : Int32) r_letterMany r_at0 r_isBad r_statements r_stepsMany r_hasImage r_place0 r_isTaking r_keptIn r_turned r_rowMany r_seed r_warms r_shutAt r_kinds0 r_figures r_airAt r_ways r_crowned r_sitsAt r_shawls r_isOn r_stepOf r_stepBy r_refusals_11 r_letters r_placeIn r_letterOf r_numbers r_stepsRead r_stepsBy r_kept r_keptWarms r_i_imaged r_imagedWarms r_turns0 r_turnWarms0 r_turnOf r_turnWarms r_row0 r_gains r_pegSort r_pegMany r_pegHolds r_coats r_coatsMoved)) ⟨hx, hb, hml, hown, hts⟩ (m_X7_refuse l D y a r_airs r_sitters r_stepMany r_today r_taken r_isStill (0 : Int32) r_letterMany r_at0 r_isBad r_statements r_stepsMany r_hasImage r_place0 r_isTaking r_keptIn r_turned r_rowMany r_seed r_warms r_shutAt r_kinds0 r_figures r_airAt r_ways r_crowned r_sitsAt r_shawls r_isOn r_stepOf r_stepBy r_refusals r_letters r_placeIn r_letterOf r_numbers r_stepsRead r_stepsBy r_kept r_keptWarms r_i_imaged r_imagedWarms r_turns0 r_turnWarms0 r_turnOf r_turnWarms r_row0 r_gains r_pegSort r_pegMany r_pegHolds r_coats r_coatsMoved (-6 : Int32) x10 r_refusals_11 hy12) (cwV 1 hts (gA_V wl_133 wl_134 wl_135 wl_5 wl_136) rfl rfl rfl (by decide +kernel) ⟨Nat.le_of_ble_eq_true rfl, Nat.le_of_ble_eq_true rfl⟩) rfl rfl rfl hl.1 rfl (Nat.le_of_ble_eq_true rfl) dX7_howCold_51 ⟨Nat.zero_le _, Nat.zero_le _⟩ hK hP hD hS hA (fun H locs hP hD hS => ?_)
          obtain ⟨rfl, rfl, rfl⟩ := dq_r3 hf
          exact ct_iret hx hb hr hlocks hAe hP hK hD hS dX7_howCold_54
        · have hf := dq_f hf c9
          clear c9
          refine lv_iload_n hx hb dX7_howCold_42 rfl (lv_at hl 3 rfl) ?_
          refine lv_bipush (v := 100) hx hb dX7_howCold_43 (by decide) ?_
          refine lv_icmp_le (tgt := 55) hx hb dX7_howCold_45 (by decide) (fun c13 => ?_) (fun c13 => ?_)
          · have hf := dq_t hf c13
            clear c13
            refine lv_iconst (v := 0) hx hb dX7_howCold_55 (by decide) ?_
            refine lv_istore (lv' := [(4, .int (0 : Int32)), (0, .ref (a 0)), (1, .int n0), (2, .int n1), (3, .int n2)]) hx hb dX7_howCold_56 hl (by decide) rfl (fun ls hl => ?_)
            refine lv_iconst (v := 0) hx hb dX7_howCold_58 (by decide) ?_
            refine lv_istore (lv' := [(5, .int (0 : Int32)), (4, .int (0 : Int32)), (0, .ref (a 0)), (1, .int n0), (2, .int n1), (3, .int n2)]) hx hb dX7_howCold_59 hl (by decide) rfl (fun ls hl => ?_)
            have J61 : ∀ (m61 : Nat) (x14 : Int32) (x15 : Int32), f_X7_howCold_b61 n0 n1 n2 r_today r_figures r_refusals m61 x14 x15 = some (z0, z1, z2) → ∀ (H : Heap) (locs : List Loc), va_P D vwCl (w_X7 y a r_airs r_sitters r_stepMany r_today r_taken r_isStill (0 : Int32) r_letterMany r_at0 r_isBad r_statements r_stepsMany r_hasImage r_place0 r_isTaking r_keptIn r_turned r_rowMany r_seed r_warms r_shutAt r_kinds0 r_figures r_airAt r_ways r_crowned r_sitsAt r_shawls r_isOn r_stepOf r_stepBy r_refusals r_letters r_placeIn r_letterOf r_numbers r_stepsRead r_stepsBy r_kept r_keptWarms r_i_imaged r_imagedWarms r_turns0 r_turnWarms0 r_turnOf r_turnWarms r_row0 r_gains r_pegSort r_pegMany r_pegHolds r_coats r_coatsMoved) H → va_D A (w_X7 y a r_airs r_sitters r_stepMany r_today r_taken r_isStill (0 : Int32) r_letterMany r_at0 r_isBad r_statements r_stepsMany r_hasImage r_place0 r_isTaking r_keptIn r_turned r_rowMany r_seed r_warms r_shutAt r_kinds0 r_figures r_airAt r_ways r_crowned r_sitsAt r_shawls r_isOn r_stepOf r_stepBy r_refusals r_letters r_placeIn r_letterOf r_numbers r_stepsRead r_stepsBy r_kept r_keptWarms r_i_imaged r_imagedWarms r_turns0 r_turnWarms0 r_turnOf r_turnWarms r_row0 r_gains r_pegSort r_pegMany r_pegHolds r_coats r_coatsMoved) → va_S A s.heap H locs → ∀ ls : Array Slot, lv_has ls 6 [(0, .ref (a 0)), (1, .int n0), (2, .int n1), (3, .int n2), (4, .int x14), (5, .int x15)] → W p l e ({ frames := 2, cells := 0, slots := 0, locals := 49 } : Room) s m [.ref (a 0), .int n0, .int n1, .int n2].toArray below meth c H locs 0 0 (MQ below (dQ D y (some (.int z0)) s.heap.size (w_X7 y a r_airs r_sitters r_stepMany r_today r_taken r_isStill r_thrown r_letterMany r_at0 r_isBad r_statements r_stepsMany r_hasImage r_place0 r_isTaking r_keptIn r_turned r_rowMany r_seed r_warms r_shutAt r_kinds0 r_figures r_airAt r_ways r_crowned r_sitsAt r_shawls r_isOn r_stepOf r_stepBy r_refusals r_letters r_placeIn r_letterOf r_numbers r_stepsRead r_stepsBy r_kept r_keptWarms r_i_imaged r_imagedWarms r_turns0 r_turnWarms0 r_turnOf r_turnWarms r_row0 r_gains r_pegSort r_pegMany r_pegHolds r_coats r_coatsMoved) (w_X7 y a r_airs r_sitters r_stepMany r_today r_taken r_isStill z1 r_letterMany r_at0 r_isBad r_statements r_stepsMany r_hasImage r_place0 r_isTaking r_keptIn r_turned r_rowMany r_seed r_warms r_shutAt r_kinds0 r_figures r_airAt r_ways r_crowned r_sitsAt r_shawls r_isOn r_stepOf r_stepBy z2 r_letters r_placeIn r_letterOf r_numbers r_stepsRead r_stepsBy r_kept r_keptWarms r_i_imaged r_imagedWarms r_turns0 r_turnWarms0 r_turnOf r_turnWarms r_row0 r_gains r_pegSort r_pegMany r_pegHolds r_coats r_coatsMoved)) [.ref (a 0), .int n0, .int n1, .int n2].toArray s 0 0 A) (F0 m 61 ls []) := by
              intro m61
              induction m61 with
              | zero => intro x14 x15 hf; exact absurd hf (by unfold f_X7_howCold_b61; exact fun h => by cases h)
              | succ m61 I61 =>
                intro x14 x15 hf H locs hP hD hS ls hl
                unfold f_X7_howCold_b61 at hf
                refine lv_iload hx hb dX7_howCold_61 (lv_at hl 5 rfl) ?_
                refine lv_bipush (v := 8) hx hb dX7_howCold_63 (by decide) ?_
                refine lv_icmp_ge (tgt := 106) hx hb dX7_howCold_65 (by decide) (fun c16 => ?_) (fun c16 => ?_)
                · have hf := dq_t hf c16
                  clear c16
                  refine lv_iload hx hb dX7_howCold_106 (lv_at hl 4 rfl) ?_
                  obtain ⟨rfl, rfl, rfl⟩ := dq_r3 hf
                  exact ct_iret hx hb hr hlocks hAe hP hK hD hS dX7_howCold_108
                · have hf := dq_f hf c16
                  clear c16
                  refine lv_iload hx hb dX7_howCold_68 (lv_at hl 4 rfl) ?_
                  refine lv_aload_n hx hb dX7_howCold_70 rfl (lv_at hl 0 rfl) ?_
                  refine lv_iload hx hb dX7_howCold_71 (lv_at hl 5 rfl) ?_
                  refine lv_aload_n hx hb dX7_howCold_73 rfl (lv_at hl 0 rfl) ?_
                  refine va_get (D := D) (ci := 6) (v := .ref (a 4)) (C := RX7) (T := TX7) (N := 53) hx hb hts iwX7 hown hK hP 0 rfl rfl 4 (by decide) (hts _ wl_84) (fun _ h9 => h9) rfl dX7_howCold_74 ?_
                  refine lv_iload_n hx hb dX7_howCold_77 rfl (lv_at hl 1 rfl) ?_
                  obtain ⟨h17, hf⟩ := dq_g hf
                  refine va_iald (cA := y 1) (n := 5) (f := r_figures) hx hb hK hP 4 1 rfl rfl h17 dX7_howCold_78 ?_
                  refine lv_iload_n hx hb dX7_howCold_79 rfl (lv_at hl 2 rfl) ?_
                  refine lv_i2f hx hb dX7_howCold_80 ?_
                  obtain ⟨x18, hy19, hf⟩ := dq_b hf
                  refine ct_callV0 (ci := 6) (q0 := 0) (own := RX7) (As := [.int x15, .int (r_figures n0.toNatClampNeg), .float (FP.i2f n1)]) (rest := [.int x14]) (ws' := (w_X7 y a r_airs r_sitters r_stepMany r_today r_taken r_isStill (0 : Int32) r_letterMany r_at0 r_isBad r_statements r_stepsMany r_hasImage r_place0 r_isTaking r_keptIn r_turned r_rowMany r_seed r_warms r_shutAt r_kinds0 r_figures r_airAt r_ways r_crowned r_sitsAt r_shawls r_isOn r_stepOf r_stepBy r_refusals r_letters r_placeIn r_letterOf r_numbers r_stepsRead r_stepsBy r_kept r_keptWarms r_i_imaged r_imagedWarms r_turns0 r_turnWarms0 r_turnOf r_turnWarms r_row0 r_gains r_pegSort r_pegMany r_pegHolds r_coats r_coatsMoved)) ⟨hx, hb, hml, hown, hts⟩ (m_X7_chilled l D y a r_airs r_sitters r_stepMany r_today r_taken r_isStill (0 : Int32) r_letterMany r_at0 r_isBad r_statements r_stepsMany r_hasImage r_place0 r_isTaking r_keptIn r_turned r_rowMany r_seed r_warms r_shutAt r_kinds0 r_figures r_airAt r_ways r_crowned r_sitsAt r_shawls r_isOn r_stepOf r_stepBy r_refusals r_letters r_placeIn r_letterOf r_numbers r_stepsRead r_stepsBy r_kept r_keptWarms r_i_imaged r_imagedWarms r_turns0 r_turnWarms0 r_turnOf r_turnWarms r_row0 r_gains r_pegSort r_pegMany r_pegHolds r_coats r_coatsMoved x15 (r_figures n0.toNatClampNeg) (FP.i2f n1) x18 hy19) (cwV 3 hts (gA_V wl_508 wl_509 wl_510 wl_5 wl_511) rfl rfl rfl (by decide +kernel) ⟨Nat.le_of_ble_eq_true rfl, Nat.le_of_ble_eq_true rfl⟩) rfl rfl rfl hl.1 rfl (Nat.le_of_ble_eq_true rfl) dX7_howCold_81 ⟨Nat.zero_le _, Nat.zero_le _⟩ hK hP hD hS hA (fun H locs hP hD hS => ?_)
                  refine lv_f2i hx hb dX7_howCold_84 ?_
                  refine lv_iload_n hx hb dX7_howCold_85 rfl (lv_at hl 3 rfl) ?_
                  refine lv_icmp_ne (tgt := 96) hx hb dX7_howCold_86 (by decide) (fun c20 => ?_) (fun c20 => ?_)
                  · have hf := dq_f hf c20
                    clear c20
                    refine lv_iconst (v := 0) hx hb dX7_howCold_96 (by decide) ?_
                    refine lv_ior hx hb dX7_howCold_97 ?_
                    refine lv_topi (fun x21 ex21 => ?_)
                    have hf := dq_l hf x21 ex21
                    clear ex21
                    refine lv_istore (lv' := [(4, .int x21), (0, .ref (a 0)), (1, .int n0), (2, .int n1), (3, .int n2), (5, .int x15)]) hx hb dX7_howCold_98 hl (by decide) rfl (fun ls hl => ?_)
                    obtain ⟨x22, ex22⟩ : ∃ z : Int32, z = (x15 + (1 : Int32)) := ⟨_, rfl⟩
                    have hf := dq_l hf x22 ex22
                    refine lv_iinc (v := x22) (lv' := [(5, .int x22), (4, .int x21), (0, .ref (a 0)), (1, .int n0), (2, .int n1), (3, .int n2)]) hx hb dX7_howCold_100 hl (k := 5) rfl (by rw [ex22]; rfl) (by decide) rfl (fun ls hl => ?_)
                    clear ex22
                    refine lv_goto (tgt := 61) hx hb dX7_howCold_103 (by decide) ?_
                    exact I61 _ _ hf _ _ hP hD hS _ (lv_sub hl [2, 3, 4, 5, 1, 0] rfl)
                  · have hf := dq_t hf c20
                    clear c20
                    refine lv_iconst (v := 1) hx hb dX7_howCold_89 (by decide) ?_
                    refine lv_iload hx hb dX7_howCold_90 (lv_at hl 5 rfl) ?_
                    refine lv_ishl hx hb dX7_howCold_92 ?_
                    refine lv_goto (tgt := 97) hx hb dX7_howCold_93 (by decide) ?_
                    refine lv_ior hx hb dX7_howCold_97 ?_
                    refine lv_topi (fun x23 ex23 => ?_)
                    have hf := dq_l hf x23 ex23
                    clear ex23
                    refine lv_istore (lv' := [(4, .int x23), (0, .ref (a 0)), (1, .int n0), (2, .int n1), (3, .int n2), (5, .int x15)]) hx hb dX7_howCold_98 hl (by decide) rfl (fun ls hl => ?_)
                    obtain ⟨x24, ex24⟩ : ∃ z : Int32, z = (x15 + (1 : Int32)) := ⟨_, rfl⟩
                    have hf := dq_l hf x24 ex24
                    refine lv_iinc (v := x24) (lv' := [(5, .int x24), (4, .int x23), (0, .ref (a 0)), (1, .int n0), (2, .int n1), (3, .int n2)]) hx hb dX7_howCold_100 hl (k := 5) rfl (by rw [ex24]; rfl) (by decide) rfl (fun ls hl => ?_)
                    clear ex24
                    refine lv_goto (tgt := 61) hx hb dX7_howCold_103 (by decide) ?_
                    exact I61 _ _ hf _ _ hP hD hS _ (lv_sub hl [2, 3, 4, 5, 1, 0] rfl)
            exact J61 4096 _ _ hf _ _ hP hD hS _ (lv_sub hl [2, 3, 4, 5, 1, 0] rfl)
          · have hf := dq_f hf c13
            clear c13
            refine lv_aload_n hx hb dX7_howCold_48 rfl (lv_at hl 0 rfl) ?_
            refine lv_bipush (v := -6) hx hb dX7_howCold_49 (by decide) ?_
            obtain ⟨x25, r_refusals_26, hy27, hf⟩ := dq_b2 hf
            refine ct_callV0 (ci := 6) (q0 := 0) (own := RX7) (As := [.int (-6 : Int32)]) (rest := []) (ws' := (w_X7 y a r_airs r_sitters r_stepMany r_today r_taken r_isStill (0 : Int32) r_letterMany r_at0 r_isBad r_statements r_stepsMany r_hasImage r_place0 r_isTaking r_keptIn r_turned r_rowMany r_seed r_warms r_shutAt r_kinds0 r_figures r_airAt r_ways r_crowned r_sitsAt r_shawls r_isOn r_stepOf r_stepBy r_refusals_26 r_letters r_placeIn r_letterOf r_numbers r_stepsRead r_stepsBy r_kept r_keptWarms r_i_imaged r_imagedWarms r_turns0 r_turnWarms0 r_turnOf r_turnWarms r_row0 r_gains r_pegSort r_pegMany r_pegHolds r_coats r_coatsMoved)) ⟨hx, hb, hml, hown, hts⟩ (m_X7_refuse l D y a r_airs r_sitters r_stepMany r_today r_taken r_isStill (0 : Int32) r_letterMany r_at0 r_isBad r_statements r_stepsMany r_hasImage r_place0 r_isTaking r_keptIn r_turned r_rowMany r_seed r_warms r_shutAt r_kinds0 r_figures r_airAt r_ways r_crowned r_sitsAt r_shawls r_isOn r_stepOf r_stepBy r_refusals r_letters r_placeIn r_letterOf r_numbers r_stepsRead r_stepsBy r_kept r_keptWarms r_i_imaged r_imagedWarms r_turns0 r_turnWarms0 r_turnOf r_turnWarms r_row0 r_gains r_pegSort r_pegMany r_pegHolds r_coats r_coatsMoved (-6 : Int32) x25 r_refusals_26 hy27) (cwV 1 hts (gA_V wl_133 wl_134 wl_135 wl_5 wl_136) rfl rfl rfl (by decide +kernel) ⟨Nat.le_of_ble_eq_true rfl, Nat.le_of_ble_eq_true rfl⟩) rfl rfl rfl hl.1 rfl (Nat.le_of_ble_eq_true rfl) dX7_howCold_51 ⟨Nat.zero_le _, Nat.zero_le _⟩ hK hP hD hS hA (fun H locs hP hD hS => ?_)
            obtain ⟨rfl, rfl, rfl⟩ := dq_r3 hf
            exact ct_iret hx hb hr hlocks hAe hP hK hD hS dX7_howCold_54
      · have hf := dq_f hf c8
        clear c8
        refine lv_aload_n hx hb dX7_howCold_29 rfl (lv_at hl 0 rfl) ?_
        refine lv_bipush (v := -4) hx hb dX7_howCold_30 (by decide) ?_
        obtain ⟨x28, r_refusals_29, hy30, hf⟩ := dq_b2 hf
        refine ct_callV0 (ci := 6) (q0 := 0) (own := RX7) (As := [.int (-4 : Int32)]) (rest := []) (ws' := (w_X7 y a r_airs r_sitters r_stepMany r_today r_taken r_isStill (0 : Int32) r_letterMany r_at0 r_isBad r_statements r_stepsMany r_hasImage r_place0 r_isTaking r_keptIn r_turned r_rowMany r_seed r_warms r_shutAt r_kinds0 r_figures r_airAt r_ways r_crowned r_sitsAt r_shawls r_isOn r_stepOf r_stepBy r_refusals_29 r_letters r_placeIn r_letterOf r_numbers r_stepsRead r_stepsBy r_kept r_keptWarms r_i_imaged r_imagedWarms r_turns0 r_turnWarms0 r_turnOf r_turnWarms r_row0 r_gains r_pegSort r_pegMany r_pegHolds r_coats r_coatsMoved)) ⟨hx, hb, hml, hown, hts⟩ (m_X7_refuse l D y a r_airs r_sitters r_stepMany r_today r_taken r_isStill (0 : Int32) r_letterMany r_at0 r_isBad r_statements r_stepsMany r_hasImage r_place0 r_isTaking r_keptIn r_turned r_rowMany r_seed r_warms r_shutAt r_kinds0 r_figures r_airAt r_ways r_crowned r_sitsAt r_shawls r_isOn r_stepOf r_stepBy r_refusals r_letters r_placeIn r_letterOf r_numbers r_stepsRead r_stepsBy r_kept r_keptWarms r_i_imaged r_imagedWarms r_turns0 r_turnWarms0 r_turnOf r_turnWarms r_row0 r_gains r_pegSort r_pegMany r_pegHolds r_coats r_coatsMoved (-4 : Int32) x28 r_refusals_29 hy30) (cwV 1 hts (gA_V wl_133 wl_134 wl_135 wl_5 wl_136) rfl rfl rfl (by decide +kernel) ⟨Nat.le_of_ble_eq_true rfl, Nat.le_of_ble_eq_true rfl⟩) rfl rfl rfl hl.1 rfl (Nat.le_of_ble_eq_true rfl) dX7_howCold_32 ⟨Nat.zero_le _, Nat.zero_le _⟩ hK hP hD hS hA (fun H locs hP hD hS => ?_)
        obtain ⟨rfl, rfl, rfl⟩ := dq_r3 hf
        exact ct_iret hx hb hr hlocks hAe hP hK hD hS dX7_howCold_35
  · have hf := dq_t hf c3
    clear c3
    refine lv_aload_n hx hb dX7_howCold_13 rfl (lv_at hl 0 rfl) ?_
    refine lv_iconst (v := -1) hx hb dX7_howCold_14 (by decide) ?_
    obtain ⟨x31, r_refusals_32, hy33, hf⟩ := dq_b2 hf
    refine ct_callV0 (ci := 6) (q0 := 0) (own := RX7) (As := [.int (-1 : Int32)]) (rest := []) (ws' := (w_X7 y a r_airs r_sitters r_stepMany r_today r_taken r_isStill (0 : Int32) r_letterMany r_at0 r_isBad r_statements r_stepsMany r_hasImage r_place0 r_isTaking r_keptIn r_turned r_rowMany r_seed r_warms r_shutAt r_kinds0 r_figures r_airAt r_ways r_crowned r_sitsAt r_shawls r_isOn r_stepOf r_stepBy r_refusals_32 r_letters r_placeIn r_letterOf r_numbers r_stepsRead r_stepsBy r_kept r_keptWarms r_i_imaged r_imagedWarms r_turns0 r_turnWarms0 r_turnOf r_turnWarms r_row0 r_gains r_pegSort r_pegMany r_pegHolds r_coats r_coatsMoved)) ⟨hx, hb, hml, hown, hts⟩ (m_X7_refuse l D y a r_airs r_sitters r_stepMany r_today r_taken r_isStill (0 : Int32) r_letterMany r_at0 r_isBad r_statements r_stepsMany r_hasImage r_place0 r_isTaking r_keptIn r_turned r_rowMany r_seed r_warms r_shutAt r_kinds0 r_figures r_airAt r_ways r_crowned r_sitsAt r_shawls r_isOn r_stepOf r_stepBy r_refusals r_letters r_placeIn r_letterOf r_numbers r_stepsRead r_stepsBy r_kept r_keptWarms r_i_imaged r_imagedWarms r_turns0 r_turnWarms0 r_turnOf r_turnWarms r_row0 r_gains r_pegSort r_pegMany r_pegHolds r_coats r_coatsMoved (-1 : Int32) x31 r_refusals_32 hy33) (cwV 1 hts (gA_V wl_133 wl_134 wl_135 wl_5 wl_136) rfl rfl rfl (by decide +kernel) ⟨Nat.le_of_ble_eq_true rfl, Nat.le_of_ble_eq_true rfl⟩) rfl rfl rfl hl.1 rfl (Nat.le_of_ble_eq_true rfl) dX7_howCold_15 ⟨Nat.zero_le _, Nat.zero_le _⟩ hK hP hD hS hA (fun H locs hP hD hS => ?_)
    obtain ⟨rfl, rfl, rfl⟩ := dq_r3 hf
    exact ct_iret hx hb hr hlocks hAe hP hK hD hS dX7_howCold_18
