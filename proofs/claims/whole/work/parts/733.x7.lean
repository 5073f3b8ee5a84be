noncomputable def f_X7_moves_b138 (n2 : Int32) (n3 : Int32) (n4 : Int32) (r_refusals : (Nat → Int32)) (r_pegSort : (Nat → Int32)) (r_coatsMoved_22 : (Nat → Int32))  : Nat → Int32 → (Nat → Int32) → Option (Int32 × Int32 × (Nat → Int32) × (Nat → Int32) × (Nat → Int32))
  | 0, _, _ => none
  | m138 + 1, x24, r_coats_25 => dq_if (n4 ≤ x24) (some (n4, (0 : Int32), r_refusals, r_coats_25, r_coatsMoved_22)) (dq_gd (vp_in x24 12) (dq_bd (f_X7_takes r_pegSort n2 (r_coatsMoved_22 x24.toNatClampNeg)) (fun (x28 : Int32) => dq_if (x28 = 0) (some ((-12 : Int32), (0 : Int32), r_refusals, r_coats_25, r_coatsMoved_22)) (dq_gd (vp_in x24 12) (dq_gd (vp_in ((((12 : Int32) * n2) + n3) + x24) 36) (dq_let (upd r_coats_25 ((((12 : Int32) * n2) + n3) + x24).toNatClampNeg (r_coatsMoved_22 x24.toNatClampNeg)) (fun (r_coats_33 : (Nat → Int32)) => dq_let (x24 + (1 : Int32)) (fun (x34 : Int32) => (f_X7_moves_b138 n2 n3 n4 r_refusals r_pegSort r_coatsMoved_22 m138) x34 r_coats_33))))))))
noncomputable def f_X7_moves_b101 (n0 : Int32) (n1 : Int32) (n2 : Int32) (n3 : Int32) (n4 : Int32) (r_refusals : (Nat → Int32)) (r_pegSort : (Nat → Int32)) (r_coats : (Nat → Int32))  : Nat → Int32 → (Nat → Int32) → Option (Int32 × Int32 × (Nat → Int32) × (Nat → Int32) × (Nat → Int32))
  | 0, _, _ => none
  | m101 + 1, x21, r_coatsMoved_22 => dq_if (n4 ≤ x21) (f_X7_moves_b138 n2 n3 n4 r_refusals r_pegSort r_coatsMoved_22 4096 (0 : Int32) r_coats) (dq_gd (vp_in ((((12 : Int32) * n0) + n1) + x21) 36) (dq_gd (vp_in x21 12) (dq_let (upd r_coatsMoved_22 x21.toNatClampNeg (r_coats ((((12 : Int32) * n0) + n1) + x21).toNatClampNeg)) (fun (r_coatsMoved_37 : (Nat → Int32)) => dq_let (x21 + (1 : Int32)) (fun (x38 : Int32) => (f_X7_moves_b101 n0 n1 n2 n3 n4 r_refusals r_pegSort r_coats m101) x38 r_coatsMoved_37)))))
noncomputable def f_X7_moves (r_refusals : (Nat → Int32)) (r_pegSort : (Nat → Int32)) (r_pegMany : (Nat → Int32)) (r_pegHolds : (Nat → Int32)) (r_coats : (Nat → Int32)) (r_coatsMoved : (Nat → Int32)) (n0 : Int32) (n1 : Int32) (n2 : Int32) (n3 : Int32) (n4 : Int32) : Option (Int32 × Int32 × (Nat → Int32) × (Nat → Int32) × (Nat → Int32)) := dq_bd (f_X7_isPeg n0) (fun (x1 : Int32) => dq_if (x1 = 0) (dq_bd2 (f_X7_refuse r_refusals (-1 : Int32)) (fun (x4 : Int32) (r_refusals_5 : (Nat → Int32)) => some (x4, (0 : Int32), r_refusals_5, r_coats, r_coatsMoved))) (dq_bd (f_X7_isPeg n2) (fun (x7 : Int32) => dq_if (x7 = 0) (dq_bd2 (f_X7_refuse r_refusals (-1 : Int32)) (fun (x39 : Int32) (r_refusals_40 : (Nat → Int32)) => some (x39, (0 : Int32), r_refusals_40, r_coats, r_coatsMoved))) (dq_gd (vp_in n0 3) (dq_if ((r_pegHolds n0.toNatClampNeg) = 0) (some ((-11 : Int32), (0 : Int32), r_refusals, r_coats, r_coatsMoved)) (dq_gd (vp_in n2 3) (dq_if ((r_pegHolds n2.toNatClampNeg) = 0) (some ((-11 : Int32), (0 : Int32), r_refusals, r_coats, r_coatsMoved)) (dq_if (n4 < 0) (some ((-13 : Int32), (0 : Int32), r_refusals, r_coats, r_coatsMoved)) (dq_if (n1 < 0) (some ((-13 : Int32), (0 : Int32), r_refusals, r_coats, r_coatsMoved)) (dq_if (n3 < 0) (some ((-13 : Int32), (0 : Int32), r_refusals, r_coats, r_coatsMoved)) (dq_gd (vp_in n0 3) (dq_if (0 < (lg_cmp (n1.toInt64 + n4.toInt64) ((r_pegMany n0.toNatClampNeg).toInt64))) (some ((-13 : Int32), (0 : Int32), r_refusals, r_coats, r_coatsMoved)) (dq_gd (vp_in n2 3) (dq_if ((lg_cmp (n3.toInt64 + n4.toInt64) ((r_pegMany n2.toNatClampNeg).toInt64)) ≤ 0) (f_X7_moves_b101 n0 n1 n2 n3 n4 r_refusals r_pegSort r_coats 4096 (0 : Int32) r_coatsMoved) (some ((-13 : Int32), (0 : Int32), r_refusals, r_coats, r_coatsMoved))))))))))))))))
def wA_X7_moves : List Cond := .code yX7_moves cX7_moves 7 (some .int) :: wsL_law
-- DraughtsTakeModel.moves(IIIII)I
set_option maxHeartbeats 4000000 in
set_option maxRecDepth 100000 in
theorem m_X7_moves (l : Launch) (D : va_G) (y : Nat → ClassId) (a : (Nat → Nat)) (r_airs : Int32) (r_sitters : Int32) (r_stepMany : Int32) (r_today : Int32) (r_taken : Int32) (r_isStill : Int32) (r_thrown : Int32) (r_letterMany : Int32) (r_at0 : Int32) (r_isBad : Int32) (r_statements : Int32) (r_stepsMany : Int32) (r_hasImage : Int32) (r_place0 : Int32) (r_isTaking : Int32) (r_keptIn : Value) (r_turned : Int32) (r_rowMany : Int32) (r_seed : Int32) (r_warms : (Nat → UInt32)) (r_shutAt : (Nat → Int32)) (r_kinds0 : (Nat → Int32)) (r_figures : (Nat → Int32)) (r_airAt : (Nat → Int32)) (r_ways : (Nat → Int32)) (r_crowned : (Nat → Int32)) (r_sitsAt : (Nat → Int32)) (r_shawls : (Nat → Int32)) (r_isOn : (Nat → Int32)) (r_stepOf : (Nat → Int32)) (r_stepBy : (Nat → Int32)) (r_refusals : (Nat → Int32)) (r_letters : (Nat → Int32)) (r_placeIn : (Nat → Int32)) (r_letterOf : (Nat → Int32)) (r_numbers : (Nat → Int32)) (r_stepsRead : (Nat → Int32)) (r_stepsBy : (Nat → Int32)) (r_kept : (Nat → Int32)) (r_keptWarms : (Nat → UInt32)) (r_i_imaged : (Nat → Int32)) (r_imagedWarms : (Nat → UInt32)) (r_turns0 : (Nat → Int32)) (r_turnWarms0 : (Nat → UInt32)) (r_turnOf : (Nat → Int32)) (r_turnWarms : (Nat → UInt32)) (r_row0 : (Nat → Int32)) (r_gains : (Nat → Int32)) (r_pegSort : (Nat → Int32)) (r_pegMany : (Nat → Int32)) (r_pegHolds : (Nat → Int32)) (r_coats : (Nat → Int32)) (r_coatsMoved : (Nat → Int32)) (n0 : Int32) (n1 : Int32) (n2 : Int32) (n3 : Int32) (n4 : Int32) (z0 : Int32) (z1 : Int32) (z2 : (Nat → Int32)) (z3 : (Nat → Int32)) (z4 : (Nat → Int32)) (hf : f_X7_moves r_refusals r_pegSort r_pegMany r_pegHolds r_coats r_coatsMoved n0 n1 n2 n3 n4 = some (z0, z1, z2, z3, z4)) : Ct l D y yX7_moves wA_X7_moves 2 45 [.ref (a 0), .int n0, .int n1, .int n2, .int n3, .int n4] (w_X7 y a r_airs r_sitters r_stepMany r_today r_taken r_isStill r_thrown r_letterMany r_at0 r_isBad r_statements r_stepsMany r_hasImage r_place0 r_isTaking r_keptIn r_turned r_rowMany r_seed r_warms r_shutAt r_kinds0 r_figures r_airAt r_ways r_crowned r_sitsAt r_shawls r_isOn r_stepOf r_stepBy r_refusals r_letters r_placeIn r_letterOf r_numbers r_stepsRead r_stepsBy r_kept r_keptWarms r_i_imaged r_imagedWarms r_turns0 r_turnWarms0 r_turnOf r_turnWarms r_row0 r_gains r_pegSort r_pegMany r_pegHolds r_coats r_coatsMoved) (w_X7 y a r_airs r_sitters r_stepMany r_today r_taken r_isStill z1 r_letterMany r_at0 r_isBad r_statements r_stepsMany r_hasImage r_place0 r_isTaking r_keptIn r_turned r_rowMany r_seed r_warms r_shutAt r_kinds0 r_figures r_airAt r_ways r_crowned r_sitsAt r_shawls r_isOn r_stepOf r_stepBy z2 r_letters r_placeIn r_letterOf r_numbers r_stepsRead r_stepsBy r_kept r_keptWarms r_i_imaged r_imagedWarms r_turns0 r_turnWarms0 r_turnOf r_turnWarms r_row0 r_gains r_pegSort r_pegMany r_pegHolds z3 z4) (some (.int z0)) := by
  refine ct_head (cc := cX7_moves) (n := 7) (ret := (some .int)) (by decide) rfl (Nat.le_of_ble_eq_true rfl) ?_
  intro p e s m below meth c A ls hx hb hr hml hown hlocks hts hA hAe hP hK hD hl
  have hS : va_S A s.heap s.heap [] := va_S.rf
  have hl : lv_has ls 7 [(0, .ref (a 0)), (1, .int n0), (2, .int n1), (3, .int n2), (4, .int n3), (5, .int n4)] := hl
  have hown : s.vm.findClass RX7 = some m.cls := hown
  have hts : ∀ w ∈ wsL_law, w.before [.ref (a 0), .int n0, .int n1, .int n2, .int n3, .int n4].toArray s = true := fun w h => hts w (List.mem_cons_of_mem _ h)
  unfold f_X7_moves at hf
  refine lv_aload_n hx hb dX7_moves_0 rfl (lv_at hl 0 rfl) ?_
  refine lv_iconst (v := 0) hx hb dX7_moves_1 (by decide) ?_
  refine va_put (D := D) (ci := 6) (v := .int (0 : Int32)) (ty := .int) (C := RX7) (T := TX7) (N := 53) hx hb hts iwX7 tyX7 tyX7_ok nmX7 hown hK hP hD hS 0 rfl rfl 18 (by decide) (hts _ wl_116) (fun _ h9 => h9) rfl (tyX7_ok 18 (by decide)) rfl rfl (Nat.le_of_ble_eq_true rfl) dX7_moves_2 (fun H locs hP hD hS => ?_)
  have hP : va_P D vwCl (w_X7 y a r_airs r_sitters r_stepMany r_today r_taken r_isStill (0 : Int32) r_letterMany r_at0 r_isBad r_statements r_stepsMany r_hasImage r_place0 r_isTaking r_keptIn r_turned r_rowMany r_seed r_warms r_shutAt r_kinds0 r_figures r_airAt r_ways r_crowned r_sitsAt r_shawls r_isOn r_stepOf r_stepBy r_refusals r_letters r_placeIn r_letterOf r_numbers r_stepsRead r_stepsBy r_kept r_keptWarms r_i_imaged r_imagedWarms r_turns0 r_turnWarms0 r_turnOf r_turnWarms r_row0 r_gains r_pegSort r_pegMany r_pegHolds r_coats r_coatsMoved) H := hP
  have hD : va_D A (w_X7 y a r_airs r_sitters r_stepMany r_today r_taken r_isStill (0 : Int32) r_letterMany r_at0 r_isBad r_statements r_stepsMany r_hasImage r_place0 r_isTaking r_keptIn r_turned r_rowMany r_seed r_warms r_shutAt r_kinds0 r_figures r_airAt r_ways r_crowned r_sitsAt r_shawls r_isOn r_stepOf r_stepBy r_refusals r_letters r_placeIn r_letterOf r_numbers r_stepsRead r_stepsBy r_kept r_keptWarms r_i_imaged r_imagedWarms r_turns0 r_turnWarms0 r_turnOf r_turnWarms r_row0 r_gains r_pegSort r_pegMany r_pegHolds r_coats r_coatsMoved) := hD
  refine lv_iload_n hx hb dX7_moves_5 rfl (lv_at hl 1 rfl) ?_
  obtain ⟨x1, hy2, hf⟩ := dq_b hf
  refine ct_callS0 (own := RX7) (As := [.int n0]) (rest := []) ⟨hx, hb, hml, hown, hts⟩ (m_X7_isPeg l D y n0 x1 hy2) (va_cwS 1 hts (gA_S wl_987 wl_988 wl_5 wl_989) rfl rfl rfl (by decide +kernel) ⟨Nat.le_of_ble_eq_true rfl, Nat.le_of_ble_eq_true rfl⟩) rfl hl.1 rfl (Nat.le_of_ble_eq_true rfl) dX7_moves_6 ⟨Nat.zero_le _, Nat.zero_le _⟩ hK hP hD hS hA (fun H locs hP hD hS => ?_)
  refine lv_if_eq (tgt := 19) hx hb dX7_moves_9 (by decide) (fun c3 => ?_) (fun c3 => ?_)
  · have hf := dq_t hf c3
    clear c3
    refine lv_aload_n hx hb dX7_moves_19 rfl (lv_at hl 0 rfl) ?_
    refine lv_iconst (v := -1) hx hb dX7_moves_20 (by decide) ?_
    obtain ⟨x4, r_refusals_5, hy6, hf⟩ := dq_b2 hf
    refine ct_callV0 (ci := 6) (q0 := 0) (own := RX7) (As := [.int (-1 : Int32)]) (rest := []) (ws' := (w_X7 y a r_airs r_sitters r_stepMany r_today r_taken r_isStill (0 : Int32) r_letterMany r_at0 r_isBad r_statements r_stepsMany r_hasImage r_place0 r_isTaking r_keptIn r_turned r_rowMany r_seed r_warms r_shutAt r_kinds0 r_figures r_airAt r_ways r_crowned r_sitsAt r_shawls r_isOn r_stepOf r_stepBy r_refusals_5 r_letters r_placeIn r_letterOf r_numbers r_stepsRead r_stepsBy r_kept r_keptWarms r_i_imaged r_imagedWarms r_turns0 r_turnWarms0 r_turnOf r_turnWarms r_row0 r_gains r_pegSort r_pegMany r_pegHolds r_coats r_coatsMoved)) ⟨hx, hb, hml, hown, hts⟩ (m_X7_refuse l D y a r_airs r_sitters r_stepMany r_today r_taken r_isStill (0 : Int32) r_letterMany r_at0 r_isBad r_statements r_stepsMany r_hasImage r_place0 r_isTaking r_keptIn r_turned r_rowMany r_seed r_warms r_shutAt r_kinds0 r_figures r_airAt r_ways r_crowned r_sitsAt r_shawls r_isOn r_stepOf r_stepBy r_refusals r_letters r_placeIn r_letterOf r_numbers r_stepsRead r_stepsBy r_kept r_keptWarms r_i_imaged r_imagedWarms r_turns0 r_turnWarms0 r_turnOf r_turnWarms r_row0 r_gains r_pegSort r_pegMany r_pegHolds r_coats r_coatsMoved (-1 : Int32) x4 r_refusals_5 hy6) (cwV 1 hts (gA_V wl_133 wl_134 wl_135 wl_5 wl_136) rfl rfl rfl (by decide +kernel) ⟨Nat.le_of_ble_eq_true rfl, Nat.le_of_ble_eq_true rfl⟩) rfl rfl rfl hl.1 rfl (Nat.le_of_ble_eq_true rfl) dX7_moves_21 ⟨Nat.zero_le _, Nat.zero_le _⟩ hK hP hD hS hA (fun H locs hP hD hS => ?_)
    obtain ⟨rfl, rfl, rfl, rfl, rfl⟩ := dq_r5 hf
    exact ct_iret hx hb hr hlocks hAe hP hK hD hS dX7_moves_24
  · have hf := dq_f hf c3
    clear c3
    refine lv_iload_n hx hb dX7_moves_12 rfl (lv_at hl 3 rfl) ?_
    obtain ⟨x7, hy8, hf⟩ := dq_b hf
    refine ct_callS0 (own := RX7) (As := [.int n2]) (rest := []) ⟨hx, hb, hml, hown, hts⟩ (m_X7_isPeg l D y n2 x7 hy8) (va_cwS 1 hts (gA_S wl_987 wl_988 wl_5 wl_989) rfl rfl rfl (by decide +kernel) ⟨Nat.le_of_ble_eq_true rfl, Nat.le_of_ble_eq_true rfl⟩) rfl hl.1 rfl (Nat.le_of_ble_eq_true rfl) dX7_moves_13 ⟨Nat.zero_le _, Nat.zero_le _⟩ hK hP hD hS hA (fun H locs hP hD hS => ?_)
    refine lv_if_ne (tgt := 25) hx hb dX7_moves_16 (by decide) (fun c9 => ?_) (fun c9 => ?_)
    · have hf := dq_f hf c9
      clear c9
      refine lv_aload_n hx hb dX7_moves_25 rfl (lv_at hl 0 rfl) ?_
      refine va_get (D := D) (ci := 6) (v := .ref (a 32)) (C := RX7) (T := TX7) (N := 53) hx hb hts iwX7 hown hK hP 0 rfl rfl 49 (by decide) (hts _ wl_113) (fun _ h9 => h9) rfl dX7_moves_26 ?_
      refine lv_iload_n hx hb dX7_moves_29 rfl (lv_at hl 1 rfl) ?_
      obtain ⟨h10, hf⟩ := dq_g hf
      refine va_zald (cA := y 2) (n := 3) (f := r_pegHolds) hx hb hK hP 32 2 rfl rfl h10 dX7_moves_30 ?_
      refine lv_if_eq (tgt := 43) hx hb dX7_moves_31 (by decide) (fun c11 => ?_) (fun c11 => ?_)
      · have hf := dq_t hf c11
        clear c11
        refine lv_bipush (v := -11) hx hb dX7_moves_43 (by decide) ?_
        obtain ⟨rfl, rfl, rfl, rfl, rfl⟩ := dq_r5 hf
        exact ct_iret hx hb hr hlocks hAe hP hK hD hS dX7_moves_45
      · have hf := dq_f hf c11
        clear c11
        refine lv_aload_n hx hb dX7_moves_34 rfl (lv_at hl 0 rfl) ?_
        refine va_get (D := D) (ci := 6) (v := .ref (a 32)) (C := RX7) (T := TX7) (N := 53) hx hb hts iwX7 hown hK hP 0 rfl rfl 49 (by decide) (hts _ wl_113) (fun _ h9 => h9) rfl dX7_moves_35 ?_
        refine lv_iload_n hx hb dX7_moves_38 rfl (lv_at hl 3 rfl) ?_
        obtain ⟨h12, hf⟩ := dq_g hf
        refine va_zald (cA := y 2) (n := 3) (f := r_pegHolds) hx hb hK hP 32 2 rfl rfl h12 dX7_moves_39 ?_
        refine lv_if_ne (tgt := 46) hx hb dX7_moves_40 (by decide) (fun c13 => ?_) (fun c13 => ?_)
        · have hf := dq_f hf c13
          clear c13
          refine lv_iload hx hb dX7_moves_46 (lv_at hl 5 rfl) ?_
          refine lv_if_lt (tgt := 95) hx hb dX7_moves_48 (by decide) (fun c14 => ?_) (fun c14 => ?_)
          · have hf := dq_t hf c14
            clear c14
            refine lv_bipush (v := -13) hx hb dX7_moves_95 (by decide) ?_
            obtain ⟨rfl, rfl, rfl, rfl, rfl⟩ := dq_r5 hf
            exact ct_iret hx hb hr hlocks hAe hP hK hD hS dX7_moves_97
          · have hf := dq_f hf c14
            clear c14
            refine lv_iload_n hx hb dX7_moves_51 rfl (lv_at hl 2 rfl) ?_
            refine lv_if_lt (tgt := 95) hx hb dX7_moves_52 (by decide) (fun c15 => ?_) (fun c15 => ?_)
            · have hf := dq_t hf c15
              clear c15
              refine lv_bipush (v := -13) hx hb dX7_moves_95 (by decide) ?_
              obtain ⟨rfl, rfl, rfl, rfl, rfl⟩ := dq_r5 hf
              exact ct_iret hx hb hr hlocks hAe hP hK hD hS dX7_moves_97
            · have hf := dq_f hf c15
              clear c15
              refine lv_iload hx hb dX7_moves_55 (lv_at hl 4 rfl) ?_
              refine lv_if_lt (tgt := 95) hx hb dX7_moves_57 (by decide) (fun c16 => ?_) (fun c16 => ?_)
              · have hf := dq_t hf c16
                clear c16
                refine lv_bipush (v := -13) hx hb dX7_moves_95 (by decide) ?_
                obtain ⟨rfl, rfl, rfl, rfl, rfl⟩ := dq_r5 hf
                exact ct_iret hx hb hr hlocks hAe hP hK hD hS dX7_moves_97
              · have hf := dq_f hf c16
                clear c16
                refine lv_iload_n hx hb dX7_moves_60 rfl (lv_at hl 2 rfl) ?_
                refine lv_i2l hx hb dX7_moves_61 rfl ?_
                refine lv_iload hx hb dX7_moves_62 (lv_at hl 5 rfl) ?_
                refine lv_i2l hx hb dX7_moves_64 rfl ?_
                refine lv_ladd hx hb dX7_moves_65 ?_
                refine lv_aload_n hx hb dX7_moves_66 rfl (lv_at hl 0 rfl) ?_
                refine va_get (D := D) (ci := 6) (v := .ref (a 31)) (C := RX7) (T := TX7) (N := 53) hx hb hts iwX7 hown hK hP 0 rfl rfl 48 (by decide) (hts _ wl_111) (fun _ h9 => h9) rfl dX7_moves_67 ?_
                refine lv_iload_n hx hb dX7_moves_70 rfl (lv_at hl 1 rfl) ?_
                obtain ⟨h17, hf⟩ := dq_g hf
                refine va_iald (cA := y 1) (n := 3) (f := r_pegMany) hx hb hK hP 31 1 rfl rfl h17 dX7_moves_71 ?_
                refine lv_i2l hx hb dX7_moves_72 rfl ?_
                refine W.lcmp hx hb dX7_moves_73 ?_
                refine lv_if_gt (tgt := 95) hx hb dX7_moves_74 (by decide) (fun c18 => ?_) (fun c18 => ?_)
                · have hf := dq_t hf c18
                  clear c18
                  refine lv_bipush (v := -13) hx hb dX7_moves_95 (by decide) ?_
                  obtain ⟨rfl, rfl, rfl, rfl, rfl⟩ := dq_r5 hf
                  exact ct_iret hx hb hr hlocks hAe hP hK hD hS dX7_moves_97
                · have hf := dq_f hf c18
                  clear c18
                  refine lv_iload hx hb dX7_moves_77 (lv_at hl 4 rfl) ?_
                  refine lv_i2l hx hb dX7_moves_79 rfl ?_
                  refine lv_iload hx hb dX7_moves_80 (lv_at hl 5 rfl) ?_
                  refine lv_i2l hx hb dX7_moves_82 rfl ?_
                  refine lv_ladd hx hb dX7_moves_83 ?_
                  refine lv_aload_n hx hb dX7_moves_84 rfl (lv_at hl 0 rfl) ?_
                  refine va_get (D := D) (ci := 6) (v := .ref (a 31)) (C := RX7) (T := TX7) (N := 53) hx hb hts iwX7 hown hK hP 0 rfl rfl 48 (by decide) (hts _ wl_111) (fun _ h9 => h9) rfl dX7_moves_85 ?_
                  refine lv_iload_n hx hb dX7_moves_88 rfl (lv_at hl 3 rfl) ?_
                  obtain ⟨h19, hf⟩ := dq_g hf
                  refine va_iald (cA := y 1) (n := 3) (f := r_pegMany) hx hb hK hP 31 1 rfl rfl h19 dX7_moves_89 ?_
                  refine lv_i2l hx hb dX7_moves_90 rfl ?_
                  refine W.lcmp hx hb dX7_moves_91 ?_
                  refine lv_if_le (tgt := 98) hx hb dX7_moves_92 (by decide) (fun c20 => ?_) (fun c20 => ?_)
                  · have hf := dq_t hf c20
                    clear c20
                    refine lv_iconst (v := 0) hx hb dX7_moves_98 (by decide) ?_
                    refine lv_istore (lv' := [(6, .int (0 : Int32)), (0, .ref (a 0)), (1, .int n0), (2, .int n1), (3, .int n2), (4, .int n3), (5, .int n4)]) hx hb dX7_moves_99 hl (by decide) rfl (fun ls hl => ?_)
                    have J101 : ∀ (m101 : Nat) (x21 : Int32) (r_coatsMoved_22 : (Nat → Int32)), f_X7_moves_b101 n0 n1 n2 n3 n4 r_refusals r_pegSort r_coats m101 x21 r_coatsMoved_22 = some (z0, z1, z2, z3, z4) → ∀ (H : Heap) (locs : List Loc), va_P D vwCl (w_X7 y a r_airs r_sitters r_stepMany r_today r_taken r_isStill (0 : Int32) r_letterMany r_at0 r_isBad r_statements r_stepsMany r_hasImage r_place0 r_isTaking r_keptIn r_turned r_rowMany r_seed r_warms r_shutAt r_kinds0 r_figures r_airAt r_ways r_crowned r_sitsAt r_shawls r_isOn r_stepOf r_stepBy r_refusals r_letters r_placeIn r_letterOf r_numbers r_stepsRead r_stepsBy r_kept r_keptWarms r_i_imaged r_imagedWarms r_turns0 r_turnWarms0 r_turnOf r_turnWarms r_row0 r_gains r_pegSort r_pegMany r_pegHolds r_coats r_coatsMoved_22) H → va_D A (w_X7 y a r_airs r_sitters r_stepMany r_today r_taken r_isStill (0 : Int32) r_letterMany r_at0 r_isBad r_statements r_stepsMany r_hasImage r_place0 r_isTaking r_keptIn r_turned r_rowMany r_seed r_warms r_shutAt r_kinds0 r_figures r_airAt r_ways r_crowned r_sitsAt r_shawls r_isOn r_stepOf r_stepBy r_refusals r_letters r_placeIn r_letterOf r_numbers r_stepsRead r_stepsBy r_kept r_keptWarms r_i_imaged r_imagedWarms r_turns0 r_turnWarms0 r_turnOf r_turnWarms r_row0 r_gains r_pegSort r_pegMany r_pegHolds r_coats r_coatsMoved_22) → va_S A s.heap H locs → ∀ ls : Array Slot, lv_has ls 7 [(0, .ref (a 0)), (1, .int n0), (2, .int n1), (3, .int n2), (4, .int n3), (5, .int n4), (6, .int x21)] → W p l e ({ frames := 2, cells := 0, slots := 0, locals := 45 } : Room) s m [.ref (a 0), .int n0, .int n1, .int n2, .int n3, .int n4].toArray below meth c H locs 0 0 (MQ below (dQ D y (some (.int z0)) s.heap.size (w_X7 y a r_airs r_sitters r_stepMany r_today r_taken r_isStill r_thrown r_letterMany r_at0 r_isBad r_statements r_stepsMany r_hasImage r_place0 r_isTaking r_keptIn r_turned r_rowMany r_seed r_warms r_shutAt r_kinds0 r_figures r_airAt r_ways r_crowned r_sitsAt r_shawls r_isOn r_stepOf r_stepBy r_refusals r_letters r_placeIn r_letterOf r_numbers r_stepsRead r_stepsBy r_kept r_keptWarms r_i_imaged r_imagedWarms r_turns0 r_turnWarms0 r_turnOf r_turnWarms r_row0 r_gains r_pegSort r_pegMany r_pegHolds r_coats r_coatsMoved) (w_X7 y a r_airs r_sitters r_stepMany r_today r_taken r_isStill z1 r_letterMany r_at0 r_isBad r_statements r_stepsMany r_hasImage r_place0 r_isTaking r_keptIn r_turned r_rowMany r_seed r_warms r_shutAt r_kinds0 r_figures r_airAt r_ways r_crowned r_sitsAt r_shawls r_isOn r_stepOf r_stepBy z2 r_letters r_placeIn r_letterOf r_numbers r_stepsRead r_stepsBy r_kept r_keptWarms r_i_imaged r_imagedWarms r_turns0 r_turnWarms0 r_turnOf r_turnWarms r_row0 r_gains r_pegSort r_pegMany r_pegHolds z3 z4)) [.ref (a 0), .int n0, .int n1, .int n2, .int n3, .int n4].toArray s 0 0 A) (F0 m 101 ls []) := by
                      intro m101
                      induction m101 with
                      | zero => intro x21 r_coatsMoved_22 hf; exact absurd hf (by unfold f_X7_moves_b101; exact fun h => by cases h)
                      | succ m101 I101 =>
                        intro x21 r_coatsMoved_22 hf H locs hP hD hS ls hl
                        unfold f_X7_moves_b101 at hf
                        refine lv_iload hx hb dX7_moves_101 (lv_at hl 6 rfl) ?_
                        refine lv_iload hx hb dX7_moves_103 (lv_at hl 5 rfl) ?_
                        refine lv_icmp_ge (tgt := 135) hx hb dX7_moves_105 (by decide) (fun c23 => ?_) (fun c23 => ?_)
                        · have hf := dq_t hf c23
                          clear c23
                          refine lv_iconst (v := 0) hx hb dX7_moves_135 (by decide) ?_
                          refine lv_istore (lv' := [(6, .int (0 : Int32)), (0, .ref (a 0)), (1, .int n0), (2, .int n1), (3, .int n2), (4, .int n3), (5, .int n4)]) hx hb dX7_moves_136 hl (by decide) rfl (fun ls hl => ?_)
                          have J138 : ∀ (m138 : Nat) (x24 : Int32) (r_coats_25 : (Nat → Int32)), f_X7_moves_b138 n2 n3 n4 r_refusals r_pegSort r_coatsMoved_22 m138 x24 r_coats_25 = some (z0, z1, z2, z3, z4) → ∀ (H : Heap) (locs : List Loc), va_P D vwCl (w_X7 y a r_airs r_sitters r_stepMany r_today r_taken r_isStill (0 : Int32) r_letterMany r_at0 r_isBad r_statements r_stepsMany r_hasImage r_place0 r_isTaking r_keptIn r_turned r_rowMany r_seed r_warms r_shutAt r_kinds0 r_figures r_airAt r_ways r_crowned r_sitsAt r_shawls r_isOn r_stepOf r_stepBy r_refusals r_letters r_placeIn r_letterOf r_numbers r_stepsRead r_stepsBy r_kept r_keptWarms r_i_imaged r_imagedWarms r_turns0 r_turnWarms0 r_turnOf r_turnWarms r_row0 r_gains r_pegSort r_pegMany r_pegHolds r_coats_25 r_coatsMoved_22) H → va_D A (w_X7 y a r_airs r_sitters r_stepMany r_today r_taken r_isStill (0 : Int32) r_letterMany r_at0 r_isBad r_statements r_stepsMany r_hasImage r_place0 r_isTaking r_keptIn r_turned r_rowMany r_seed r_warms r_shutAt r_kinds0 r_figures r_airAt r_ways r_crowned r_sitsAt r_shawls r_isOn r_stepOf r_stepBy r_refusals r_letters r_placeIn r_letterOf r_numbers r_stepsRead r_stepsBy r_kept r_keptWarms r_i_imaged r_imagedWarms r_turns0 r_turnWarms0 r_turnOf r_turnWarms r_row0 r_gains r_pegSort r_pegMany r_pegHolds r_coats_25 r_coatsMoved_22) → va_S A s.heap H locs → ∀ ls : Array Slot, lv_has ls 7 [(0, .ref (a 0)), (3, .int n2), (4, .int n3), (5, .int n4), (6, .int x24)] → W p l e ({ frames := 2, cells := 0, slots := 0, locals := 45 } : Room) s m [.ref (a 0), .int n0, .int n1, .int n2, .int n3, .int n4].toArray below meth c H locs 0 0 (MQ below (dQ D y (some (.int z0)) s.heap.size (w_X7 y a r_airs r_sitters r_stepMany r_today r_taken r_isStill r_thrown r_letterMany r_at0 r_isBad r_statements r_stepsMany r_hasImage r_place0 r_isTaking r_keptIn r_turned r_rowMany r_seed r_warms r_shutAt r_kinds0 r_figures r_airAt r_ways r_crowned r_sitsAt r_shawls r_isOn r_stepOf r_stepBy r_refusals r_letters r_placeIn r_letterOf r_numbers r_stepsRead r_stepsBy r_kept r_keptWarms r_i_imaged r_imagedWarms r_turns0 r_turnWarms0 r_turnOf r_turnWarms r_row0 r_gains r_pegSort r_pegMany r_pegHolds r_coats r_coatsMoved) (w_X7 y a r_airs r_sitters r_stepMany r_today r_taken r_isStill z1 r_letterMany r_at0 r_isBad r_statements r_stepsMany r_hasImage r_place0 r_isTaking r_keptIn r_turned r_rowMany r_seed r_warms r_shutAt r_kinds0 r_figures r_airAt r_ways r_crowned r_sitsAt r_shawls r_isOn r_stepOf r_stepBy z2 r_letters r_placeIn r_letterOf r_numbers r_stepsRead r_stepsBy r_kept r_keptWarms r_i_imaged r_imagedWarms r_turns0 r_turnWarms0 r_turnOf r_turnWarms r_row0 r_gains r_pegSort r_pegMany r_pegHolds z3 z4)) [.ref (a 0), .int n0, .int n1, .int n2, .int n3, .int n4].toArray s 0 0 A) (F0 m 138 ls []) := by
                            intro m138
                            induction m138 with
                            | zero => intro x24 r_coats_25 hf; exact absurd hf (by unfold f_X7_moves_b138; exact fun h => by cases h)
                            | succ m138 I138 =>
                              intro x24 r_coats_25 hf H locs hP hD hS ls hl
                              unfold f_X7_moves_b138 at hf
                              refine lv_iload hx hb dX7_moves_138 (lv_at hl 4 rfl) ?_
                              refine lv_iload hx hb dX7_moves_140 (lv_at hl 3 rfl) ?_
                              refine lv_icmp_ge (tgt := 191) hx hb dX7_moves_142 (by decide) (fun c26 => ?_) (fun c26 => ?_)
                              · have hf := dq_t hf c26
                                clear c26
                                refine lv_iload hx hb dX7_moves_191 (lv_at hl 3 rfl) ?_
                                obtain ⟨rfl, rfl, rfl, rfl, rfl⟩ := dq_r5 hf
                                exact ct_iret hx hb hr hlocks hAe hP hK hD hS dX7_moves_193
                              · have hf := dq_f hf c26
                                clear c26
                                refine lv_aload_n hx hb dX7_moves_145 rfl (lv_at hl 0 rfl) ?_
                                refine lv_iload_n hx hb dX7_moves_146 rfl (lv_at hl 1 rfl) ?_
                                refine lv_aload_n hx hb dX7_moves_147 rfl (lv_at hl 0 rfl) ?_
                                refine va_get (D := D) (ci := 6) (v := .ref (a 34)) (C := RX7) (T := TX7) (N := 53) hx hb hts iwX7 hown hK hP 0 rfl rfl 51 (by decide) (hts _ wl_115) (fun _ h9 => h9) rfl dX7_moves_148 ?_
                                refine lv_iload hx hb dX7_moves_151 (lv_at hl 4 rfl) ?_
                                obtain ⟨h27, hf⟩ := dq_g hf
                                refine va_iald (cA := y 1) (n := 12) (f := r_coatsMoved_22) hx hb hK hP 34 1 rfl rfl h27 dX7_moves_153 ?_
                                obtain ⟨x28, hy29, hf⟩ := dq_b hf
                                refine ct_callV0 (ci := 6) (q0 := 0) (own := RX7) (As := [.int n2, .int (r_coatsMoved_22 x24.toNatClampNeg)]) (rest := []) (ws' := (w_X7 y a r_airs r_sitters r_stepMany r_today r_taken r_isStill (0 : Int32) r_letterMany r_at0 r_isBad r_statements r_stepsMany r_hasImage r_place0 r_isTaking r_keptIn r_turned r_rowMany r_seed r_warms r_shutAt r_kinds0 r_figures r_airAt r_ways r_crowned r_sitsAt r_shawls r_isOn r_stepOf r_stepBy r_refusals r_letters r_placeIn r_letterOf r_numbers r_stepsRead r_stepsBy r_kept r_keptWarms r_i_imaged r_imagedWarms r_turns0 r_turnWarms0 r_turnOf r_turnWarms r_row0 r_gains r_pegSort r_pegMany r_pegHolds r_coats_25 r_coatsMoved_22)) ⟨hx, hb, hml, hown, hts⟩ (m_X7_takes l D y a r_airs r_sitters r_stepMany r_today r_taken r_isStill (0 : Int32) r_letterMany r_at0 r_isBad r_statements r_stepsMany r_hasImage r_place0 r_isTaking r_keptIn r_turned r_rowMany r_seed r_warms r_shutAt r_kinds0 r_figures r_airAt r_ways r_crowned r_sitsAt r_shawls r_isOn r_stepOf r_stepBy r_refusals r_letters r_placeIn r_letterOf r_numbers r_stepsRead r_stepsBy r_kept r_keptWarms r_i_imaged r_imagedWarms r_turns0 r_turnWarms0 r_turnOf r_turnWarms r_row0 r_gains r_pegSort r_pegMany r_pegHolds r_coats_25 r_coatsMoved_22 n2 (r_coatsMoved_22 x24.toNatClampNeg) x28 hy29) (cwV 2 hts (gA_V wl_1018 wl_1019 wl_1020 wl_5 wl_1021) rfl rfl rfl (by decide +kernel) ⟨Nat.le_of_ble_eq_true rfl, Nat.le_of_ble_eq_true rfl⟩) rfl rfl rfl hl.1 rfl (Nat.le_of_ble_eq_true rfl) dX7_moves_154 ⟨Nat.zero_le _, Nat.zero_le _⟩ hK hP hD hS hA (fun H locs hP hD hS => ?_)
                                refine lv_if_ne (tgt := 163) hx hb dX7_moves_157 (by decide) (fun c30 => ?_) (fun c30 => ?_)
                                · have hf := dq_f hf c30
                                  clear c30
                                  refine lv_aload_n hx hb dX7_moves_163 rfl (lv_at hl 0 rfl) ?_
                                  refine va_get (D := D) (ci := 6) (v := .ref (a 33)) (C := RX7) (T := TX7) (N := 53) hx hb hts iwX7 hown hK hP 0 rfl rfl 50 (by decide) (hts _ wl_114) (fun _ h9 => h9) rfl dX7_moves_164 ?_
                                  refine lv_bipush (v := 12) hx hb dX7_moves_167 (by decide) ?_
                                  refine lv_iload_n hx hb dX7_moves_169 rfl (lv_at hl 1 rfl) ?_
                                  refine lv_imul hx hb dX7_moves_170 ?_
                                  refine lv_iload hx hb dX7_moves_171 (lv_at hl 2 rfl) ?_
                                  refine lv_iadd hx hb dX7_moves_173 ?_
                                  refine lv_iload hx hb dX7_moves_174 (lv_at hl 4 rfl) ?_
                                  refine lv_iadd hx hb dX7_moves_176 ?_
                                  refine lv_aload_n hx hb dX7_moves_177 rfl (lv_at hl 0 rfl) ?_
                                  refine va_get (D := D) (ci := 6) (v := .ref (a 34)) (C := RX7) (T := TX7) (N := 53) hx hb hts iwX7 hown hK hP 0 rfl rfl 51 (by decide) (hts _ wl_115) (fun _ h9 => h9) rfl dX7_moves_178 ?_
                                  refine lv_iload hx hb dX7_moves_181 (lv_at hl 4 rfl) ?_
                                  obtain ⟨h31, hf⟩ := dq_g hf
                                  refine va_iald (cA := y 1) (n := 12) (f := r_coatsMoved_22) hx hb hK hP 34 1 rfl rfl h31 dX7_moves_183 ?_
                                  obtain ⟨h32, hf⟩ := dq_g hf
                                  refine dq_iast (cA := y 1) (n := 36) (f := r_coats_25) hx hb hK hP hD hS 33 1 rfl rfl h32 dX7_moves_184 (fun r_coats_33 er_coats_33 H locs hP hD hS => ?_)
                                  have hf := dq_l hf r_coats_33 er_coats_33
                                  clear er_coats_33
                                  have hP : va_P D vwCl (w_X7 y a r_airs r_sitters r_stepMany r_today r_taken r_isStill (0 : Int32) r_letterMany r_at0 r_isBad r_statements r_stepsMany r_hasImage r_place0 r_isTaking r_keptIn r_turned r_rowMany r_seed r_warms r_shutAt r_kinds0 r_figures r_airAt r_ways r_crowned r_sitsAt r_shawls r_isOn r_stepOf r_stepBy r_refusals r_letters r_placeIn r_letterOf r_numbers r_stepsRead r_stepsBy r_kept r_keptWarms r_i_imaged r_imagedWarms r_turns0 r_turnWarms0 r_turnOf r_turnWarms r_row0 r_gains r_pegSort r_pegMany r_pegHolds r_coats_33 r_coatsMoved_22) H := hP
                                  have hD : va_D A (w_X7 y a r_airs r_sitters r_stepMany r_today r_taken r_isStill (0 : Int32) r_letterMany r_at0 r_isBad r_statements r_stepsMany r_hasImage r_place0 r_isTaking r_keptIn r_turned r_rowMany r_seed r_warms r_shutAt r_kinds0 r_figures r_airAt r_ways r_crowned r_sitsAt r_shawls r_isOn r_stepOf r_stepBy r_refusals r_letters r_placeIn r_letterOf r_numbers r_stepsRead r_stepsBy r_kept r_keptWarms r_i_imaged r_imagedWarms r_turns0 r_turnWarms0 r_turnOf r_turnWarms r_row0 r_gains r_pegSort r_pegMany r_pegHolds r_coats_33 r_coatsMoved_22) := hD
                                  obtain ⟨x34, ex34⟩ : ∃ z : Int32, z = (x24 + (1 : Int32)) := ⟨_, rfl⟩
                                  have hf := dq_l hf x34 ex34
                                  refine lv_iinc (v := x34) (lv' := [(6, .int x34), (0, .ref (a 0)), (3, .int n2), (4, .int n3), (5, .int n4)]) hx hb dX7_moves_185 hl (k := 4) rfl (by rw [ex34]; rfl) (by decide) rfl (fun ls hl => ?_)
                                  clear ex34
                                  refine lv_goto (tgt := 138) hx hb dX7_moves_188 (by decide) ?_
                                  exact I138 _ _ hf _ _ hP hD hS _ (lv_sub hl [1, 2, 3, 4, 0] rfl)
                                · have hf := dq_t hf c30
                                  clear c30
                                  refine lv_bipush (v := -12) hx hb dX7_moves_160 (by decide) ?_
                                  obtain ⟨rfl, rfl, rfl, rfl, rfl⟩ := dq_r5 hf
                                  exact ct_iret hx hb hr hlocks hAe hP hK hD hS dX7_moves_162
                          exact J138 4096 _ _ hf _ _ hP hD hS _ (lv_sub hl [1, 4, 5, 6, 0] rfl)
                        · have hf := dq_f hf c23
                          clear c23
                          refine lv_aload_n hx hb dX7_moves_108 rfl (lv_at hl 0 rfl) ?_
                          refine va_get (D := D) (ci := 6) (v := .ref (a 34)) (C := RX7) (T := TX7) (N := 53) hx hb hts iwX7 hown hK hP 0 rfl rfl 51 (by decide) (hts _ wl_115) (fun _ h9 => h9) rfl dX7_moves_109 ?_
                          refine lv_iload hx hb dX7_moves_112 (lv_at hl 6 rfl) ?_
                          refine lv_aload_n hx hb dX7_moves_114 rfl (lv_at hl 0 rfl) ?_
                          refine va_get (D := D) (ci := 6) (v := .ref (a 33)) (C := RX7) (T := TX7) (N := 53) hx hb hts iwX7 hown hK hP 0 rfl rfl 50 (by decide) (hts _ wl_114) (fun _ h9 => h9) rfl dX7_moves_115 ?_
                          refine lv_bipush (v := 12) hx hb dX7_moves_118 (by decide) ?_
                          refine lv_iload_n hx hb dX7_moves_120 rfl (lv_at hl 1 rfl) ?_
                          refine lv_imul hx hb dX7_moves_121 ?_
                          refine lv_iload_n hx hb dX7_moves_122 rfl (lv_at hl 2 rfl) ?_
                          refine lv_iadd hx hb dX7_moves_123 ?_
                          refine lv_iload hx hb dX7_moves_124 (lv_at hl 6 rfl) ?_
                          refine lv_iadd hx hb dX7_moves_126 ?_
                          obtain ⟨h35, hf⟩ := dq_g hf
                          refine va_iald (cA := y 1) (n := 36) (f := r_coats) hx hb hK hP 33 1 rfl rfl h35 dX7_moves_127 ?_
                          obtain ⟨h36, hf⟩ := dq_g hf
                          refine dq_iast (cA := y 1) (n := 12) (f := r_coatsMoved_22) hx hb hK hP hD hS 34 1 rfl rfl h36 dX7_moves_128 (fun r_coatsMoved_37 er_coatsMoved_37 H locs hP hD hS => ?_)
                          have hf := dq_l hf r_coatsMoved_37 er_coatsMoved_37
                          clear er_coatsMoved_37
                          have hP : va_P D vwCl (w_X7 y a r_airs r_sitters r_stepMany r_today r_taken r_isStill (0 : Int32) r_letterMany r_at0 r_isBad r_statements r_stepsMany r_hasImage r_place0 r_isTaking r_keptIn r_turned r_rowMany r_seed r_warms r_shutAt r_kinds0 r_figures r_airAt r_ways r_crowned r_sitsAt r_shawls r_isOn r_stepOf r_stepBy r_refusals r_letters r_placeIn r_letterOf r_numbers r_stepsRead r_stepsBy r_kept r_keptWarms r_i_imaged r_imagedWarms r_turns0 r_turnWarms0 r_turnOf r_turnWarms r_row0 r_gains r_pegSort r_pegMany r_pegHolds r_coats r_coatsMoved_37) H := hP
                          have hD : va_D A (w_X7 y a r_airs r_sitters r_stepMany r_today r_taken r_isStill (0 : Int32) r_letterMany r_at0 r_isBad r_statements r_stepsMany r_hasImage r_place0 r_isTaking r_keptIn r_turned r_rowMany r_seed r_warms r_shutAt r_kinds0 r_figures r_airAt r_ways r_crowned r_sitsAt r_shawls r_isOn r_stepOf r_stepBy r_refusals r_letters r_placeIn r_letterOf r_numbers r_stepsRead r_stepsBy r_kept r_keptWarms r_i_imaged r_imagedWarms r_turns0 r_turnWarms0 r_turnOf r_turnWarms r_row0 r_gains r_pegSort r_pegMany r_pegHolds r_coats r_coatsMoved_37) := hD
                          obtain ⟨x38, ex38⟩ : ∃ z : Int32, z = (x21 + (1 : Int32)) := ⟨_, rfl⟩
                          have hf := dq_l hf x38 ex38
                          refine lv_iinc (v := x38) (lv' := [(6, .int x38), (0, .ref (a 0)), (1, .int n0), (2, .int n1), (3, .int n2), (4, .int n3), (5, .int n4)]) hx hb dX7_moves_129 hl (k := 6) rfl (by rw [ex38]; rfl) (by decide) rfl (fun ls hl => ?_)
                          clear ex38
                          refine lv_goto (tgt := 101) hx hb dX7_moves_132 (by decide) ?_
                          exact I101 _ _ hf _ _ hP hD hS _ (lv_sub hl [1, 2, 3, 4, 5, 6, 0] rfl)
                    exact J101 4096 _ _ hf _ _ hP hD hS _ (lv_sub hl [1, 2, 3, 4, 5, 6, 0] rfl)
                  · have hf := dq_f hf c20
                    clear c20
                    refine lv_bipush (v := -13) hx hb dX7_moves_95 (by decide) ?_
                    obtain ⟨rfl, rfl, rfl, rfl, rfl⟩ := dq_r5 hf
                    exact ct_iret hx hb hr hlocks hAe hP hK hD hS dX7_moves_97
        · have hf := dq_t hf c13
          clear c13
          refine lv_bipush (v := -11) hx hb dX7_moves_43 (by decide) ?_
          obtain ⟨rfl, rfl, rfl, rfl, rfl⟩ := dq_r5 hf
          exact ct_iret hx hb hr hlocks hAe hP hK hD hS dX7_moves_45
    · have hf := dq_t hf c9
      clear c9
      refine lv_aload_n hx hb dX7_moves_19 rfl (lv_at hl 0 rfl) ?_
      refine lv_iconst (v := -1) hx hb dX7_moves_20 (by decide) ?_
      obtain ⟨x39, r_refusals_40, hy41, hf⟩ := dq_b2 hf
      refine ct_callV0 (ci := 6) (q0 := 0) (own := RX7) (As := [.int (-1 : Int32)]) (rest := []) (ws' := (w_X7 y a r_airs r_sitters r_stepMany r_today r_taken r_isStill (0 : Int32) r_letterMany r_at0 r_isBad r_statements r_stepsMany r_hasImage r_place0 r_isTaking r_keptIn r_turned r_rowMany r_seed r_warms r_shutAt r_kinds0 r_figures r_airAt r_ways r_crowned r_sitsAt r_shawls r_isOn r_stepOf r_stepBy r_refusals_40 r_letters r_placeIn r_letterOf r_numbers r_stepsRead r_stepsBy r_kept r_keptWarms r_i_imaged r_imagedWarms r_turns0 r_turnWarms0 r_turnOf r_turnWarms r_row0 r_gains r_pegSort r_pegMany r_pegHolds r_coats r_coatsMoved)) ⟨hx, hb, hml, hown, hts⟩ (m_X7_refuse l D y a r_airs r_sitters r_stepMany r_today r_taken r_isStill (0 : Int32) r_letterMany r_at0 r_isBad r_statements r_stepsMany r_hasImage r_place0 r_isTaking r_keptIn r_turned r_rowMany r_seed r_warms r_shutAt r_kinds0 r_figures r_airAt r_ways r_crowned r_sitsAt r_shawls r_isOn r_stepOf r_stepBy r_refusals r_letters r_placeIn r_letterOf r_numbers r_stepsRead r_stepsBy r_kept r_keptWarms r_i_imaged r_imagedWarms r_turns0 r_turnWarms0 r_turnOf r_turnWarms r_row0 r_gains r_pegSort r_pegMany r_pegHolds r_coats r_coatsMoved (-1 : Int32) x39 r_refusals_40 hy41) (cwV 1 hts (gA_V wl_133 wl_134 wl_135 wl_5 wl_136) rfl rfl rfl (by decide +kernel) ⟨Nat.le_of_ble_eq_true rfl, Nat.le_of_ble_eq_true rfl⟩) rfl rfl rfl hl.1 rfl (Nat.le_of_ble_eq_true rfl) dX7_moves_21 ⟨Nat.zero_le _, Nat.zero_le _⟩ hK hP hD hS hA (fun H locs hP hD hS => ?_)
      obtain ⟨rfl, rfl, rfl, rfl, rfl⟩ := dq_r5 hf
      exact ct_iret hx hb hr hlocks hAe hP hK hD hS dX7_moves_24
noncomputable def f_X7_row_b32 (n0 : Int32) (r_rowMany : Int32) (r_refusals : (Nat → Int32)) (r_row0 : (Nat → Int32))  (x3 : Int32) : Option (Int32 × Int32 × Int32 × (Nat → Int32) × (Nat → Int32)) := dq_if (0 ≤ x3) (dq_gd (vp_in r_rowMany 12) (dq_let (upd r_row0 r_rowMany.toNatClampNeg n0) (fun (r_row0_6 : (Nat → Int32)) => dq_let (r_rowMany + (1 : Int32)) (fun (x7 : Int32) => some (x7, (0 : Int32), x7, r_refusals, r_row0_6))))) (dq_bd2 (f_X7_refuse r_refusals x3) (fun (x8 : Int32) (r_refusals_9 : (Nat → Int32)) => some (x8, (0 : Int32), r_rowMany, r_refusals_9, r_row0)))
noncomputable def f_X7_row (r_rowMany : Int32) (r_refusals : (Nat → Int32)) (r_row0 : (Nat → Int32)) (n0 : Int32) : Option (Int32 × Int32 × Int32 × (Nat → Int32) × (Nat → Int32)) := dq_bd (f_X7_wrongNumber n0 (0 : Int32) (99 : Int32)) (fun (x1 : Int32) => dq_if (x1 = 0) (dq_if (r_rowMany = (12 : Int32)) (f_X7_row_b32 n0 r_rowMany r_refusals r_row0 (-6 : Int32)) (f_X7_row_b32 n0 r_rowMany r_refusals r_row0 x1)) (f_X7_row_b32 n0 r_rowMany r_refusals r_row0 x1))
def wA_X7_row : List Cond := .code yX7_row cX7_row 3 (some .int) :: wsL_law
-- DraughtsTakeModel.row(I)I
set_option maxHeartbeats 4000000 in
set_option maxRecDepth 100000 in
theorem m_X7_row (l : Launch) (D : va_G) (y : Nat → ClassId) (a : (Nat → Nat)) (r_airs : Int32) (r_sitters : Int32) (r_stepMany : Int32) (r_today : Int32) (r_taken : Int32) (r_isStill : Int32) (r_thrown : Int32) (r_letterMany : Int32) (r_at0 : Int32) (r_isBad : Int32) (r_statements : Int32) (r_stepsMany : Int32) (r_hasImage : Int32) (r_place0 : Int32) (r_isTaking : Int32) (r_keptIn : Value) (r_turned : Int32) (r_rowMany : Int32) (r_seed : Int32) (r_warms : (Nat → UInt32)) (r_shutAt : (Nat → Int32)) (r_kinds0 : (Nat → Int32)) (r_figures : (Nat → Int32)) (r_airAt : (Nat → Int32)) (r_ways : (Nat → Int32)) (r_crowned : (Nat → Int32)) (r_sitsAt : (Nat → Int32)) (r_shawls : (Nat → Int32)) (r_isOn : (Nat → Int32)) (r_stepOf : (Nat → Int32)) (r_stepBy : (Nat → Int32)) (r_refusals : (Nat → Int32)) (r_letters : (Nat → Int32)) (r_placeIn : (Nat → Int32)) (r_letterOf : (Nat → Int32)) (r_numbers : (Nat → Int32)) (r_stepsRead : (Nat → Int32)) (r_stepsBy : (Nat → Int32)) (r_kept : (Nat → Int32)) (r_keptWarms : (Nat → UInt32)) (r_i_imaged : (Nat → Int32)) (r_imagedWarms : (Nat → UInt32)) (r_turns0 : (Nat → Int32)) (r_turnWarms0 : (Nat → UInt32)) (r_turnOf : (Nat → Int32)) (r_turnWarms : (Nat → UInt32)) (r_row0 : (Nat → Int32)) (r_gains : (Nat → Int32)) (r_pegSort : (Nat → Int32)) (r_pegMany : (Nat → Int32)) (r_pegHolds : (Nat → Int32)) (r_coats : (Nat → Int32)) (r_coatsMoved : (Nat → Int32)) (n0 : Int32) (z0 : Int32) (z1 : Int32) (z2 : Int32) (z3 : (Nat → Int32)) (z4 : (Nat → Int32)) (hf : f_X7_row r_rowMany r_refusals r_row0 n0 = some (z0, z1, z2, z3, z4)) : Ct l D y yX7_row wA_X7_row 1 22 [.ref (a 0), .int n0] (w_X7 y a r_airs r_sitters r_stepMany r_today r_taken r_isStill r_thrown r_letterMany r_at0 r_isBad r_statements r_stepsMany r_hasImage r_place0 r_isTaking r_keptIn r_turned r_rowMany r_seed r_warms r_shutAt r_kinds0 r_figures r_airAt r_ways r_crowned r_sitsAt r_shawls r_isOn r_stepOf r_stepBy r_refusals r_letters r_placeIn r_letterOf r_numbers r_stepsRead r_stepsBy r_kept r_keptWarms r_i_imaged r_imagedWarms r_turns0 r_turnWarms0 r_turnOf r_turnWarms r_row0 r_gains r_pegSort r_pegMany r_pegHolds r_coats r_coatsMoved) (w_X7 y a r_airs r_sitters r_stepMany r_today r_taken r_isStill z1 r_letterMany r_at0 r_isBad r_statements r_stepsMany r_hasImage r_place0 r_isTaking r_keptIn r_turned z2 r_seed r_warms r_shutAt r_kinds0 r_figures r_airAt r_ways r_crowned r_sitsAt r_shawls r_isOn r_stepOf r_stepBy z3 r_letters r_placeIn r_letterOf r_numbers r_stepsRead r_stepsBy r_kept r_keptWarms r_i_imaged r_imagedWarms r_turns0 r_turnWarms0 r_turnOf r_turnWarms z4 r_gains r_pegSort r_pegMany r_pegHolds r_coats r_coatsMoved) (some (.int z0)) := by
  refine ct_head (cc := cX7_row) (n := 3) (ret := (some .int)) (by decide) rfl (Nat.le_of_ble_eq_true rfl) ?_
  intro p e s m below meth c A ls hx hb hr hml hown hlocks hts hA hAe hP hK hD hl
  have hS : va_S A s.heap s.heap [] := va_S.rf
  have hl : lv_has ls 3 [(0, .ref (a 0)), (1, .int n0)] := hl
  have hown : s.vm.findClass RX7 = some m.cls := hown
  have hts : ∀ w ∈ wsL_law, w.before [.ref (a 0), .int n0].toArray s = true := fun w h => hts w (List.mem_cons_of_mem _ h)
  unfold f_X7_row at hf
  refine lv_aload_n hx hb dX7_row_0 rfl (lv_at hl 0 rfl) ?_
  refine lv_iconst (v := 0) hx hb dX7_row_1 (by decide) ?_
  refine va_put (D := D) (ci := 6) (v := .int (0 : Int32)) (ty := .int) (C := RX7) (T := TX7) (N := 53) hx hb hts iwX7 tyX7 tyX7_ok nmX7 hown hK hP hD hS 0 rfl rfl 18 (by decide) (hts _ wl_116) (fun _ h9 => h9) rfl (tyX7_ok 18 (by decide)) rfl rfl (Nat.le_of_ble_eq_true rfl) dX7_row_2 (fun H locs hP hD hS => ?_)
  have hP : va_P D vwCl (w_X7 y a r_airs r_sitters r_stepMany r_today r_taken r_isStill (0 : Int32) r_letterMany r_at0 r_isBad r_statements r_stepsMany r_hasImage r_place0 r_isTaking r_keptIn r_turned r_rowMany r_seed r_warms r_shutAt r_kinds0 r_figures r_airAt r_ways r_crowned r_sitsAt r_shawls r_isOn r_stepOf r_stepBy r_refusals r_letters r_placeIn r_letterOf r_numbers r_stepsRead r_stepsBy r_kept r_keptWarms r_i_imaged r_imagedWarms r_turns0 r_turnWarms0 r_turnOf r_turnWarms r_row0 r_gains r_pegSort r_pegMany r_pegHolds r_coats r_coatsMoved) H := hP
  have hD : va_D A (w_X7 y a r_airs r_sitters r_stepMany r_today r_taken r_isStill (0 : Int32) r_letterMany r_at0 r_isBad r_statements r_stepsMany r_hasImage r_place0 r_isTaking r_keptIn r_turned r_rowMany r_seed r_warms r_shutAt r_kinds0 r_figures r_airAt r_ways r_crowned r_sitsAt r_shawls r_isOn r_stepOf r_stepBy r_refusals r_letters r_placeIn r_letterOf r_numbers r_stepsRead r_stepsBy r_kept r_keptWarms r_i_imaged r_imagedWarms r_turns0 r_turnWarms0 r_turnOf r_turnWarms r_row0 r_gains r_pegSort r_pegMany r_pegHolds r_coats r_coatsMoved) := hD
  refine lv_iload_n hx hb dX7_row_5 rfl (lv_at hl 1 rfl) ?_
  refine lv_iconst (v := 0) hx hb dX7_row_6 (by decide) ?_
  refine lv_bipush (v := 99) hx hb dX7_row_7 (by decide) ?_
  obtain ⟨x1, hy2, hf⟩ := dq_b hf
  refine ct_callS0 (own := RX7) (As := [.int n0, .int (0 : Int32), .int (99 : Int32)]) (rest := []) ⟨hx, hb, hml, hown, hts⟩ (m_X7_wrongNumber l D y n0 (0 : Int32) (99 : Int32) x1 hy2) (va_cwS 3 hts (gA_S wl_695 wl_696 wl_5 wl_697) rfl rfl rfl (by decide +kernel) ⟨Nat.le_of_ble_eq_true rfl, Nat.le_of_ble_eq_true rfl⟩) rfl hl.1 rfl (Nat.le_of_ble_eq_true rfl) dX7_row_9 ⟨Nat.zero_le _, Nat.zero_le _⟩ hK hP hD hS hA (fun H locs hP hD hS => ?_)
  refine lv_istore_n (lv' := [(2, .int x1), (0, .ref (a 0)), (1, .int n0)]) hx hb dX7_row_12 rfl hl (by decide) rfl (fun ls hl => ?_)
  refine lv_iload_n hx hb dX7_row_13 rfl (lv_at hl 0 rfl) ?_
  have J32 : ∀ (x3 : Int32), f_X7_row_b32 n0 r_rowMany r_refusals r_row0 x3 = some (z0, z1, z2, z3, z4) → ∀ (H : Heap) (locs : List Loc), va_P D vwCl (w_X7 y a r_airs r_sitters r_stepMany r_today r_taken r_isStill (0 : Int32) r_letterMany r_at0 r_isBad r_statements r_stepsMany r_hasImage r_place0 r_isTaking r_keptIn r_turned r_rowMany r_seed r_warms r_shutAt r_kinds0 r_figures r_airAt r_ways r_crowned r_sitsAt r_shawls r_isOn r_stepOf r_stepBy r_refusals r_letters r_placeIn r_letterOf r_numbers r_stepsRead r_stepsBy r_kept r_keptWarms r_i_imaged r_imagedWarms r_turns0 r_turnWarms0 r_turnOf r_turnWarms r_row0 r_gains r_pegSort r_pegMany r_pegHolds r_coats r_coatsMoved) H → va_D A (w_X7 y a r_airs r_sitters r_stepMany r_today r_taken r_isStill (0 : Int32) r_letterMany r_at0 r_isBad r_statements r_stepsMany r_hasImage r_place0 r_isTaking r_keptIn r_turned r_rowMany r_seed r_warms r_shutAt r_kinds0 r_figures r_airAt r_ways r_crowned r_sitsAt r_shawls r_isOn r_stepOf r_stepBy r_refusals r_letters r_placeIn r_letterOf r_numbers r_stepsRead r_stepsBy r_kept r_keptWarms r_i_imaged r_imagedWarms r_turns0 r_turnWarms0 r_turnOf r_turnWarms r_row0 r_gains r_pegSort r_pegMany r_pegHolds r_coats r_coatsMoved) → va_S A s.heap H locs → ∀ ls : Array Slot, lv_has ls 3 [(0, .ref (a 0)), (1, .int n0)] → W p l e ({ frames := 1, cells := 0, slots := 0, locals := 22 } : Room) s m [.ref (a 0), .int n0].toArray below meth c H locs 0 0 (MQ below (dQ D y (some (.int z0)) s.heap.size (w_X7 y a r_airs r_sitters r_stepMany r_today r_taken r_isStill r_thrown r_letterMany r_at0 r_isBad r_statements r_stepsMany r_hasImage r_place0 r_isTaking r_keptIn r_turned r_rowMany r_seed r_warms r_shutAt r_kinds0 r_figures r_airAt r_ways r_crowned r_sitsAt r_shawls r_isOn r_stepOf r_stepBy r_refusals r_letters r_placeIn r_letterOf r_numbers r_stepsRead r_stepsBy r_kept r_keptWarms r_i_imaged r_imagedWarms r_turns0 r_turnWarms0 r_turnOf r_turnWarms r_row0 r_gains r_pegSort r_pegMany r_pegHolds r_coats r_coatsMoved) (w_X7 y a r_airs r_sitters r_stepMany r_today r_taken r_isStill z1 r_letterMany r_at0 r_isBad r_statements r_stepsMany r_hasImage r_place0 r_isTaking r_keptIn r_turned z2 r_seed r_warms r_shutAt r_kinds0 r_figures r_airAt r_ways r_crowned r_sitsAt r_shawls r_isOn r_stepOf r_stepBy z3 r_letters r_placeIn r_letterOf r_numbers r_stepsRead r_stepsBy r_kept r_keptWarms r_i_imaged r_imagedWarms r_turns0 r_turnWarms0 r_turnOf r_turnWarms z4 r_gains r_pegSort r_pegMany r_pegHolds r_coats r_coatsMoved)) [.ref (a 0), .int n0].toArray s 0 0 A) (F0 m 32 ls [.int x3]) := by
    intro x3 hf H locs hP hD hS ls hl
    unfold f_X7_row_b32 at hf
    refine lv_istore_n (lv' := [(2, .int x3), (0, .ref (a 0)), (1, .int n0)]) hx hb dX7_row_32 rfl hl (by decide) rfl (fun ls hl => ?_)
    refine lv_iload_n hx hb dX7_row_33 rfl (lv_at hl 0 rfl) ?_
    refine lv_if_ge (tgt := 43) hx hb dX7_row_34 (by decide) (fun c4 => ?_) (fun c4 => ?_)
    · have hf := dq_t hf c4
      clear c4
      refine lv_aload_n hx hb dX7_row_43 rfl (lv_at hl 1 rfl) ?_
      refine va_get (D := D) (ci := 6) (v := .ref (a 28)) (C := RX7) (T := TX7) (N := 53) hx hb hts iwX7 hown hK hP 0 rfl rfl 44 (by decide) (hts _ wl_108) (fun _ h9 => h9) rfl dX7_row_44 ?_
      refine lv_aload_n hx hb dX7_row_47 rfl (lv_at hl 1 rfl) ?_
      refine va_get (D := D) (ci := 6) (v := .int r_rowMany) (C := RX7) (T := TX7) (N := 53) hx hb hts iwX7 hown hK hP 0 rfl rfl 45 (by decide) (hts _ wl_864) (fun _ h9 => h9) rfl dX7_row_48 ?_
      refine lv_iload_n hx hb dX7_row_51 rfl (lv_at hl 2 rfl) ?_
      obtain ⟨h5, hf⟩ := dq_g hf
      refine dq_iast (cA := y 1) (n := 12) (f := r_row0) hx hb hK hP hD hS 28 1 rfl rfl h5 dX7_row_52 (fun r_row0_6 er_row0_6 H locs hP hD hS => ?_)
      have hf := dq_l hf r_row0_6 er_row0_6
      clear er_row0_6
      have hP : va_P D vwCl (w_X7 y a r_airs r_sitters r_stepMany r_today r_taken r_isStill (0 : Int32) r_letterMany r_at0 r_isBad r_statements r_stepsMany r_hasImage r_place0 r_isTaking r_keptIn r_turned r_rowMany r_seed r_warms r_shutAt r_kinds0 r_figures r_airAt r_ways r_crowned r_sitsAt r_shawls r_isOn r_stepOf r_stepBy r_refusals r_letters r_placeIn r_letterOf r_numbers r_stepsRead r_stepsBy r_kept r_keptWarms r_i_imaged r_imagedWarms r_turns0 r_turnWarms0 r_turnOf r_turnWarms r_row0_6 r_gains r_pegSort r_pegMany r_pegHolds r_coats r_coatsMoved) H := hP
      have hD : va_D A (w_X7 y a r_airs r_sitters r_stepMany r_today r_taken r_isStill (0 : Int32) r_letterMany r_at0 r_isBad r_statements r_stepsMany r_hasImage r_place0 r_isTaking r_keptIn r_turned r_rowMany r_seed r_warms r_shutAt r_kinds0 r_figures r_airAt r_ways r_crowned r_sitsAt r_shawls r_isOn r_stepOf r_stepBy r_refusals r_letters r_placeIn r_letterOf r_numbers r_stepsRead r_stepsBy r_kept r_keptWarms r_i_imaged r_imagedWarms r_turns0 r_turnWarms0 r_turnOf r_turnWarms r_row0_6 r_gains r_pegSort r_pegMany r_pegHolds r_coats r_coatsMoved) := hD
      refine lv_aload_n hx hb dX7_row_53 rfl (lv_at hl 1 rfl) ?_
      refine lv_dup hx hb dX7_row_54 rfl ?_
      refine va_get (D := D) (ci := 6) (v := .int r_rowMany) (C := RX7) (T := TX7) (N := 53) hx hb hts iwX7 hown hK hP 0 rfl rfl 45 (by decide) (hts _ wl_864) (fun _ h9 => h9) rfl dX7_row_55 ?_
      refine lv_iconst (v := 1) hx hb dX7_row_58 (by decide) ?_
      refine lv_iadd hx hb dX7_row_59 ?_
      refine lv_topi (fun x7 ex7 => ?_)
      have hf := dq_l hf x7 ex7
      clear ex7
      refine va_put (D := D) (ci := 6) (v := .int x7) (ty := .int) (C := RX7) (T := TX7) (N := 53) hx hb hts iwX7 tyX7 tyX7_ok nmX7 hown hK hP hD hS 0 rfl rfl 45 (by decide) (hts _ wl_864) (fun _ h9 => h9) rfl (tyX7_ok 45 (by decide)) rfl rfl (Nat.le_of_ble_eq_true rfl) dX7_row_60 (fun H locs hP hD hS => ?_)
      have hP : va_P D vwCl (w_X7 y a r_airs r_sitters r_stepMany r_today r_taken r_isStill (0 : Int32) r_letterMany r_at0 r_isBad r_statements r_stepsMany r_hasImage r_place0 r_isTaking r_keptIn r_turned x7 r_seed r_warms r_shutAt r_kinds0 r_figures r_airAt r_ways r_crowned r_sitsAt r_shawls r_isOn r_stepOf r_stepBy r_refusals r_letters r_placeIn r_letterOf r_numbers r_stepsRead r_stepsBy r_kept r_keptWarms r_i_imaged r_imagedWarms r_turns0 r_turnWarms0 r_turnOf r_turnWarms r_row0_6 r_gains r_pegSort r_pegMany r_pegHolds r_coats r_coatsMoved) H := hP
      have hD : va_D A (w_X7 y a r_airs r_sitters r_stepMany r_today r_taken r_isStill (0 : Int32) r_letterMany r_at0 r_isBad r_statements r_stepsMany r_hasImage r_place0 r_isTaking r_keptIn r_turned x7 r_seed r_warms r_shutAt r_kinds0 r_figures r_airAt r_ways r_crowned r_sitsAt r_shawls r_isOn r_stepOf r_stepBy r_refusals r_letters r_placeIn r_letterOf r_numbers r_stepsRead r_stepsBy r_kept r_keptWarms r_i_imaged r_imagedWarms r_turns0 r_turnWarms0 r_turnOf r_turnWarms r_row0_6 r_gains r_pegSort r_pegMany r_pegHolds r_coats r_coatsMoved) := hD
      refine lv_aload_n hx hb dX7_row_63 rfl (lv_at hl 1 rfl) ?_
      refine va_get (D := D) (ci := 6) (v := .int x7) (C := RX7) (T := TX7) (N := 53) hx hb hts iwX7 hown hK hP 0 rfl rfl 45 (by decide) (hts _ wl_864) (fun _ h9 => h9) rfl dX7_row_64 ?_
      obtain ⟨rfl, rfl, rfl, rfl, rfl⟩ := dq_r5 hf
      exact ct_iret hx hb hr hlocks hAe hP hK hD hS dX7_row_67
    · have hf := dq_f hf c4
      clear c4
      refine lv_aload_n hx hb dX7_row_37 rfl (lv_at hl 1 rfl) ?_
      refine lv_iload_n hx hb dX7_row_38 rfl (lv_at hl 0 rfl) ?_
      obtain ⟨x8, r_refusals_9, hy10, hf⟩ := dq_b2 hf
      refine ct_callV0 (ci := 6) (q0 := 0) (own := RX7) (As := [.int x3]) (rest := []) (ws' := (w_X7 y a r_airs r_sitters r_stepMany r_today r_taken r_isStill (0 : Int32) r_letterMany r_at0 r_isBad r_statements r_stepsMany r_hasImage r_place0 r_isTaking r_keptIn r_turned r_rowMany r_seed r_warms r_shutAt r_kinds0 r_figures r_airAt r_ways r_crowned r_sitsAt r_shawls r_isOn r_stepOf r_stepBy r_refusals_9 r_letters r_placeIn r_letterOf r_numbers r_stepsRead r_stepsBy r_kept r_keptWarms r_i_imaged r_imagedWarms r_turns0 r_turnWarms0 r_turnOf r_turnWarms r_row0 r_gains r_pegSort r_pegMany r_pegHolds r_coats r_coatsMoved)) ⟨hx, hb, hml, hown, hts⟩ (m_X7_refuse l D y a r_airs r_sitters r_stepMany r_today r_taken r_isStill (0 : Int32) r_letterMany r_at0 r_isBad r_statements r_stepsMany r_hasImage r_place0 r_isTaking r_keptIn r_turned r_rowMany r_seed r_warms r_shutAt r_kinds0 r_figures r_airAt r_ways r_crowned r_sitsAt r_shawls r_isOn r_stepOf r_stepBy r_refusals r_letters r_placeIn r_letterOf r_numbers r_stepsRead r_stepsBy r_kept r_keptWarms r_i_imaged r_imagedWarms r_turns0 r_turnWarms0 r_turnOf r_turnWarms r_row0 r_gains r_pegSort r_pegMany r_pegHolds r_coats r_coatsMoved x3 x8 r_refusals_9 hy10) (cwV 1 hts (gA_V wl_133 wl_134 wl_135 wl_5 wl_136) rfl rfl rfl (by decide +kernel) ⟨Nat.le_of_ble_eq_true rfl, Nat.le_of_ble_eq_true rfl⟩) rfl rfl rfl hl.1 rfl (Nat.le_of_ble_eq_true rfl) dX7_row_39 ⟨Nat.zero_le _, Nat.zero_le _⟩ hK hP hD hS hA (fun H locs hP hD hS => ?_)
      obtain ⟨rfl, rfl, rfl, rfl, rfl⟩ := dq_r5 hf
      exact ct_iret hx hb hr hlocks hAe hP hK hD hS dX7_row_42
  refine lv_if_ne (tgt := 31) hx hb dX7_row_14 (by decide) (fun c11 => ?_) (fun c11 => ?_)
  · have hf := dq_f hf c11
    clear c11
    refine lv_iload_n hx hb dX7_row_31 rfl (lv_at hl 0 rfl) ?_
    exact J32 _ hf _ _ hP hD hS _ (lv_sub hl [1, 2] rfl)
  · have hf := dq_t hf c11
    clear c11
    refine lv_aload_n hx hb dX7_row_17 rfl (lv_at hl 1 rfl) ?_
    refine va_get (D := D) (ci := 6) (v := .int r_rowMany) (C := RX7) (T := TX7) (N := 53) hx hb hts iwX7 hown hK hP 0 rfl rfl 45 (by decide) (hts _ wl_864) (fun _ h9 => h9) rfl dX7_row_18 ?_
    refine lv_bipush (v := 12) hx hb dX7_row_21 (by decide) ?_
    refine lv_icmp_ne (tgt := 31) hx hb dX7_row_23 (by decide) (fun c12 => ?_) (fun c12 => ?_)
    · have hf := dq_f hf c12
      clear c12
      refine lv_iload_n hx hb dX7_row_31 rfl (lv_at hl 0 rfl) ?_
      exact J32 _ hf _ _ hP hD hS _ (lv_sub hl [1, 2] rfl)
    · have hf := dq_t hf c12
      clear c12
      refine lv_bipush (v := -6) hx hb dX7_row_26 (by decide) ?_
      refine lv_goto (tgt := 32) hx hb dX7_row_28 (by decide) ?_
      exact J32 _ hf _ _ hP hD hS _ (lv_sub hl [1, 2] rfl)
noncomputable def f_X7_judge_b52 (r_row0 : (Nat → Int32)) (x2 : Int32) (x3 : Int32) (k15 : (Int32 → Int32 → Option (Int32 × Int32 × Int32))) (x5 : Int32) : Option (Int32 × Int32 × Int32) := dq_gd (vp_in x3 12) (dq_if ((r_row0 x3.toNatClampNeg) = x5) (dq_let (x3 + (-1 : Int32)) (fun (x8 : Int32) => k15 x2 x8)) (dq_let (x3 + (-1 : Int32)) (fun (x9 : Int32) => k15 x3 x9)))
noncomputable def f_X7_judge_b15 (r_sitters : Int32) (r_sitsAt : (Nat → Int32)) (r_isOn : (Nat → Int32)) (r_row0 : (Nat → Int32))  : Nat → Int32 → Int32 → Option (Int32 × Int32 × Int32)
  | 0, _, _ => none
  | m15 + 1, x2, x3 => dq_if (x3 < 0) (some (x2, (0 : Int32), (0 : Int32))) (dq_if (x3 < r_sitters) (dq_gd (vp_in x3 6) (dq_if ((r_isOn x3.toNatClampNeg) = (1 : Int32)) (dq_gd (vp_in x3 6) (f_X7_judge_b52 r_row0 x2 x3 (f_X7_judge_b15 r_sitters r_sitsAt r_isOn r_row0 m15) (r_sitsAt x3.toNatClampNeg))) (f_X7_judge_b52 r_row0 x2 x3 (f_X7_judge_b15 r_sitters r_sitsAt r_isOn r_row0 m15) (36 : Int32)))) (f_X7_judge_b52 r_row0 x2 x3 (f_X7_judge_b15 r_sitters r_sitsAt r_isOn r_row0 m15) (-1 : Int32)))
noncomputable def f_X7_judge (r_sitters : Int32) (r_rowMany : Int32) (r_sitsAt : (Nat → Int32)) (r_isOn : (Nat → Int32)) (r_row0 : (Nat → Int32)) : Option (Int32 × Int32 × Int32) := dq_let (r_rowMany - (1 : Int32)) (fun (x1 : Int32) => f_X7_judge_b15 r_sitters r_sitsAt r_isOn r_row0 4096 (-9 : Int32) x1)
def wA_X7_judge : List Cond := .code yX7_judge cX7_judge 4 (some .int) :: wsL_law
-- DraughtsTakeModel.judge()I
set_option maxHeartbeats 4000000 in
set_option maxRecDepth 100000 in
theorem m_X7_judge (l : Launch) (D : va_G) (y : Nat → ClassId) (a : (Nat → Nat)) (r_airs : Int32) (r_sitters : Int32) (r_stepMany : Int32) (r_today : Int32) (r_taken : Int32) (r_isStill : Int32) (r_thrown : Int32) (r_letterMany : Int32) (r_at0 : Int32) (r_isBad : Int32) (r_statements : Int32) (r_stepsMany : Int32) (r_hasImage : Int32) (r_place0 : Int32) (r_isTaking : Int32) (r_keptIn : Value) (r_turned : Int32) (r_rowMany : Int32) (r_seed : Int32) (r_warms : (Nat → UInt32)) (r_shutAt : (Nat → Int32)) (r_kinds0 : (Nat → Int32)) (r_figures : (Nat → Int32)) (r_airAt : (Nat → Int32)) (r_ways : (Nat → Int32)) (r_crowned : (Nat → Int32)) (r_sitsAt : (Nat → Int32)) (r_shawls : (Nat → Int32)) (r_isOn : (Nat → Int32)) (r_stepOf : (Nat → Int32)) (r_stepBy : (Nat → Int32)) (r_refusals : (Nat → Int32)) (r_letters : (Nat → Int32)) (r_placeIn : (Nat → Int32)) (r_letterOf : (Nat → Int32)) (r_numbers : (Nat → Int32)) (r_stepsRead : (Nat → Int32)) (r_stepsBy : (Nat → Int32)) (r_kept : (Nat → Int32)) (r_keptWarms : (Nat → UInt32)) (r_i_imaged : (Nat → Int32)) (r_imagedWarms : (Nat → UInt32)) (r_turns0 : (Nat → Int32)) (r_turnWarms0 : (Nat → UInt32)) (r_turnOf : (Nat → Int32)) (r_turnWarms : (Nat → UInt32)) (r_row0 : (Nat → Int32)) (r_gains : (Nat → Int32)) (r_pegSort : (Nat → Int32)) (r_pegMany : (Nat → Int32)) (r_pegHolds : (Nat → Int32)) (r_coats : (Nat → Int32)) (r_coatsMoved : (Nat → Int32)) (z0 : Int32) (z1 : Int32) (z2 : Int32) (hf : f_X7_judge r_sitters r_rowMany r_sitsAt r_isOn r_row0 = some (z0, z1, z2)) : Ct l D y yX7_judge wA_X7_judge 0 0 [.ref (a 0)] (w_X7 y a r_airs r_sitters r_stepMany r_today r_taken r_isStill r_thrown r_letterMany r_at0 r_isBad r_statements r_stepsMany r_hasImage r_place0 r_isTaking r_keptIn r_turned r_rowMany r_seed r_warms r_shutAt r_kinds0 r_figures r_airAt r_ways r_crowned r_sitsAt r_shawls r_isOn r_stepOf r_stepBy r_refusals r_letters r_placeIn r_letterOf r_numbers r_stepsRead r_stepsBy r_kept r_keptWarms r_i_imaged r_imagedWarms r_turns0 r_turnWarms0 r_turnOf r_turnWarms r_row0 r_gains r_pegSort r_pegMany r_pegHolds r_coats r_coatsMoved) (w_X7 y a r_airs r_sitters r_stepMany r_today r_taken r_isStill z1 r_letterMany r_at0 r_isBad r_statements r_stepsMany r_hasImage r_place0 r_isTaking r_keptIn r_turned z2 r_seed r_warms r_shutAt r_kinds0 r_figures r_airAt r_ways r_crowned r_sitsAt r_shawls r_isOn r_stepOf r_stepBy r_refusals r_letters r_placeIn r_letterOf r_numbers r_stepsRead r_stepsBy r_kept r_keptWarms r_i_imaged r_imagedWarms r_turns0 r_turnWarms0 r_turnOf r_turnWarms r_row0 r_gains r_pegSort r_pegMany r_pegHolds r_coats r_coatsMoved) (some (.int z0)) := by
  refine ct_head (cc := cX7_judge) (n := 4) (ret := (some .int)) (by decide) rfl (Nat.le_of_ble_eq_true rfl) ?_
  intro p e s m below meth c A ls hx hb hr hml hown hlocks hts hA hAe hP hK hD hl
  have hS : va_S A s.heap s.heap [] := va_S.rf
  have hl : lv_has ls 4 [(0, .ref (a 0))] := hl
  have hown : s.vm.findClass RX7 = some m.cls := hown
  have hts : ∀ w ∈ wsL_law, w.before [.ref (a 0)].toArray s = true := fun w h => hts w (List.mem_cons_of_mem _ h)
  unfold f_X7_judge at hf
  refine lv_aload_n hx hb dX7_judge_0 rfl (lv_at hl 0 rfl) ?_
  refine lv_iconst (v := 0) hx hb dX7_judge_1 (by decide) ?_
  refine va_put (D := D) (ci := 6) (v := .int (0 : Int32)) (ty := .int) (C := RX7) (T := TX7) (N := 53) hx hb hts iwX7 tyX7 tyX7_ok nmX7 hown hK hP hD hS 0 rfl rfl 18 (by decide) (hts _ wl_116) (fun _ h9 => h9) rfl (tyX7_ok 18 (by decide)) rfl rfl (Nat.le_of_ble_eq_true rfl) dX7_judge_2 (fun H locs hP hD hS => ?_)
  have hP : va_P D vwCl (w_X7 y a r_airs r_sitters r_stepMany r_today r_taken r_isStill (0 : Int32) r_letterMany r_at0 r_isBad r_statements r_stepsMany r_hasImage r_place0 r_isTaking r_keptIn r_turned r_rowMany r_seed r_warms r_shutAt r_kinds0 r_figures r_airAt r_ways r_crowned r_sitsAt r_shawls r_isOn r_stepOf r_stepBy r_refusals r_letters r_placeIn r_letterOf r_numbers r_stepsRead r_stepsBy r_kept r_keptWarms r_i_imaged r_imagedWarms r_turns0 r_turnWarms0 r_turnOf r_turnWarms r_row0 r_gains r_pegSort r_pegMany r_pegHolds r_coats r_coatsMoved) H := hP
  have hD : va_D A (w_X7 y a r_airs r_sitters r_stepMany r_today r_taken r_isStill (0 : Int32) r_letterMany r_at0 r_isBad r_statements r_stepsMany r_hasImage r_place0 r_isTaking r_keptIn r_turned r_rowMany r_seed r_warms r_shutAt r_kinds0 r_figures r_airAt r_ways r_crowned r_sitsAt r_shawls r_isOn r_stepOf r_stepBy r_refusals r_letters r_placeIn r_letterOf r_numbers r_stepsRead r_stepsBy r_kept r_keptWarms r_i_imaged r_imagedWarms r_turns0 r_turnWarms0 r_turnOf r_turnWarms r_row0 r_gains r_pegSort r_pegMany r_pegHolds r_coats r_coatsMoved) := hD
  refine lv_bipush (v := -9) hx hb dX7_judge_5 (by decide) ?_
  refine lv_istore_n (lv' := [(1, .int (-9 : Int32)), (0, .ref (a 0))]) hx hb dX7_judge_7 rfl hl (by decide) rfl (fun ls hl => ?_)
  refine lv_aload_n hx hb dX7_judge_8 rfl (lv_at hl 1 rfl) ?_
  refine va_get (D := D) (ci := 6) (v := .int r_rowMany) (C := RX7) (T := TX7) (N := 53) hx hb hts iwX7 hown hK hP 0 rfl rfl 45 (by decide) (hts _ wl_864) (fun _ h9 => h9) rfl dX7_judge_9 ?_
  refine lv_iconst (v := 1) hx hb dX7_judge_12 (by decide) ?_
  refine lv_isub hx hb dX7_judge_13 ?_
  refine lv_topi (fun x1 ex1 => ?_)
  have hf := dq_l hf x1 ex1
  clear ex1
  refine lv_istore_n (lv' := [(2, .int x1), (1, .int (-9 : Int32)), (0, .ref (a 0))]) hx hb dX7_judge_14 rfl hl (by decide) rfl (fun ls hl => ?_)
  have J15 : ∀ (m15 : Nat) (x2 : Int32) (x3 : Int32), f_X7_judge_b15 r_sitters r_sitsAt r_isOn r_row0 m15 x2 x3 = some (z0, z1, z2) → ∀ (H : Heap) (locs : List Loc), va_P D vwCl (w_X7 y a r_airs r_sitters r_stepMany r_today r_taken r_isStill (0 : Int32) r_letterMany r_at0 r_isBad r_statements r_stepsMany r_hasImage r_place0 r_isTaking r_keptIn r_turned r_rowMany r_seed r_warms r_shutAt r_kinds0 r_figures r_airAt r_ways r_crowned r_sitsAt r_shawls r_isOn r_stepOf r_stepBy r_refusals r_letters r_placeIn r_letterOf r_numbers r_stepsRead r_stepsBy r_kept r_keptWarms r_i_imaged r_imagedWarms r_turns0 r_turnWarms0 r_turnOf r_turnWarms r_row0 r_gains r_pegSort r_pegMany r_pegHolds r_coats r_coatsMoved) H → va_D A (w_X7 y a r_airs r_sitters r_stepMany r_today r_taken r_isStill (0 : Int32) r_letterMany r_at0 r_isBad r_statements r_stepsMany r_hasImage r_place0 r_isTaking r_keptIn r_turned r_rowMany r_seed r_warms r_shutAt r_kinds0 r_figures r_airAt r_ways r_crowned r_sitsAt r_shawls r_isOn r_stepOf r_stepBy r_refusals r_letters r_placeIn r_letterOf r_numbers r_stepsRead r_stepsBy r_kept r_keptWarms r_i_imaged r_imagedWarms r_turns0 r_turnWarms0 r_turnOf r_turnWarms r_row0 r_gains r_pegSort r_pegMany r_pegHolds r_coats r_coatsMoved) → va_S A s.heap H locs → ∀ ls : Array Slot, lv_has ls 4 [(0, .ref (a 0)), (1, .int x2), (2, .int x3)] → W p l e ({ frames := 0, cells := 0, slots := 0, locals := 0 } : Room) s m [.ref (a 0)].toArray below meth c H locs 0 0 (MQ below (dQ D y (some (.int z0)) s.heap.size (w_X7 y a r_airs r_sitters r_stepMany r_today r_taken r_isStill r_thrown r_letterMany r_at0 r_isBad r_statements r_stepsMany r_hasImage r_place0 r_isTaking r_keptIn r_turned r_rowMany r_seed r_warms r_shutAt r_kinds0 r_figures r_airAt r_ways r_crowned r_sitsAt r_shawls r_isOn r_stepOf r_stepBy r_refusals r_letters r_placeIn r_letterOf r_numbers r_stepsRead r_stepsBy r_kept r_keptWarms r_i_imaged r_imagedWarms r_turns0 r_turnWarms0 r_turnOf r_turnWarms r_row0 r_gains r_pegSort r_pegMany r_pegHolds r_coats r_coatsMoved) (w_X7 y a r_airs r_sitters r_stepMany r_today r_taken r_isStill z1 r_letterMany r_at0 r_isBad r_statements r_stepsMany r_hasImage r_place0 r_isTaking r_keptIn r_turned z2 r_seed r_warms r_shutAt r_kinds0 r_figures r_airAt r_ways r_crowned r_sitsAt r_shawls r_isOn r_stepOf r_stepBy r_refusals r_letters r_placeIn r_letterOf r_numbers r_stepsRead r_stepsBy r_kept r_keptWarms r_i_imaged r_imagedWarms r_turns0 r_turnWarms0 r_turnOf r_turnWarms r_row0 r_gains r_pegSort r_pegMany r_pegHolds r_coats r_coatsMoved)) [.ref (a 0)].toArray s 0 0 A) (F0 m 15 ls []) := by
    intro m15
    induction m15 with
    | zero => intro x2 x3 hf; exact absurd hf (by unfold f_X7_judge_b15; exact fun h => by cases h)
    | succ m15 I15 =>
      intro x2 x3 hf H locs hP hD hS ls hl
      unfold f_X7_judge_b15 at hf
      refine lv_iload_n hx hb dX7_judge_15 rfl (lv_at hl 2 rfl) ?_
      refine lv_if_lt (tgt := 75) hx hb dX7_judge_16 (by decide) (fun c4 => ?_) (fun c4 => ?_)
      · have hf := dq_t hf c4
        clear c4
        refine lv_aload_n hx hb dX7_judge_75 rfl (lv_at hl 0 rfl) ?_
        refine lv_iconst (v := 0) hx hb dX7_judge_76 (by decide) ?_
        refine va_put (D := D) (ci := 6) (v := .int (0 : Int32)) (ty := .int) (C := RX7) (T := TX7) (N := 53) hx hb hts iwX7 tyX7 tyX7_ok nmX7 hown hK hP hD hS 0 rfl rfl 45 (by decide) (hts _ wl_864) (fun _ h9 => h9) rfl (tyX7_ok 45 (by decide)) rfl rfl (Nat.le_of_ble_eq_true rfl) dX7_judge_77 (fun H locs hP hD hS => ?_)
        have hP : va_P D vwCl (w_X7 y a r_airs r_sitters r_stepMany r_today r_taken r_isStill (0 : Int32) r_letterMany r_at0 r_isBad r_statements r_stepsMany r_hasImage r_place0 r_isTaking r_keptIn r_turned (0 : Int32) r_seed r_warms r_shutAt r_kinds0 r_figures r_airAt r_ways r_crowned r_sitsAt r_shawls r_isOn r_stepOf r_stepBy r_refusals r_letters r_placeIn r_letterOf r_numbers r_stepsRead r_stepsBy r_kept r_keptWarms r_i_imaged r_imagedWarms r_turns0 r_turnWarms0 r_turnOf r_turnWarms r_row0 r_gains r_pegSort r_pegMany r_pegHolds r_coats r_coatsMoved) H := hP
        have hD : va_D A (w_X7 y a r_airs r_sitters r_stepMany r_today r_taken r_isStill (0 : Int32) r_letterMany r_at0 r_isBad r_statements r_stepsMany r_hasImage r_place0 r_isTaking r_keptIn r_turned (0 : Int32) r_seed r_warms r_shutAt r_kinds0 r_figures r_airAt r_ways r_crowned r_sitsAt r_shawls r_isOn r_stepOf r_stepBy r_refusals r_letters r_placeIn r_letterOf r_numbers r_stepsRead r_stepsBy r_kept r_keptWarms r_i_imaged r_imagedWarms r_turns0 r_turnWarms0 r_turnOf r_turnWarms r_row0 r_gains r_pegSort r_pegMany r_pegHolds r_coats r_coatsMoved) := hD
        refine lv_iload_n hx hb dX7_judge_80 rfl (lv_at hl 1 rfl) ?_
        obtain ⟨rfl, rfl, rfl⟩ := dq_r3 hf
        exact ct_iret hx hb hr hlocks hAe hP hK hD hS dX7_judge_81
      · have hf := dq_f hf c4
        clear c4
        refine lv_iload_n hx hb dX7_judge_19 rfl (lv_at hl 2 rfl) ?_
        refine lv_aload_n hx hb dX7_judge_20 rfl (lv_at hl 0 rfl) ?_
        refine va_get (D := D) (ci := 6) (v := .int r_sitters) (C := RX7) (T := TX7) (N := 53) hx hb hts iwX7 hown hK hP 0 rfl rfl 8 (by decide) (hts _ wl_406) (fun _ h9 => h9) rfl dX7_judge_21 ?_
        have J52 : ∀ (x5 : Int32), f_X7_judge_b52 r_row0 x2 x3 (f_X7_judge_b15 r_sitters r_sitsAt r_isOn r_row0 m15) x5 = some (z0, z1, z2) → ∀ (H : Heap) (locs : List Loc), va_P D vwCl (w_X7 y a r_airs r_sitters r_stepMany r_today r_taken r_isStill (0 : Int32) r_letterMany r_at0 r_isBad r_statements r_stepsMany r_hasImage r_place0 r_isTaking r_keptIn r_turned r_rowMany r_seed r_warms r_shutAt r_kinds0 r_figures r_airAt r_ways r_crowned r_sitsAt r_shawls r_isOn r_stepOf r_stepBy r_refusals r_letters r_placeIn r_letterOf r_numbers r_stepsRead r_stepsBy r_kept r_keptWarms r_i_imaged r_imagedWarms r_turns0 r_turnWarms0 r_turnOf r_turnWarms r_row0 r_gains r_pegSort r_pegMany r_pegHolds r_coats r_coatsMoved) H → va_D A (w_X7 y a r_airs r_sitters r_stepMany r_today r_taken r_isStill (0 : Int32) r_letterMany r_at0 r_isBad r_statements r_stepsMany r_hasImage r_place0 r_isTaking r_keptIn r_turned r_rowMany r_seed r_warms r_shutAt r_kinds0 r_figures r_airAt r_ways r_crowned r_sitsAt r_shawls r_isOn r_stepOf r_stepBy r_refusals r_letters r_placeIn r_letterOf r_numbers r_stepsRead r_stepsBy r_kept r_keptWarms r_i_imaged r_imagedWarms r_turns0 r_turnWarms0 r_turnOf r_turnWarms r_row0 r_gains r_pegSort r_pegMany r_pegHolds r_coats r_coatsMoved) → va_S A s.heap H locs → ∀ ls : Array Slot, lv_has ls 4 [(0, .ref (a 0)), (1, .int x2), (2, .int x3)] → W p l e ({ frames := 0, cells := 0, slots := 0, locals := 0 } : Room) s m [.ref (a 0)].toArray below meth c H locs 0 0 (MQ below (dQ D y (some (.int z0)) s.heap.size (w_X7 y a r_airs r_sitters r_stepMany r_today r_taken r_isStill r_thrown r_letterMany r_at0 r_isBad r_statements r_stepsMany r_hasImage r_place0 r_isTaking r_keptIn r_turned r_rowMany r_seed r_warms r_shutAt r_kinds0 r_figures r_airAt r_ways r_crowned r_sitsAt r_shawls r_isOn r_stepOf r_stepBy r_refusals r_letters r_placeIn r_letterOf r_numbers r_stepsRead r_stepsBy r_kept r_keptWarms r_i_imaged r_imagedWarms r_turns0 r_turnWarms0 r_turnOf r_turnWarms r_row0 r_gains r_pegSort r_pegMany r_pegHolds r_coats r_coatsMoved) (w_X7 y a r_airs r_sitters r_stepMany r_today r_taken r_isStill z1 r_letterMany r_at0 r_isBad r_statements r_stepsMany r_hasImage r_place0 r_isTaking r_keptIn r_turned z2 r_seed r_warms r_shutAt r_kinds0 r_figures r_airAt r_ways r_crowned r_sitsAt r_shawls r_isOn r_stepOf r_stepBy r_refusals r_letters r_placeIn r_letterOf r_numbers r_stepsRead r_stepsBy r_kept r_keptWarms r_i_imaged r_imagedWarms r_turns0 r_turnWarms0 r_turnOf r_turnWarms r_row0 r_gains r_pegSort r_pegMany r_pegHolds r_coats r_coatsMoved)) [.ref (a 0)].toArray s 0 0 A) (F0 m 52 ls [.int x5]) := by
          intro x5 hf H locs hP hD hS ls hl
          unfold f_X7_judge_b52 at hf
          refine lv_istore_n (lv' := [(3, .int x5), (0, .ref (a 0)), (1, .int x2), (2, .int x3)]) hx hb dX7_judge_52 rfl hl (by decide) rfl (fun ls hl => ?_)
          refine lv_aload_n hx hb dX7_judge_53 rfl (lv_at hl 1 rfl) ?_
          refine va_get (D := D) (ci := 6) (v := .ref (a 28)) (C := RX7) (T := TX7) (N := 53) hx hb hts iwX7 hown hK hP 0 rfl rfl 44 (by decide) (hts _ wl_108) (fun _ h9 => h9) rfl dX7_judge_54 ?_
          refine lv_iload_n hx hb dX7_judge_57 rfl (lv_at hl 3 rfl) ?_
          obtain ⟨h6, hf⟩ := dq_g hf
          refine va_iald (cA := y 1) (n := 12) (f := r_row0) hx hb hK hP 28 1 rfl rfl h6 dX7_judge_58 ?_
          refine lv_iload_n hx hb dX7_judge_59 rfl (lv_at hl 0 rfl) ?_
          refine lv_icmp_eq (tgt := 67) hx hb dX7_judge_60 (by decide) (fun c7 => ?_) (fun c7 => ?_)
          · have hf := dq_t hf c7
            clear c7
            refine lv_iload_n hx hb dX7_judge_67 rfl (lv_at hl 2 rfl) ?_
            refine lv_istore_n (lv' := [(1, .int x2), (3, .int x5), (0, .ref (a 0)), (2, .int x3)]) hx hb dX7_judge_68 rfl hl (by decide) rfl (fun ls hl => ?_)
            obtain ⟨x8, ex8⟩ : ∃ z : Int32, z = (x3 + (-1 : Int32)) := ⟨_, rfl⟩
            have hf := dq_l hf x8 ex8
            refine lv_iinc (v := x8) (lv' := [(2, .int x8), (1, .int x2), (3, .int x5), (0, .ref (a 0))]) hx hb dX7_judge_69 hl (k := 3) rfl (by rw [ex8]; rfl) (by decide) rfl (fun ls hl => ?_)
            clear ex8
            refine lv_goto (tgt := 15) hx hb dX7_judge_72 (by decide) ?_
            exact I15 _ _ hf _ _ hP hD hS _ (lv_sub hl [3, 1, 0] rfl)
          · have hf := dq_f hf c7
            clear c7
            refine lv_iload_n hx hb dX7_judge_63 rfl (lv_at hl 3 rfl) ?_
            refine lv_goto (tgt := 68) hx hb dX7_judge_64 (by decide) ?_
            refine lv_istore_n (lv' := [(1, .int x3), (3, .int x5), (0, .ref (a 0)), (2, .int x3)]) hx hb dX7_judge_68 rfl hl (by decide) rfl (fun ls hl => ?_)
            obtain ⟨x9, ex9⟩ : ∃ z : Int32, z = (x3 + (-1 : Int32)) := ⟨_, rfl⟩
            have hf := dq_l hf x9 ex9
            refine lv_iinc (v := x9) (lv' := [(2, .int x9), (1, .int x3), (3, .int x5), (0, .ref (a 0))]) hx hb dX7_judge_69 hl (k := 3) rfl (by rw [ex9]; rfl) (by decide) rfl (fun ls hl => ?_)
            clear ex9
            refine lv_goto (tgt := 15) hx hb dX7_judge_72 (by decide) ?_
            exact I15 _ _ hf _ _ hP hD hS _ (lv_sub hl [3, 1, 0] rfl)
        refine lv_icmp_lt (tgt := 31) hx hb dX7_judge_24 (by decide) (fun c10 => ?_) (fun c10 => ?_)
        · have hf := dq_t hf c10
          clear c10
          refine lv_aload_n hx hb dX7_judge_31 rfl (lv_at hl 0 rfl) ?_
          refine va_get (D := D) (ci := 6) (v := .ref (a 10)) (C := RX7) (T := TX7) (N := 53) hx hb hts iwX7 hown hK hP 0 rfl rfl 11 (by decide) (hts _ wl_90) (fun _ h9 => h9) rfl dX7_judge_32 ?_
          refine lv_iload_n hx hb dX7_judge_35 rfl (lv_at hl 2 rfl) ?_
          obtain ⟨h11, hf⟩ := dq_g hf
          refine va_iald (cA := y 1) (n := 6) (f := r_isOn) hx hb hK hP 10 1 rfl rfl h11 dX7_judge_36 ?_
          refine lv_iconst (v := 1) hx hb dX7_judge_37 (by decide) ?_
          refine lv_icmp_ne (tgt := 50) hx hb dX7_judge_38 (by decide) (fun c12 => ?_) (fun c12 => ?_)
          · have hf := dq_f hf c12
            clear c12
            refine lv_bipush (v := 36) hx hb dX7_judge_50 (by decide) ?_
            exact J52 _ hf _ _ hP hD hS _ (lv_sub hl [0, 1, 2] rfl)
          · have hf := dq_t hf c12
            clear c12
            refine lv_aload_n hx hb dX7_judge_41 rfl (lv_at hl 0 rfl) ?_
            refine va_get (D := D) (ci := 6) (v := .ref (a 8)) (C := RX7) (T := TX7) (N := 53) hx hb hts iwX7 hown hK hP 0 rfl rfl 9 (by decide) (hts _ wl_88) (fun _ h9 => h9) rfl dX7_judge_42 ?_
            refine lv_iload_n hx hb dX7_judge_45 rfl (lv_at hl 2 rfl) ?_
            obtain ⟨h13, hf⟩ := dq_g hf
            refine va_iald (cA := y 1) (n := 6) (f := r_sitsAt) hx hb hK hP 8 1 rfl rfl h13 dX7_judge_46 ?_
            refine lv_goto (tgt := 52) hx hb dX7_judge_47 (by decide) ?_
            exact J52 _ hf _ _ hP hD hS _ (lv_sub hl [0, 1, 2] rfl)
        · have hf := dq_f hf c10
          clear c10
          refine lv_iconst (v := -1) hx hb dX7_judge_27 (by decide) ?_
          refine lv_goto (tgt := 52) hx hb dX7_judge_28 (by decide) ?_
          exact J52 _ hf _ _ hP hD hS _ (lv_sub hl [0, 1, 2] rfl)
  exact J15 4096 _ _ hf _ _ hP hD hS _ (lv_sub hl [2, 1, 0] rfl)
