noncomputable def f_X7_pegs_b81 (n0 : Int32) (r_refusals : (Nat → Int32)) (r_pegHolds_10 : (Nat → Int32)) (r_pegSort_12 : (Nat → Int32)) (r_pegMany_14 : (Nat → Int32))  : Nat → Int32 → (Nat → Int32) → Option (Int32 × Int32 × (Nat → Int32) × (Nat → Int32) × (Nat → Int32) × (Nat → Int32) × (Nat → Int32))
  | 0, _, _ => none
  | m81 + 1, x15, r_coats_16 => dq_if ((12 : Int32) ≤ x15) (some ((1 : Int32), (0 : Int32), r_refusals, r_pegSort_12, r_pegMany_14, r_pegHolds_10, r_coats_16)) (dq_gd (vp_in (((12 : Int32) * n0) + x15) 36) (dq_let (upd r_coats_16 (((12 : Int32) * n0) + x15).toNatClampNeg (-1 : Int32)) (fun (r_coats_19 : (Nat → Int32)) => dq_let (x15 + (1 : Int32)) (fun (x20 : Int32) => (f_X7_pegs_b81 n0 r_refusals r_pegHolds_10 r_pegSort_12 r_pegMany_14 m81) x20 r_coats_19))))
noncomputable def f_X7_pegs (r_refusals : (Nat → Int32)) (r_pegSort : (Nat → Int32)) (r_pegMany : (Nat → Int32)) (r_pegHolds : (Nat → Int32)) (r_coats : (Nat → Int32)) (n0 : Int32) (n1 : Int32) (n2 : Int32) : Option (Int32 × Int32 × (Nat → Int32) × (Nat → Int32) × (Nat → Int32) × (Nat → Int32) × (Nat → Int32)) := dq_bd (f_X7_isPeg n0) (fun (x1 : Int32) => dq_if (x1 = 0) (dq_bd2 (f_X7_refuse r_refusals (-1 : Int32)) (fun (x27 : Int32) (r_refusals_28 : (Nat → Int32)) => some (x27, (0 : Int32), r_refusals_28, r_pegSort, r_pegMany, r_pegHolds, r_coats))) (dq_bd (f_X7_in n1.toInt64 (0 : Int64) (2 : Int64)) (fun (x4 : Int32) => dq_if (x4 = 0) (dq_bd2 (f_X7_refuse r_refusals (-2 : Int32)) (fun (x24 : Int32) (r_refusals_25 : (Nat → Int32)) => some (x24, (0 : Int32), r_refusals_25, r_pegSort, r_pegMany, r_pegHolds, r_coats))) (dq_if (n2 ≤ (12 : Int32)) (dq_if (0 ≤ n2) (dq_gd (vp_in n0 3) (dq_let (upd r_pegHolds n0.toNatClampNeg (1 : Int32)) (fun (r_pegHolds_10 : (Nat → Int32)) => dq_gd (vp_in n0 3) (dq_let (upd r_pegSort n0.toNatClampNeg n1) (fun (r_pegSort_12 : (Nat → Int32)) => dq_gd (vp_in n0 3) (dq_let (upd r_pegMany n0.toNatClampNeg n2) (fun (r_pegMany_14 : (Nat → Int32)) => f_X7_pegs_b81 n0 r_refusals r_pegHolds_10 r_pegSort_12 r_pegMany_14 4096 (0 : Int32) r_coats))))))) (some ((-14 : Int32), (0 : Int32), r_refusals, r_pegSort, r_pegMany, r_pegHolds, r_coats))) (dq_bd2 (f_X7_refuse r_refusals (-6 : Int32)) (fun (x21 : Int32) (r_refusals_22 : (Nat → Int32)) => some (x21, (0 : Int32), r_refusals_22, r_pegSort, r_pegMany, r_pegHolds, r_coats)))))))
def wA_X7_pegs : List Cond := .code yX7_pegs cX7_pegs 5 (some .int) :: wsL_law
-- DraughtsTakeModel.pegs(III)I
set_option maxHeartbeats 4000000 in
set_option maxRecDepth 100000 in
theorem m_X7_pegs (l : Launch) (D : va_G) (y : Nat → ClassId) (a : (Nat → Nat)) (r_airs : Int32) (r_sitters : Int32) (r_stepMany : Int32) (r_today : Int32) (r_taken : Int32) (r_isStill : Int32) (r_thrown : Int32) (r_letterMany : Int32) (r_at0 : Int32) (r_isBad : Int32) (r_statements : Int32) (r_stepsMany : Int32) (r_hasImage : Int32) (r_place0 : Int32) (r_isTaking : Int32) (r_keptIn : Value) (r_turned : Int32) (r_rowMany : Int32) (r_seed : Int32) (r_warms : (Nat → UInt32)) (r_shutAt : (Nat → Int32)) (r_kinds0 : (Nat → Int32)) (r_figures : (Nat → Int32)) (r_airAt : (Nat → Int32)) (r_ways : (Nat → Int32)) (r_crowned : (Nat → Int32)) (r_sitsAt : (Nat → Int32)) (r_shawls : (Nat → Int32)) (r_isOn : (Nat → Int32)) (r_stepOf : (Nat → Int32)) (r_stepBy : (Nat → Int32)) (r_refusals : (Nat → Int32)) (r_letters : (Nat → Int32)) (r_placeIn : (Nat → Int32)) (r_letterOf : (Nat → Int32)) (r_numbers : (Nat → Int32)) (r_stepsRead : (Nat → Int32)) (r_stepsBy : (Nat → Int32)) (r_kept : (Nat → Int32)) (r_keptWarms : (Nat → UInt32)) (r_i_imaged : (Nat → Int32)) (r_imagedWarms : (Nat → UInt32)) (r_turns0 : (Nat → Int32)) (r_turnWarms0 : (Nat → UInt32)) (r_turnOf : (Nat → Int32)) (r_turnWarms : (Nat → UInt32)) (r_row0 : (Nat → Int32)) (r_gains : (Nat → Int32)) (r_pegSort : (Nat → Int32)) (r_pegMany : (Nat → Int32)) (r_pegHolds : (Nat → Int32)) (r_coats : (Nat → Int32)) (r_coatsMoved : (Nat → Int32)) (n0 : Int32) (n1 : Int32) (n2 : Int32) (z0 : Int32) (z1 : Int32) (z2 : (Nat → Int32)) (z3 : (Nat → Int32)) (z4 : (Nat → Int32)) (z5 : (Nat → Int32)) (z6 : (Nat → Int32)) (hf : f_X7_pegs r_refusals r_pegSort r_pegMany r_pegHolds r_coats n0 n1 n2 = some (z0, z1, z2, z3, z4, z5, z6)) : Ct l D y yX7_pegs wA_X7_pegs 2 45 [.ref (a 0), .int n0, .int n1, .int n2] (w_X7 y a r_airs r_sitters r_stepMany r_today r_taken r_isStill r_thrown r_letterMany r_at0 r_isBad r_statements r_stepsMany r_hasImage r_place0 r_isTaking r_keptIn r_turned r_rowMany r_seed r_warms r_shutAt r_kinds0 r_figures r_airAt r_ways r_crowned r_sitsAt r_shawls r_isOn r_stepOf r_stepBy r_refusals r_letters r_placeIn r_letterOf r_numbers r_stepsRead r_stepsBy r_kept r_keptWarms r_i_imaged r_imagedWarms r_turns0 r_turnWarms0 r_turnOf r_turnWarms r_row0 r_gains r_pegSort r_pegMany r_pegHolds r_coats r_coatsMoved) (w_X7 y a r_airs r_sitters r_stepMany r_today r_taken r_isStill z1 r_letterMany r_at0 r_isBad r_statements r_stepsMany r_hasImage r_place0 r_isTaking r_keptIn r_turned r_rowMany r_seed r_warms r_shutAt r_kinds0 r_figures r_airAt r_ways r_crowned r_sitsAt r_shawls r_isOn r_stepOf r_stepBy z2 r_letters r_placeIn r_letterOf r_numbers r_stepsRead r_stepsBy r_kept r_keptWarms r_i_imaged r_imagedWarms r_turns0 r_turnWarms0 r_turnOf r_turnWarms r_row0 r_gains z3 z4 z5 z6 r_coatsMoved) (some (.int z0)) := by
  refine ct_head (cc := cX7_pegs) (n := 5) (ret := (some .int)) (by decide) rfl (Nat.le_of_ble_eq_true rfl) ?_
  intro p e s m below meth c A ls hx hb hr hml hown hlocks hts hA hAe hP hK hD hl
  have hS : va_S A s.heap s.heap [] := va_S.rf
  have hl : lv_has ls 5 [(0, .ref (a 0)), (1, .int n0), (2, .int n1), (3, .int n2)] := hl
  have hown : s.vm.findClass RX7 = some m.cls := hown
  have hts : ∀ w ∈ wsL_law, w.before [.ref (a 0), .int n0, .int n1, .int n2].toArray s = true := fun w h => hts w (List.mem_cons_of_mem _ h)
  unfold f_X7_pegs at hf
  refine lv_aload_n hx hb dX7_pegs_0 rfl (lv_at hl 0 rfl) ?_
  refine lv_iconst (v := 0) hx hb dX7_pegs_1 (by decide) ?_
  refine va_put (D := D) (ci := 6) (v := .int (0 : Int32)) (ty := .int) (C := RX7) (T := TX7) (N := 53) hx hb hts iwX7 tyX7 tyX7_ok nmX7 hown hK hP hD hS 0 rfl rfl 18 (by decide) (hts _ wl_116) (fun _ h9 => h9) rfl (tyX7_ok 18 (by decide)) rfl rfl (Nat.le_of_ble_eq_true rfl) dX7_pegs_2 (fun H locs hP hD hS => ?_)
  have hP : va_P D vwCl (w_X7 y a r_airs r_sitters r_stepMany r_today r_taken r_isStill (0 : Int32) r_letterMany r_at0 r_isBad r_statements r_stepsMany r_hasImage r_place0 r_isTaking r_keptIn r_turned r_rowMany r_seed r_warms r_shutAt r_kinds0 r_figures r_airAt r_ways r_crowned r_sitsAt r_shawls r_isOn r_stepOf r_stepBy r_refusals r_letters r_placeIn r_letterOf r_numbers r_stepsRead r_stepsBy r_kept r_keptWarms r_i_imaged r_imagedWarms r_turns0 r_turnWarms0 r_turnOf r_turnWarms r_row0 r_gains r_pegSort r_pegMany r_pegHolds r_coats r_coatsMoved) H := hP
  have hD : va_D A (w_X7 y a r_airs r_sitters r_stepMany r_today r_taken r_isStill (0 : Int32) r_letterMany r_at0 r_isBad r_statements r_stepsMany r_hasImage r_place0 r_isTaking r_keptIn r_turned r_rowMany r_seed r_warms r_shutAt r_kinds0 r_figures r_airAt r_ways r_crowned r_sitsAt r_shawls r_isOn r_stepOf r_stepBy r_refusals r_letters r_placeIn r_letterOf r_numbers r_stepsRead r_stepsBy r_kept r_keptWarms r_i_imaged r_imagedWarms r_turns0 r_turnWarms0 r_turnOf r_turnWarms r_row0 r_gains r_pegSort r_pegMany r_pegHolds r_coats r_coatsMoved) := hD
  refine lv_iload_n hx hb dX7_pegs_5 rfl (lv_at hl 1 rfl) ?_
  obtain ⟨x1, hy2, hf⟩ := dq_b hf
  refine ct_callS0 (own := RX7) (As := [.int n0]) (rest := []) ⟨hx, hb, hml, hown, hts⟩ (m_X7_isPeg l D y n0 x1 hy2) (va_cwS 1 hts (gA_S wl_987 wl_988 wl_5 wl_989) rfl rfl rfl (by decide +kernel) ⟨Nat.le_of_ble_eq_true rfl, Nat.le_of_ble_eq_true rfl⟩) rfl hl.1 rfl (Nat.le_of_ble_eq_true rfl) dX7_pegs_6 ⟨Nat.zero_le _, Nat.zero_le _⟩ hK hP hD hS hA (fun H locs hP hD hS => ?_)
  refine lv_if_ne (tgt := 18) hx hb dX7_pegs_9 (by decide) (fun c3 => ?_) (fun c3 => ?_)
  · have hf := dq_f hf c3
    clear c3
    refine lv_iload_n hx hb dX7_pegs_18 rfl (lv_at hl 2 rfl) ?_
    refine lv_i2l hx hb dX7_pegs_19 rfl ?_
    refine lv_lconst (v := 0) hx hb dX7_pegs_20 (by decide) ?_
    refine lv_ldc2 hx hb hown (hts _ wl_568) dX7_pegs_21 ?_
    obtain ⟨x4, hy5, hf⟩ := dq_b hf
    refine ct_callS0 (own := RX7) (As := [.long n1.toInt64, .long (0 : Int64), .long (2 : Int64)]) (rest := []) ⟨hx, hb, hml, hown, hts⟩ (m_X7_in l D y n1.toInt64 (0 : Int64) (2 : Int64) x4 hy5) (va_cwS 3 hts (gA_S wl_391 wl_392 wl_5 wl_393) rfl rfl rfl (by decide +kernel) ⟨Nat.le_of_ble_eq_true rfl, Nat.le_of_ble_eq_true rfl⟩) rfl hl.1 rfl (Nat.le_of_ble_eq_true rfl) dX7_pegs_24 ⟨Nat.zero_le _, Nat.zero_le _⟩ hK hP hD hS hA (fun H locs hP hD hS => ?_)
    refine lv_if_ne (tgt := 37) hx hb dX7_pegs_27 (by decide) (fun c6 => ?_) (fun c6 => ?_)
    · have hf := dq_f hf c6
      clear c6
      refine lv_iload_n hx hb dX7_pegs_37 rfl (lv_at hl 3 rfl) ?_
      refine lv_bipush (v := 12) hx hb dX7_pegs_38 (by decide) ?_
      refine lv_icmp_le (tgt := 50) hx hb dX7_pegs_40 (by decide) (fun c7 => ?_) (fun c7 => ?_)
      · have hf := dq_t hf c7
        clear c7
        refine lv_iload_n hx hb dX7_pegs_50 rfl (lv_at hl 3 rfl) ?_
        refine lv_if_ge (tgt := 57) hx hb dX7_pegs_51 (by decide) (fun c8 => ?_) (fun c8 => ?_)
        · have hf := dq_t hf c8
          clear c8
          refine lv_aload_n hx hb dX7_pegs_57 rfl (lv_at hl 0 rfl) ?_
          refine va_get (D := D) (ci := 6) (v := .ref (a 32)) (C := RX7) (T := TX7) (N := 53) hx hb hts iwX7 hown hK hP 0 rfl rfl 49 (by decide) (hts _ wl_113) (fun _ h9 => h9) rfl dX7_pegs_58 ?_
          refine lv_iload_n hx hb dX7_pegs_61 rfl (lv_at hl 1 rfl) ?_
          refine lv_iconst (v := 1) hx hb dX7_pegs_62 (by decide) ?_
          obtain ⟨h9, hf⟩ := dq_g hf
          refine dq_zast (cA := y 2) (n := 3) (f := r_pegHolds) hx hb hK hP hD hS 32 2 rfl rfl h9 (Or.inr rfl) dX7_pegs_63 (fun r_pegHolds_10 er_pegHolds_10 H locs hP hD hS => ?_)
          have hf := dq_l hf r_pegHolds_10 er_pegHolds_10
          clear er_pegHolds_10
          have hP : va_P D vwCl (w_X7 y a r_airs r_sitters r_stepMany r_today r_taken r_isStill (0 : Int32) r_letterMany r_at0 r_isBad r_statements r_stepsMany r_hasImage r_place0 r_isTaking r_keptIn r_turned r_rowMany r_seed r_warms r_shutAt r_kinds0 r_figures r_airAt r_ways r_crowned r_sitsAt r_shawls r_isOn r_stepOf r_stepBy r_refusals r_letters r_placeIn r_letterOf r_numbers r_stepsRead r_stepsBy r_kept r_keptWarms r_i_imaged r_imagedWarms r_turns0 r_turnWarms0 r_turnOf r_turnWarms r_row0 r_gains r_pegSort r_pegMany r_pegHolds_10 r_coats r_coatsMoved) H := hP
          have hD : va_D A (w_X7 y a r_airs r_sitters r_stepMany r_today r_taken r_isStill (0 : Int32) r_letterMany r_at0 r_isBad r_statements r_stepsMany r_hasImage r_place0 r_isTaking r_keptIn r_turned r_rowMany r_seed r_warms r_shutAt r_kinds0 r_figures r_airAt r_ways r_crowned r_sitsAt r_shawls r_isOn r_stepOf r_stepBy r_refusals r_letters r_placeIn r_letterOf r_numbers r_stepsRead r_stepsBy r_kept r_keptWarms r_i_imaged r_imagedWarms r_turns0 r_turnWarms0 r_turnOf r_turnWarms r_row0 r_gains r_pegSort r_pegMany r_pegHolds_10 r_coats r_coatsMoved) := hD
          refine lv_aload_n hx hb dX7_pegs_64 rfl (lv_at hl 0 rfl) ?_
          refine va_get (D := D) (ci := 6) (v := .ref (a 30)) (C := RX7) (T := TX7) (N := 53) hx hb hts iwX7 hown hK hP 0 rfl rfl 47 (by decide) (hts _ wl_110) (fun _ h9 => h9) rfl dX7_pegs_65 ?_
          refine lv_iload_n hx hb dX7_pegs_68 rfl (lv_at hl 1 rfl) ?_
          refine lv_iload_n hx hb dX7_pegs_69 rfl (lv_at hl 2 rfl) ?_
          obtain ⟨h11, hf⟩ := dq_g hf
          refine dq_iast (cA := y 1) (n := 3) (f := r_pegSort) hx hb hK hP hD hS 30 1 rfl rfl h11 dX7_pegs_70 (fun r_pegSort_12 er_pegSort_12 H locs hP hD hS => ?_)
          have hf := dq_l hf r_pegSort_12 er_pegSort_12
          clear er_pegSort_12
          have hP : va_P D vwCl (w_X7 y a r_airs r_sitters r_stepMany r_today r_taken r_isStill (0 : Int32) r_letterMany r_at0 r_isBad r_statements r_stepsMany r_hasImage r_place0 r_isTaking r_keptIn r_turned r_rowMany r_seed r_warms r_shutAt r_kinds0 r_figures r_airAt r_ways r_crowned r_sitsAt r_shawls r_isOn r_stepOf r_stepBy r_refusals r_letters r_placeIn r_letterOf r_numbers r_stepsRead r_stepsBy r_kept r_keptWarms r_i_imaged r_imagedWarms r_turns0 r_turnWarms0 r_turnOf r_turnWarms r_row0 r_gains r_pegSort_12 r_pegMany r_pegHolds_10 r_coats r_coatsMoved) H := hP
          have hD : va_D A (w_X7 y a r_airs r_sitters r_stepMany r_today r_taken r_isStill (0 : Int32) r_letterMany r_at0 r_isBad r_statements r_stepsMany r_hasImage r_place0 r_isTaking r_keptIn r_turned r_rowMany r_seed r_warms r_shutAt r_kinds0 r_figures r_airAt r_ways r_crowned r_sitsAt r_shawls r_isOn r_stepOf r_stepBy r_refusals r_letters r_placeIn r_letterOf r_numbers r_stepsRead r_stepsBy r_kept r_keptWarms r_i_imaged r_imagedWarms r_turns0 r_turnWarms0 r_turnOf r_turnWarms r_row0 r_gains r_pegSort_12 r_pegMany r_pegHolds_10 r_coats r_coatsMoved) := hD
          refine lv_aload_n hx hb dX7_pegs_71 rfl (lv_at hl 0 rfl) ?_
          refine va_get (D := D) (ci := 6) (v := .ref (a 31)) (C := RX7) (T := TX7) (N := 53) hx hb hts iwX7 hown hK hP 0 rfl rfl 48 (by decide) (hts _ wl_111) (fun _ h9 => h9) rfl dX7_pegs_72 ?_
          refine lv_iload_n hx hb dX7_pegs_75 rfl (lv_at hl 1 rfl) ?_
          refine lv_iload_n hx hb dX7_pegs_76 rfl (lv_at hl 3 rfl) ?_
          obtain ⟨h13, hf⟩ := dq_g hf
          refine dq_iast (cA := y 1) (n := 3) (f := r_pegMany) hx hb hK hP hD hS 31 1 rfl rfl h13 dX7_pegs_77 (fun r_pegMany_14 er_pegMany_14 H locs hP hD hS => ?_)
          have hf := dq_l hf r_pegMany_14 er_pegMany_14
          clear er_pegMany_14
          have hP : va_P D vwCl (w_X7 y a r_airs r_sitters r_stepMany r_today r_taken r_isStill (0 : Int32) r_letterMany r_at0 r_isBad r_statements r_stepsMany r_hasImage r_place0 r_isTaking r_keptIn r_turned r_rowMany r_seed r_warms r_shutAt r_kinds0 r_figures r_airAt r_ways r_crowned r_sitsAt r_shawls r_isOn r_stepOf r_stepBy r_refusals r_letters r_placeIn r_letterOf r_numbers r_stepsRead r_stepsBy r_kept r_keptWarms r_i_imaged r_imagedWarms r_turns0 r_turnWarms0 r_turnOf r_turnWarms r_row0 r_gains r_pegSort_12 r_pegMany_14 r_pegHolds_10 r_coats r_coatsMoved) H := hP
          have hD : va_D A (w_X7 y a r_airs r_sitters r_stepMany r_today r_taken r_isStill (0 : Int32) r_letterMany r_at0 r_isBad r_statements r_stepsMany r_hasImage r_place0 r_isTaking r_keptIn r_turned r_rowMany r_seed r_warms r_shutAt r_kinds0 r_figures r_airAt r_ways r_crowned r_sitsAt r_shawls r_isOn r_stepOf r_stepBy r_refusals r_letters r_placeIn r_letterOf r_numbers r_stepsRead r_stepsBy r_kept r_keptWarms r_i_imaged r_imagedWarms r_turns0 r_turnWarms0 r_turnOf r_turnWarms r_row0 r_gains r_pegSort_12 r_pegMany_14 r_pegHolds_10 r_coats r_coatsMoved) := hD
          refine lv_iconst (v := 0) hx hb dX7_pegs_78 (by decide) ?_
          refine lv_istore (lv' := [(4, .int (0 : Int32)), (0, .ref (a 0)), (1, .int n0), (2, .int n1), (3, .int n2)]) hx hb dX7_pegs_79 hl (by decide) rfl (fun ls hl => ?_)
          have J81 : ∀ (m81 : Nat) (x15 : Int32) (r_coats_16 : (Nat → Int32)), f_X7_pegs_b81 n0 r_refusals r_pegHolds_10 r_pegSort_12 r_pegMany_14 m81 x15 r_coats_16 = some (z0, z1, z2, z3, z4, z5, z6) → ∀ (H : Heap) (locs : List Loc), va_P D vwCl (w_X7 y a r_airs r_sitters r_stepMany r_today r_taken r_isStill (0 : Int32) r_letterMany r_at0 r_isBad r_statements r_stepsMany r_hasImage r_place0 r_isTaking r_keptIn r_turned r_rowMany r_seed r_warms r_shutAt r_kinds0 r_figures r_airAt r_ways r_crowned r_sitsAt r_shawls r_isOn r_stepOf r_stepBy r_refusals r_letters r_placeIn r_letterOf r_numbers r_stepsRead r_stepsBy r_kept r_keptWarms r_i_imaged r_imagedWarms r_turns0 r_turnWarms0 r_turnOf r_turnWarms r_row0 r_gains r_pegSort_12 r_pegMany_14 r_pegHolds_10 r_coats_16 r_coatsMoved) H → va_D A (w_X7 y a r_airs r_sitters r_stepMany r_today r_taken r_isStill (0 : Int32) r_letterMany r_at0 r_isBad r_statements r_stepsMany r_hasImage r_place0 r_isTaking r_keptIn r_turned r_rowMany r_seed r_warms r_shutAt r_kinds0 r_figures r_airAt r_ways r_crowned r_sitsAt r_shawls r_isOn r_stepOf r_stepBy r_refusals r_letters r_placeIn r_letterOf r_numbers r_stepsRead r_stepsBy r_kept r_keptWarms r_i_imaged r_imagedWarms r_turns0 r_turnWarms0 r_turnOf r_turnWarms r_row0 r_gains r_pegSort_12 r_pegMany_14 r_pegHolds_10 r_coats_16 r_coatsMoved) → va_S A s.heap H locs → ∀ ls : Array Slot, lv_has ls 5 [(0, .ref (a 0)), (1, .int n0), (4, .int x15)] → W p l e ({ frames := 2, cells := 0, slots := 0, locals := 45 } : Room) s m [.ref (a 0), .int n0, .int n1, .int n2].toArray below meth c H locs 0 0 (MQ below (dQ D y (some (.int z0)) s.heap.size (w_X7 y a r_airs r_sitters r_stepMany r_today r_taken r_isStill r_thrown r_letterMany r_at0 r_isBad r_statements r_stepsMany r_hasImage r_place0 r_isTaking r_keptIn r_turned r_rowMany r_seed r_warms r_shutAt r_kinds0 r_figures r_airAt r_ways r_crowned r_sitsAt r_shawls r_isOn r_stepOf r_stepBy r_refusals r_letters r_placeIn r_letterOf r_numbers r_stepsRead r_stepsBy r_kept r_keptWarms r_i_imaged r_imagedWarms r_turns0 r_turnWarms0 r_turnOf r_turnWarms r_row0 r_gains r_pegSort r_pegMany r_pegHolds r_coats r_coatsMoved) (w_X7 y a r_airs r_sitters r_stepMany r_today r_taken r_isStill z1 r_letterMany r_at0 r_isBad r_statements r_stepsMany r_hasImage r_place0 r_isTaking r_keptIn r_turned r_rowMany r_seed r_warms r_shutAt r_kinds0 r_figures r_airAt r_ways r_crowned r_sitsAt r_shawls r_isOn r_stepOf r_stepBy z2 r_letters r_placeIn r_letterOf r_numbers r_stepsRead r_stepsBy r_kept r_keptWarms r_i_imaged r_imagedWarms r_turns0 r_turnWarms0 r_turnOf r_turnWarms r_row0 r_gains z3 z4 z5 z6 r_coatsMoved)) [.ref (a 0), .int n0, .int n1, .int n2].toArray s 0 0 A) (F0 m 81 ls []) := by
            intro m81
            induction m81 with
            | zero => intro x15 r_coats_16 hf; exact absurd hf (by unfold f_X7_pegs_b81; exact fun h => by cases h)
            | succ m81 I81 =>
              intro x15 r_coats_16 hf H locs hP hD hS ls hl
              unfold f_X7_pegs_b81 at hf
              refine lv_iload hx hb dX7_pegs_81 (lv_at hl 2 rfl) ?_
              refine lv_bipush (v := 12) hx hb dX7_pegs_83 (by decide) ?_
              refine lv_icmp_ge (tgt := 107) hx hb dX7_pegs_85 (by decide) (fun c17 => ?_) (fun c17 => ?_)
              · have hf := dq_t hf c17
                clear c17
                refine lv_iconst (v := 1) hx hb dX7_pegs_107 (by decide) ?_
                obtain ⟨rfl, rfl, rfl, rfl, rfl, rfl, rfl⟩ := dq_r7 hf
                exact ct_iret hx hb hr hlocks hAe hP hK hD hS dX7_pegs_108
              · have hf := dq_f hf c17
                clear c17
                refine lv_aload_n hx hb dX7_pegs_88 rfl (lv_at hl 0 rfl) ?_
                refine va_get (D := D) (ci := 6) (v := .ref (a 33)) (C := RX7) (T := TX7) (N := 53) hx hb hts iwX7 hown hK hP 0 rfl rfl 50 (by decide) (hts _ wl_114) (fun _ h9 => h9) rfl dX7_pegs_89 ?_
                refine lv_bipush (v := 12) hx hb dX7_pegs_92 (by decide) ?_
                refine lv_iload_n hx hb dX7_pegs_94 rfl (lv_at hl 1 rfl) ?_
                refine lv_imul hx hb dX7_pegs_95 ?_
                refine lv_iload hx hb dX7_pegs_96 (lv_at hl 2 rfl) ?_
                refine lv_iadd hx hb dX7_pegs_98 ?_
                refine lv_iconst (v := -1) hx hb dX7_pegs_99 (by decide) ?_
                obtain ⟨h18, hf⟩ := dq_g hf
                refine dq_iast (cA := y 1) (n := 36) (f := r_coats_16) hx hb hK hP hD hS 33 1 rfl rfl h18 dX7_pegs_100 (fun r_coats_19 er_coats_19 H locs hP hD hS => ?_)
                have hf := dq_l hf r_coats_19 er_coats_19
                clear er_coats_19
                have hP : va_P D vwCl (w_X7 y a r_airs r_sitters r_stepMany r_today r_taken r_isStill (0 : Int32) r_letterMany r_at0 r_isBad r_statements r_stepsMany r_hasImage r_place0 r_isTaking r_keptIn r_turned r_rowMany r_seed r_warms r_shutAt r_kinds0 r_figures r_airAt r_ways r_crowned r_sitsAt r_shawls r_isOn r_stepOf r_stepBy r_refusals r_letters r_placeIn r_letterOf r_numbers r_stepsRead r_stepsBy r_kept r_keptWarms r_i_imaged r_imagedWarms r_turns0 r_turnWarms0 r_turnOf r_turnWarms r_row0 r_gains r_pegSort_12 r_pegMany_14 r_pegHolds_10 r_coats_19 r_coatsMoved) H := hP
                have hD : va_D A (w_X7 y a r_airs r_sitters r_stepMany r_today r_taken r_isStill (0 : Int32) r_letterMany r_at0 r_isBad r_statements r_stepsMany r_hasImage r_place0 r_isTaking r_keptIn r_turned r_rowMany r_seed r_warms r_shutAt r_kinds0 r_figures r_airAt r_ways r_crowned r_sitsAt r_shawls r_isOn r_stepOf r_stepBy r_refusals r_letters r_placeIn r_letterOf r_numbers r_stepsRead r_stepsBy r_kept r_keptWarms r_i_imaged r_imagedWarms r_turns0 r_turnWarms0 r_turnOf r_turnWarms r_row0 r_gains r_pegSort_12 r_pegMany_14 r_pegHolds_10 r_coats_19 r_coatsMoved) := hD
                obtain ⟨x20, ex20⟩ : ∃ z : Int32, z = (x15 + (1 : Int32)) := ⟨_, rfl⟩
                have hf := dq_l hf x20 ex20
                refine lv_iinc (v := x20) (lv' := [(4, .int x20), (0, .ref (a 0)), (1, .int n0)]) hx hb dX7_pegs_101 hl (k := 2) rfl (by rw [ex20]; rfl) (by decide) rfl (fun ls hl => ?_)
                clear ex20
                refine lv_goto (tgt := 81) hx hb dX7_pegs_104 (by decide) ?_
                exact I81 _ _ hf _ _ hP hD hS _ (lv_sub hl [1, 2, 0] rfl)
          exact J81 4096 _ _ hf _ _ hP hD hS _ (lv_sub hl [1, 2, 0] rfl)
        · have hf := dq_f hf c8
          clear c8
          refine lv_bipush (v := -14) hx hb dX7_pegs_54 (by decide) ?_
          obtain ⟨rfl, rfl, rfl, rfl, rfl, rfl, rfl⟩ := dq_r7 hf
          exact ct_iret hx hb hr hlocks hAe hP hK hD hS dX7_pegs_56
      · have hf := dq_f hf c7
        clear c7
        refine lv_aload_n hx hb dX7_pegs_43 rfl (lv_at hl 0 rfl) ?_
        refine lv_bipush (v := -6) hx hb dX7_pegs_44 (by decide) ?_
        obtain ⟨x21, r_refusals_22, hy23, hf⟩ := dq_b2 hf
        refine ct_callV0 (ci := 6) (q0 := 0) (own := RX7) (As := [.int (-6 : Int32)]) (rest := []) (ws' := (w_X7 y a r_airs r_sitters r_stepMany r_today r_taken r_isStill (0 : Int32) r_letterMany r_at0 r_isBad r_statements r_stepsMany r_hasImage r_place0 r_isTaking r_keptIn r_turned r_rowMany r_seed r_warms r_shutAt r_kinds0 r_figures r_airAt r_ways r_crowned r_sitsAt r_shawls r_isOn r_stepOf r_stepBy r_refusals_22 r_letters r_placeIn r_letterOf r_numbers r_stepsRead r_stepsBy r_kept r_keptWarms r_i_imaged r_imagedWarms r_turns0 r_turnWarms0 r_turnOf r_turnWarms r_row0 r_gains r_pegSort r_pegMany r_pegHolds r_coats r_coatsMoved)) ⟨hx, hb, hml, hown, hts⟩ (m_X7_refuse l D y a r_airs r_sitters r_stepMany r_today r_taken r_isStill (0 : Int32) r_letterMany r_at0 r_isBad r_statements r_stepsMany r_hasImage r_place0 r_isTaking r_keptIn r_turned r_rowMany r_seed r_warms r_shutAt r_kinds0 r_figures r_airAt r_ways r_crowned r_sitsAt r_shawls r_isOn r_stepOf r_stepBy r_refusals r_letters r_placeIn r_letterOf r_numbers r_stepsRead r_stepsBy r_kept r_keptWarms r_i_imaged r_imagedWarms r_turns0 r_turnWarms0 r_turnOf r_turnWarms r_row0 r_gains r_pegSort r_pegMany r_pegHolds r_coats r_coatsMoved (-6 : Int32) x21 r_refusals_22 hy23) (cwV 1 hts (gA_V wl_133 wl_134 wl_135 wl_5 wl_136) rfl rfl rfl (by decide +kernel) ⟨Nat.le_of_ble_eq_true rfl, Nat.le_of_ble_eq_true rfl⟩) rfl rfl rfl hl.1 rfl (Nat.le_of_ble_eq_true rfl) dX7_pegs_46 ⟨Nat.zero_le _, Nat.zero_le _⟩ hK hP hD hS hA (fun H locs hP hD hS => ?_)
        obtain ⟨rfl, rfl, rfl, rfl, rfl, rfl, rfl⟩ := dq_r7 hf
        exact ct_iret hx hb hr hlocks hAe hP hK hD hS dX7_pegs_49
    · have hf := dq_t hf c6
      clear c6
      refine lv_aload_n hx hb dX7_pegs_30 rfl (lv_at hl 0 rfl) ?_
      refine lv_bipush (v := -2) hx hb dX7_pegs_31 (by decide) ?_
      obtain ⟨x24, r_refusals_25, hy26, hf⟩ := dq_b2 hf
      refine ct_callV0 (ci := 6) (q0 := 0) (own := RX7) (As := [.int (-2 : Int32)]) (rest := []) (ws' := (w_X7 y a r_airs r_sitters r_stepMany r_today r_taken r_isStill (0 : Int32) r_letterMany r_at0 r_isBad r_statements r_stepsMany r_hasImage r_place0 r_isTaking r_keptIn r_turned r_rowMany r_seed r_warms r_shutAt r_kinds0 r_figures r_airAt r_ways r_crowned r_sitsAt r_shawls r_isOn r_stepOf r_stepBy r_refusals_25 r_letters r_placeIn r_letterOf r_numbers r_stepsRead r_stepsBy r_kept r_keptWarms r_i_imaged r_imagedWarms r_turns0 r_turnWarms0 r_turnOf r_turnWarms r_row0 r_gains r_pegSort r_pegMany r_pegHolds r_coats r_coatsMoved)) ⟨hx, hb, hml, hown, hts⟩ (m_X7_refuse l D y a r_airs r_sitters r_stepMany r_today r_taken r_isStill (0 : Int32) r_letterMany r_at0 r_isBad r_statements r_stepsMany r_hasImage r_place0 r_isTaking r_keptIn r_turned r_rowMany r_seed r_warms r_shutAt r_kinds0 r_figures r_airAt r_ways r_crowned r_sitsAt r_shawls r_isOn r_stepOf r_stepBy r_refusals r_letters r_placeIn r_letterOf r_numbers r_stepsRead r_stepsBy r_kept r_keptWarms r_i_imaged r_imagedWarms r_turns0 r_turnWarms0 r_turnOf r_turnWarms r_row0 r_gains r_pegSort r_pegMany r_pegHolds r_coats r_coatsMoved (-2 : Int32) x24 r_refusals_25 hy26) (cwV 1 hts (gA_V wl_133 wl_134 wl_135 wl_5 wl_136) rfl rfl rfl (by decide +kernel) ⟨Nat.le_of_ble_eq_true rfl, Nat.le_of_ble_eq_true rfl⟩) rfl rfl rfl hl.1 rfl (Nat.le_of_ble_eq_true rfl) dX7_pegs_33 ⟨Nat.zero_le _, Nat.zero_le _⟩ hK hP hD hS hA (fun H locs hP hD hS => ?_)
      obtain ⟨rfl, rfl, rfl, rfl, rfl, rfl, rfl⟩ := dq_r7 hf
      exact ct_iret hx hb hr hlocks hAe hP hK hD hS dX7_pegs_36
  · have hf := dq_t hf c3
    clear c3
    refine lv_aload_n hx hb dX7_pegs_12 rfl (lv_at hl 0 rfl) ?_
    refine lv_iconst (v := -1) hx hb dX7_pegs_13 (by decide) ?_
    obtain ⟨x27, r_refusals_28, hy29, hf⟩ := dq_b2 hf
    refine ct_callV0 (ci := 6) (q0 := 0) (own := RX7) (As := [.int (-1 : Int32)]) (rest := []) (ws' := (w_X7 y a r_airs r_sitters r_stepMany r_today r_taken r_isStill (0 : Int32) r_letterMany r_at0 r_isBad r_statements r_stepsMany r_hasImage r_place0 r_isTaking r_keptIn r_turned r_rowMany r_seed r_warms r_shutAt r_kinds0 r_figures r_airAt r_ways r_crowned r_sitsAt r_shawls r_isOn r_stepOf r_stepBy r_refusals_28 r_letters r_placeIn r_letterOf r_numbers r_stepsRead r_stepsBy r_kept r_keptWarms r_i_imaged r_imagedWarms r_turns0 r_turnWarms0 r_turnOf r_turnWarms r_row0 r_gains r_pegSort r_pegMany r_pegHolds r_coats r_coatsMoved)) ⟨hx, hb, hml, hown, hts⟩ (m_X7_refuse l D y a r_airs r_sitters r_stepMany r_today r_taken r_isStill (0 : Int32) r_letterMany r_at0 r_isBad r_statements r_stepsMany r_hasImage r_place0 r_isTaking r_keptIn r_turned r_rowMany r_seed r_warms r_shutAt r_kinds0 r_figures r_airAt r_ways r_crowned r_sitsAt r_shawls r_isOn r_stepOf r_stepBy r_refusals r_letters r_placeIn r_letterOf r_numbers r_stepsRead r_stepsBy r_kept r_keptWarms r_i_imaged r_imagedWarms r_turns0 r_turnWarms0 r_turnOf r_turnWarms r_row0 r_gains r_pegSort r_pegMany r_pegHolds r_coats r_coatsMoved (-1 : Int32) x27 r_refusals_28 hy29) (cwV 1 hts (gA_V wl_133 wl_134 wl_135 wl_5 wl_136) rfl rfl rfl (by decide +kernel) ⟨Nat.le_of_ble_eq_true rfl, Nat.le_of_ble_eq_true rfl⟩) rfl rfl rfl hl.1 rfl (Nat.le_of_ble_eq_true rfl) dX7_pegs_14 ⟨Nat.zero_le _, Nat.zero_le _⟩ hK hP hD hS hA (fun H locs hP hD hS => ?_)
    obtain ⟨rfl, rfl, rfl, rfl, rfl, rfl, rfl⟩ := dq_r7 hf
    exact ct_iret hx hb hr hlocks hAe hP hK hD hS dX7_pegs_17
noncomputable def f_X7_wrongPlace (r_pegMany : (Nat → Int32)) (r_pegHolds : (Nat → Int32)) (n0 : Int32) (n1 : Int32) : Option Int32 := dq_gd (vp_in n0 3) (dq_if ((r_pegHolds n0.toNatClampNeg) = 0) (some (-11 : Int32)) (dq_gd (vp_in n0 3) (dq_bd (f_X7_in n1.toInt64 (0 : Int64) (((r_pegMany n0.toNatClampNeg) - (1 : Int32)).toInt64)) (fun (x4 : Int32) => dq_if (x4 = 0) (some (-13 : Int32)) (some (0 : Int32))))))
def wA_X7_wrongPlace : List Cond := .code yX7_wrongPlace cX7_wrongPlace 3 (some .int) :: wsL_law
-- DraughtsTakeModel.wrongPlace(II)I
set_option maxHeartbeats 4000000 in
set_option maxRecDepth 100000 in
theorem m_X7_wrongPlace (l : Launch) (D : va_G) (y : Nat → ClassId) (a : (Nat → Nat)) (r_airs : Int32) (r_sitters : Int32) (r_stepMany : Int32) (r_today : Int32) (r_taken : Int32) (r_isStill : Int32) (r_thrown : Int32) (r_letterMany : Int32) (r_at0 : Int32) (r_isBad : Int32) (r_statements : Int32) (r_stepsMany : Int32) (r_hasImage : Int32) (r_place0 : Int32) (r_isTaking : Int32) (r_keptIn : Value) (r_turned : Int32) (r_rowMany : Int32) (r_seed : Int32) (r_warms : (Nat → UInt32)) (r_shutAt : (Nat → Int32)) (r_kinds0 : (Nat → Int32)) (r_figures : (Nat → Int32)) (r_airAt : (Nat → Int32)) (r_ways : (Nat → Int32)) (r_crowned : (Nat → Int32)) (r_sitsAt : (Nat → Int32)) (r_shawls : (Nat → Int32)) (r_isOn : (Nat → Int32)) (r_stepOf : (Nat → Int32)) (r_stepBy : (Nat → Int32)) (r_refusals : (Nat → Int32)) (r_letters : (Nat → Int32)) (r_placeIn : (Nat → Int32)) (r_letterOf : (Nat → Int32)) (r_numbers : (Nat → Int32)) (r_stepsRead : (Nat → Int32)) (r_stepsBy : (Nat → Int32)) (r_kept : (Nat → Int32)) (r_keptWarms : (Nat → UInt32)) (r_i_imaged : (Nat → Int32)) (r_imagedWarms : (Nat → UInt32)) (r_turns0 : (Nat → Int32)) (r_turnWarms0 : (Nat → UInt32)) (r_turnOf : (Nat → Int32)) (r_turnWarms : (Nat → UInt32)) (r_row0 : (Nat → Int32)) (r_gains : (Nat → Int32)) (r_pegSort : (Nat → Int32)) (r_pegMany : (Nat → Int32)) (r_pegHolds : (Nat → Int32)) (r_coats : (Nat → Int32)) (r_coatsMoved : (Nat → Int32)) (n0 : Int32) (n1 : Int32) (z0 : Int32) (hf : f_X7_wrongPlace r_pegMany r_pegHolds n0 n1 = some z0) : Ct l D y yX7_wrongPlace wA_X7_wrongPlace 1 25 [.ref (a 0), .int n0, .int n1] (w_X7 y a r_airs r_sitters r_stepMany r_today r_taken r_isStill r_thrown r_letterMany r_at0 r_isBad r_statements r_stepsMany r_hasImage r_place0 r_isTaking r_keptIn r_turned r_rowMany r_seed r_warms r_shutAt r_kinds0 r_figures r_airAt r_ways r_crowned r_sitsAt r_shawls r_isOn r_stepOf r_stepBy r_refusals r_letters r_placeIn r_letterOf r_numbers r_stepsRead r_stepsBy r_kept r_keptWarms r_i_imaged r_imagedWarms r_turns0 r_turnWarms0 r_turnOf r_turnWarms r_row0 r_gains r_pegSort r_pegMany r_pegHolds r_coats r_coatsMoved) (w_X7 y a r_airs r_sitters r_stepMany r_today r_taken r_isStill r_thrown r_letterMany r_at0 r_isBad r_statements r_stepsMany r_hasImage r_place0 r_isTaking r_keptIn r_turned r_rowMany r_seed r_warms r_shutAt r_kinds0 r_figures r_airAt r_ways r_crowned r_sitsAt r_shawls r_isOn r_stepOf r_stepBy r_refusals r_letters r_placeIn r_letterOf r_numbers r_stepsRead r_stepsBy r_kept r_keptWarms r_i_imaged r_imagedWarms r_turns0 r_turnWarms0 r_turnOf r_turnWarms r_row0 r_gains r_pegSort r_pegMany r_pegHolds r_coats r_coatsMoved) (some (.int z0)) := by
  refine ct_head (cc := cX7_wrongPlace) (n := 3) (ret := (some .int)) (by decide) rfl (Nat.le_of_ble_eq_true rfl) ?_
  intro p e s m below meth c A ls hx hb hr hml hown hlocks hts hA hAe hP hK hD hl
  have hS : va_S A s.heap s.heap [] := va_S.rf
  have hl : lv_has ls 3 [(0, .ref (a 0)), (1, .int n0), (2, .int n1)] := hl
  have hown : s.vm.findClass RX7 = some m.cls := hown
  have hts : ∀ w ∈ wsL_law, w.before [.ref (a 0), .int n0, .int n1].toArray s = true := fun w h => hts w (List.mem_cons_of_mem _ h)
  unfold f_X7_wrongPlace at hf
  refine lv_aload_n hx hb dX7_wrongPlace_0 rfl (lv_at hl 0 rfl) ?_
  refine va_get (D := D) (ci := 6) (v := .ref (a 32)) (C := RX7) (T := TX7) (N := 53) hx hb hts iwX7 hown hK hP 0 rfl rfl 49 (by decide) (hts _ wl_113) (fun _ h9 => h9) rfl dX7_wrongPlace_1 ?_
  refine lv_iload_n hx hb dX7_wrongPlace_4 rfl (lv_at hl 1 rfl) ?_
  obtain ⟨h1, hf⟩ := dq_g hf
  refine va_zald (cA := y 2) (n := 3) (f := r_pegHolds) hx hb hK hP 32 2 rfl rfl h1 dX7_wrongPlace_5 ?_
  refine lv_if_ne (tgt := 14) hx hb dX7_wrongPlace_6 (by decide) (fun c2 => ?_) (fun c2 => ?_)
  · have hf := dq_f hf c2
    clear c2
    refine lv_iload_n hx hb dX7_wrongPlace_14 rfl (lv_at hl 2 rfl) ?_
    refine lv_i2l hx hb dX7_wrongPlace_15 rfl ?_
    refine lv_lconst (v := 0) hx hb dX7_wrongPlace_16 (by decide) ?_
    refine lv_aload_n hx hb dX7_wrongPlace_17 rfl (lv_at hl 0 rfl) ?_
    refine va_get (D := D) (ci := 6) (v := .ref (a 31)) (C := RX7) (T := TX7) (N := 53) hx hb hts iwX7 hown hK hP 0 rfl rfl 48 (by decide) (hts _ wl_111) (fun _ h9 => h9) rfl dX7_wrongPlace_18 ?_
    refine lv_iload_n hx hb dX7_wrongPlace_21 rfl (lv_at hl 1 rfl) ?_
    obtain ⟨h3, hf⟩ := dq_g hf
    refine va_iald (cA := y 1) (n := 3) (f := r_pegMany) hx hb hK hP 31 1 rfl rfl h3 dX7_wrongPlace_22 ?_
    refine lv_iconst (v := 1) hx hb dX7_wrongPlace_23 (by decide) ?_
    refine lv_isub hx hb dX7_wrongPlace_24 ?_
    refine lv_i2l hx hb dX7_wrongPlace_25 rfl ?_
    obtain ⟨x4, hy5, hf⟩ := dq_b hf
    refine ct_callS0 (own := RX7) (As := [.long n1.toInt64, .long (0 : Int64), .long ((r_pegMany n0.toNatClampNeg) - (1 : Int32)).toInt64]) (rest := []) ⟨hx, hb, hml, hown, hts⟩ (m_X7_in l D y n1.toInt64 (0 : Int64) (((r_pegMany n0.toNatClampNeg) - (1 : Int32)).toInt64) x4 hy5) (va_cwS 3 hts (gA_S wl_391 wl_392 wl_5 wl_393) rfl rfl rfl (by decide +kernel) ⟨Nat.le_of_ble_eq_true rfl, Nat.le_of_ble_eq_true rfl⟩) rfl hl.1 rfl (Nat.le_of_ble_eq_true rfl) dX7_wrongPlace_26 ⟨Nat.zero_le _, Nat.zero_le _⟩ hK hP hD hS hA (fun H locs hP hD hS => ?_)
    refine lv_if_ne (tgt := 37) hx hb dX7_wrongPlace_29 (by decide) (fun c6 => ?_) (fun c6 => ?_)
    · have hf := dq_f hf c6
      clear c6
      refine lv_iconst (v := 0) hx hb dX7_wrongPlace_37 (by decide) ?_
      obtain rfl := dq_r1 hf
      exact ct_iret hx hb hr hlocks hAe hP hK hD hS dX7_wrongPlace_38
    · have hf := dq_t hf c6
      clear c6
      refine lv_bipush (v := -13) hx hb dX7_wrongPlace_32 (by decide) ?_
      refine lv_goto (tgt := 38) hx hb dX7_wrongPlace_34 (by decide) ?_
      obtain rfl := dq_r1 hf
      exact ct_iret hx hb hr hlocks hAe hP hK hD hS dX7_wrongPlace_38
  · have hf := dq_t hf c2
    clear c2
    refine lv_bipush (v := -11) hx hb dX7_wrongPlace_9 (by decide) ?_
    refine lv_goto (tgt := 38) hx hb dX7_wrongPlace_11 (by decide) ?_
    obtain rfl := dq_r1 hf
    exact ct_iret hx hb hr hlocks hAe hP hK hD hS dX7_wrongPlace_38
noncomputable def f_X7_takes (r_pegSort : (Nat → Int32)) (n0 : Int32) (n1 : Int32) : Option Int32 := dq_if (n1 < 0) (some (1 : Int32)) (dq_gd (vp_in n0 3) (dq_if ((r_pegSort n0.toNatClampNeg) = 0) (some (1 : Int32)) (dq_gd (vp_in n0 3) (dq_if ((n1 / (10 : Int32)) = (r_pegSort n0.toNatClampNeg)) (some (1 : Int32)) (some (0 : Int32))))))
def wA_X7_takes : List Cond := .code yX7_takes cX7_takes 3 (some .boolean) :: wsL_law
-- DraughtsTakeModel.takes(II)Z
set_option maxHeartbeats 4000000 in
set_option maxRecDepth 100000 in
theorem m_X7_takes (l : Launch) (D : va_G) (y : Nat → ClassId) (a : (Nat → Nat)) (r_airs : Int32) (r_sitters : Int32) (r_stepMany : Int32) (r_today : Int32) (r_taken : Int32) (r_isStill : Int32) (r_thrown : Int32) (r_letterMany : Int32) (r_at0 : Int32) (r_isBad : Int32) (r_statements : Int32) (r_stepsMany : Int32) (r_hasImage : Int32) (r_place0 : Int32) (r_isTaking : Int32) (r_keptIn : Value) (r_turned : Int32) (r_rowMany : Int32) (r_seed : Int32) (r_warms : (Nat → UInt32)) (r_shutAt : (Nat → Int32)) (r_kinds0 : (Nat → Int32)) (r_figures : (Nat → Int32)) (r_airAt : (Nat → Int32)) (r_ways : (Nat → Int32)) (r_crowned : (Nat → Int32)) (r_sitsAt : (Nat → Int32)) (r_shawls : (Nat → Int32)) (r_isOn : (Nat → Int32)) (r_stepOf : (Nat → Int32)) (r_stepBy : (Nat → Int32)) (r_refusals : (Nat → Int32)) (r_letters : (Nat → Int32)) (r_placeIn : (Nat → Int32)) (r_letterOf : (Nat → Int32)) (r_numbers : (Nat → Int32)) (r_stepsRead : (Nat → Int32)) (r_stepsBy : (Nat → Int32)) (r_kept : (Nat → Int32)) (r_keptWarms : (Nat → UInt32)) (r_i_imaged : (Nat → Int32)) (r_imagedWarms : (Nat → UInt32)) (r_turns0 : (Nat → Int32)) (r_turnWarms0 : (Nat → UInt32)) (r_turnOf : (Nat → Int32)) (r_turnWarms : (Nat → UInt32)) (r_row0 : (Nat → Int32)) (r_gains : (Nat → Int32)) (r_pegSort : (Nat → Int32)) (r_pegMany : (Nat → Int32)) (r_pegHolds : (Nat → Int32)) (r_coats : (Nat → Int32)) (r_coatsMoved : (Nat → Int32)) (n0 : Int32) (n1 : Int32) (z0 : Int32) (hf : f_X7_takes r_pegSort n0 n1 = some z0) : Ct l D y yX7_takes wA_X7_takes 0 0 [.ref (a 0), .int n0, .int n1] (w_X7 y a r_airs r_sitters r_stepMany r_today r_taken r_isStill r_thrown r_letterMany r_at0 r_isBad r_statements r_stepsMany r_hasImage r_place0 r_isTaking r_keptIn r_turned r_rowMany r_seed r_warms r_shutAt r_kinds0 r_figures r_airAt r_ways r_crowned r_sitsAt r_shawls r_isOn r_stepOf r_stepBy r_refusals r_letters r_placeIn r_letterOf r_numbers r_stepsRead r_stepsBy r_kept r_keptWarms r_i_imaged r_imagedWarms r_turns0 r_turnWarms0 r_turnOf r_turnWarms r_row0 r_gains r_pegSort r_pegMany r_pegHolds r_coats r_coatsMoved) (w_X7 y a r_airs r_sitters r_stepMany r_today r_taken r_isStill r_thrown r_letterMany r_at0 r_isBad r_statements r_stepsMany r_hasImage r_place0 r_isTaking r_keptIn r_turned r_rowMany r_seed r_warms r_shutAt r_kinds0 r_figures r_airAt r_ways r_crowned r_sitsAt r_shawls r_isOn r_stepOf r_stepBy r_refusals r_letters r_placeIn r_letterOf r_numbers r_stepsRead r_stepsBy r_kept r_keptWarms r_i_imaged r_imagedWarms r_turns0 r_turnWarms0 r_turnOf r_turnWarms r_row0 r_gains r_pegSort r_pegMany r_pegHolds r_coats r_coatsMoved) (some (.int z0)) := by
  refine ct_head (cc := cX7_takes) (n := 3) (ret := (some .boolean)) (by decide) rfl (Nat.le_of_ble_eq_true rfl) ?_
  intro p e s m below meth c A ls hx hb hr hml hown hlocks hts hA hAe hP hK hD hl
  have hS : va_S A s.heap s.heap [] := va_S.rf
  have hl : lv_has ls 3 [(0, .ref (a 0)), (1, .int n0), (2, .int n1)] := hl
  have hown : s.vm.findClass RX7 = some m.cls := hown
  have hts : ∀ w ∈ wsL_law, w.before [.ref (a 0), .int n0, .int n1].toArray s = true := fun w h => hts w (List.mem_cons_of_mem _ h)
  unfold f_X7_takes at hf
  refine lv_iload_n hx hb dX7_takes_0 rfl (lv_at hl 2 rfl) ?_
  refine lv_if_lt (tgt := 26) hx hb dX7_takes_1 (by decide) (fun c1 => ?_) (fun c1 => ?_)
  · have hf := dq_t hf c1
    clear c1
    refine lv_iconst (v := 1) hx hb dX7_takes_26 (by decide) ?_
    refine lv_goto (tgt := 31) hx hb dX7_takes_27 (by decide) ?_
    obtain rfl := dq_r1 hf
    exact ct_zret hx hb hr rfl hlocks hAe hP hK hD hS dX7_takes_31
  · have hf := dq_f hf c1
    clear c1
    refine lv_aload_n hx hb dX7_takes_4 rfl (lv_at hl 0 rfl) ?_
    refine va_get (D := D) (ci := 6) (v := .ref (a 30)) (C := RX7) (T := TX7) (N := 53) hx hb hts iwX7 hown hK hP 0 rfl rfl 47 (by decide) (hts _ wl_110) (fun _ h9 => h9) rfl dX7_takes_5 ?_
    refine lv_iload_n hx hb dX7_takes_8 rfl (lv_at hl 1 rfl) ?_
    obtain ⟨h2, hf⟩ := dq_g hf
    refine va_iald (cA := y 1) (n := 3) (f := r_pegSort) hx hb hK hP 30 1 rfl rfl h2 dX7_takes_9 ?_
    refine lv_if_eq (tgt := 26) hx hb dX7_takes_10 (by decide) (fun c3 => ?_) (fun c3 => ?_)
    · have hf := dq_t hf c3
      clear c3
      refine lv_iconst (v := 1) hx hb dX7_takes_26 (by decide) ?_
      refine lv_goto (tgt := 31) hx hb dX7_takes_27 (by decide) ?_
      obtain rfl := dq_r1 hf
      exact ct_zret hx hb hr rfl hlocks hAe hP hK hD hS dX7_takes_31
    · have hf := dq_f hf c3
      clear c3
      refine lv_iload_n hx hb dX7_takes_13 rfl (lv_at hl 2 rfl) ?_
      refine lv_bipush (v := 10) hx hb dX7_takes_14 (by decide) ?_
      refine lv_idiv hx hb dX7_takes_16 (by decide) ?_
      refine lv_aload_n hx hb dX7_takes_17 rfl (lv_at hl 0 rfl) ?_
      refine va_get (D := D) (ci := 6) (v := .ref (a 30)) (C := RX7) (T := TX7) (N := 53) hx hb hts iwX7 hown hK hP 0 rfl rfl 47 (by decide) (hts _ wl_110) (fun _ h9 => h9) rfl dX7_takes_18 ?_
      refine lv_iload_n hx hb dX7_takes_21 rfl (lv_at hl 1 rfl) ?_
      obtain ⟨h4, hf⟩ := dq_g hf
      refine va_iald (cA := y 1) (n := 3) (f := r_pegSort) hx hb hK hP 30 1 rfl rfl h4 dX7_takes_22 ?_
      refine lv_icmp_ne (tgt := 30) hx hb dX7_takes_23 (by decide) (fun c5 => ?_) (fun c5 => ?_)
      · have hf := dq_f hf c5
        clear c5
        refine lv_iconst (v := 0) hx hb dX7_takes_30 (by decide) ?_
        obtain rfl := dq_r1 hf
        exact ct_zret hx hb hr rfl hlocks hAe hP hK hD hS dX7_takes_31
      · have hf := dq_t hf c5
        clear c5
        refine lv_iconst (v := 1) hx hb dX7_takes_26 (by decide) ?_
        refine lv_goto (tgt := 31) hx hb dX7_takes_27 (by decide) ?_
        obtain rfl := dq_r1 hf
        exact ct_zret hx hb hr rfl hlocks hAe hP hK hD hS dX7_takes_31
noncomputable def f_X7_hangs_b43 (n0 : Int32) (n1 : Int32) (n2 : Int32) (n3 : Int32) (r_refusals : (Nat → Int32)) (r_pegSort : (Nat → Int32)) (r_pegMany : (Nat → Int32)) (r_pegHolds : (Nat → Int32)) (r_coats : (Nat → Int32))  (x6 : Int32) : Option (Int32 × Int32 × (Nat → Int32) × (Nat → Int32)) := dq_if (0 ≤ x6) (dq_bd (f_X7_wrongPlace r_pegMany r_pegHolds n0 n1) (fun (x8 : Int32) => dq_if (0 ≤ x8) (dq_bd (f_X7_takes r_pegSort n0 ((10 : Int32) * n2)) (fun (x11 : Int32) => dq_if (x11 = 0) (some ((-12 : Int32), (0 : Int32), r_refusals, r_coats)) (dq_gd (vp_in (((12 : Int32) * n0) + n1) 36) (dq_let (upd r_coats (((12 : Int32) * n0) + n1).toNatClampNeg (((10 : Int32) * n2) + n3)) (fun (r_coats_15 : (Nat → Int32)) => some ((1 : Int32), (0 : Int32), r_refusals, r_coats_15)))))) (dq_bd (f_X7_wrongPlace r_pegMany r_pegHolds n0 n1) (fun (x16 : Int32) => some (x16, (0 : Int32), r_refusals, r_coats))))) (dq_bd2 (f_X7_refuse r_refusals x6) (fun (x18 : Int32) (r_refusals_19 : (Nat → Int32)) => some (x18, (0 : Int32), r_refusals_19, r_coats)))
noncomputable def f_X7_hangs (r_refusals : (Nat → Int32)) (r_pegSort : (Nat → Int32)) (r_pegMany : (Nat → Int32)) (r_pegHolds : (Nat → Int32)) (r_coats : (Nat → Int32)) (n0 : Int32) (n1 : Int32) (n2 : Int32) (n3 : Int32) : Option (Int32 × Int32 × (Nat → Int32) × (Nat → Int32)) := dq_bd (f_X7_isPeg n0) (fun (x1 : Int32) => dq_if (x1 = 0) (dq_bd2 (f_X7_refuse r_refusals (-1 : Int32)) (fun (x24 : Int32) (r_refusals_25 : (Nat → Int32)) => some (x24, (0 : Int32), r_refusals_25, r_coats))) (dq_bd (f_X7_in n2.toInt64 (1 : Int64) (2 : Int64)) (fun (x4 : Int32) => dq_if (x4 = 0) (f_X7_hangs_b43 n0 n1 n2 n3 r_refusals r_pegSort r_pegMany r_pegHolds r_coats (-2 : Int32)) (dq_bd (f_X7_wrongNumber n3 (0 : Int32) (9 : Int32)) (fun (x22 : Int32) => f_X7_hangs_b43 n0 n1 n2 n3 r_refusals r_pegSort r_pegMany r_pegHolds r_coats x22)))))
def wA_X7_hangs : List Cond := .code yX7_hangs cX7_hangs 6 (some .int) :: wsL_law
-- DraughtsTakeModel.hangs(IIII)I
set_option maxHeartbeats 4000000 in
set_option maxRecDepth 100000 in
theorem m_X7_hangs (l : Launch) (D : va_G) (y : Nat → ClassId) (a : (Nat → Nat)) (r_airs : Int32) (r_sitters : Int32) (r_stepMany : Int32) (r_today : Int32) (r_taken : Int32) (r_isStill : Int32) (r_thrown : Int32) (r_letterMany : Int32) (r_at0 : Int32) (r_isBad : Int32) (r_statements : Int32) (r_stepsMany : Int32) (r_hasImage : Int32) (r_place0 : Int32) (r_isTaking : Int32) (r_keptIn : Value) (r_turned : Int32) (r_rowMany : Int32) (r_seed : Int32) (r_warms : (Nat → UInt32)) (r_shutAt : (Nat → Int32)) (r_kinds0 : (Nat → Int32)) (r_figures : (Nat → Int32)) (r_airAt : (Nat → Int32)) (r_ways : (Nat → Int32)) (r_crowned : (Nat → Int32)) (r_sitsAt : (Nat → Int32)) (r_shawls : (Nat → Int32)) (r_isOn : (Nat → Int32)) (r_stepOf : (Nat → Int32)) (r_stepBy : (Nat → Int32)) (r_refusals : (Nat → Int32)) (r_letters : (Nat → Int32)) (r_placeIn : (Nat → Int32)) (r_letterOf : (Nat → Int32)) (r_numbers : (Nat → Int32)) (r_stepsRead : (Nat → Int32)) (r_stepsBy : (Nat → Int32)) (r_kept : (Nat → Int32)) (r_keptWarms : (Nat → UInt32)) (r_i_imaged : (Nat → Int32)) (r_imagedWarms : (Nat → UInt32)) (r_turns0 : (Nat → Int32)) (r_turnWarms0 : (Nat → UInt32)) (r_turnOf : (Nat → Int32)) (r_turnWarms : (Nat → UInt32)) (r_row0 : (Nat → Int32)) (r_gains : (Nat → Int32)) (r_pegSort : (Nat → Int32)) (r_pegMany : (Nat → Int32)) (r_pegHolds : (Nat → Int32)) (r_coats : (Nat → Int32)) (r_coatsMoved : (Nat → Int32)) (n0 : Int32) (n1 : Int32) (n2 : Int32) (n3 : Int32) (z0 : Int32) (z1 : Int32) (z2 : (Nat → Int32)) (z3 : (Nat → Int32)) (hf : f_X7_hangs r_refusals r_pegSort r_pegMany r_pegHolds r_coats n0 n1 n2 n3 = some (z0, z1, z2, z3)) : Ct l D y yX7_hangs wA_X7_hangs 2 47 [.ref (a 0), .int n0, .int n1, .int n2, .int n3] (w_X7 y a r_airs r_sitters r_stepMany r_today r_taken r_isStill r_thrown r_letterMany r_at0 r_isBad r_statements r_stepsMany r_hasImage r_place0 r_isTaking r_keptIn r_turned r_rowMany r_seed r_warms r_shutAt r_kinds0 r_figures r_airAt r_ways r_crowned r_sitsAt r_shawls r_isOn r_stepOf r_stepBy r_refusals r_letters r_placeIn r_letterOf r_numbers r_stepsRead r_stepsBy r_kept r_keptWarms r_i_imaged r_imagedWarms r_turns0 r_turnWarms0 r_turnOf r_turnWarms r_row0 r_gains r_pegSort r_pegMany r_pegHolds r_coats r_coatsMoved) (w_X7 y a r_airs r_sitters r_stepMany r_today r_taken r_isStill z1 r_letterMany r_at0 r_isBad r_statements r_stepsMany r_hasImage r_place0 r_isTaking r_keptIn r_turned r_rowMany r_seed r_warms r_shutAt r_kinds0 r_figures r_airAt r_ways r_crowned r_sitsAt r_shawls r_isOn r_stepOf r_stepBy z2 r_letters r_placeIn r_letterOf r_numbers r_stepsRead r_stepsBy r_kept r_keptWarms r_i_imaged r_imagedWarms r_turns0 r_turnWarms0 r_turnOf r_turnWarms r_row0 r_gains r_pegSort r_pegMany r_pegHolds z3 r_coatsMoved) (some (.int z0)) := by
  refine ct_head (cc := cX7_hangs) (n := 6) (ret := (some .int)) (by decide) rfl (Nat.le_of_ble_eq_true rfl) ?_
  intro p e s m below meth c A ls hx hb hr hml hown hlocks hts hA hAe hP hK hD hl
  have hS : va_S A s.heap s.heap [] := va_S.rf
  have hl : lv_has ls 6 [(0, .ref (a 0)), (1, .int n0), (2, .int n1), (3, .int n2), (4, .int n3)] := hl
  have hown : s.vm.findClass RX7 = some m.cls := hown
  have hts : ∀ w ∈ wsL_law, w.before [.ref (a 0), .int n0, .int n1, .int n2, .int n3].toArray s = true := fun w h => hts w (List.mem_cons_of_mem _ h)
  unfold f_X7_hangs at hf
  refine lv_aload_n hx hb dX7_hangs_0 rfl (lv_at hl 0 rfl) ?_
  refine lv_iconst (v := 0) hx hb dX7_hangs_1 (by decide) ?_
  refine va_put (D := D) (ci := 6) (v := .int (0 : Int32)) (ty := .int) (C := RX7) (T := TX7) (N := 53) hx hb hts iwX7 tyX7 tyX7_ok nmX7 hown hK hP hD hS 0 rfl rfl 18 (by decide) (hts _ wl_116) (fun _ h9 => h9) rfl (tyX7_ok 18 (by decide)) rfl rfl (Nat.le_of_ble_eq_true rfl) dX7_hangs_2 (fun H locs hP hD hS => ?_)
  have hP : va_P D vwCl (w_X7 y a r_airs r_sitters r_stepMany r_today r_taken r_isStill (0 : Int32) r_letterMany r_at0 r_isBad r_statements r_stepsMany r_hasImage r_place0 r_isTaking r_keptIn r_turned r_rowMany r_seed r_warms r_shutAt r_kinds0 r_figures r_airAt r_ways r_crowned r_sitsAt r_shawls r_isOn r_stepOf r_stepBy r_refusals r_letters r_placeIn r_letterOf r_numbers r_stepsRead r_stepsBy r_kept r_keptWarms r_i_imaged r_imagedWarms r_turns0 r_turnWarms0 r_turnOf r_turnWarms r_row0 r_gains r_pegSort r_pegMany r_pegHolds r_coats r_coatsMoved) H := hP
  have hD : va_D A (w_X7 y a r_airs r_sitters r_stepMany r_today r_taken r_isStill (0 : Int32) r_letterMany r_at0 r_isBad r_statements r_stepsMany r_hasImage r_place0 r_isTaking r_keptIn r_turned r_rowMany r_seed r_warms r_shutAt r_kinds0 r_figures r_airAt r_ways r_crowned r_sitsAt r_shawls r_isOn r_stepOf r_stepBy r_refusals r_letters r_placeIn r_letterOf r_numbers r_stepsRead r_stepsBy r_kept r_keptWarms r_i_imaged r_imagedWarms r_turns0 r_turnWarms0 r_turnOf r_turnWarms r_row0 r_gains r_pegSort r_pegMany r_pegHolds r_coats r_coatsMoved) := hD
  refine lv_iload_n hx hb dX7_hangs_5 rfl (lv_at hl 1 rfl) ?_
  obtain ⟨x1, hy2, hf⟩ := dq_b hf
  refine ct_callS0 (own := RX7) (As := [.int n0]) (rest := []) ⟨hx, hb, hml, hown, hts⟩ (m_X7_isPeg l D y n0 x1 hy2) (va_cwS 1 hts (gA_S wl_987 wl_988 wl_5 wl_989) rfl rfl rfl (by decide +kernel) ⟨Nat.le_of_ble_eq_true rfl, Nat.le_of_ble_eq_true rfl⟩) rfl hl.1 rfl (Nat.le_of_ble_eq_true rfl) dX7_hangs_6 ⟨Nat.zero_le _, Nat.zero_le _⟩ hK hP hD hS hA (fun H locs hP hD hS => ?_)
  refine lv_if_ne (tgt := 18) hx hb dX7_hangs_9 (by decide) (fun c3 => ?_) (fun c3 => ?_)
  · have hf := dq_f hf c3
    clear c3
    refine lv_iload_n hx hb dX7_hangs_18 rfl (lv_at hl 3 rfl) ?_
    refine lv_i2l hx hb dX7_hangs_19 rfl ?_
    refine lv_lconst (v := 1) hx hb dX7_hangs_20 (by decide) ?_
    refine lv_ldc2 hx hb hown (hts _ wl_568) dX7_hangs_21 ?_
    obtain ⟨x4, hy5, hf⟩ := dq_b hf
    refine ct_callS0 (own := RX7) (As := [.long n2.toInt64, .long (1 : Int64), .long (2 : Int64)]) (rest := []) ⟨hx, hb, hml, hown, hts⟩ (m_X7_in l D y n2.toInt64 (1 : Int64) (2 : Int64) x4 hy5) (va_cwS 3 hts (gA_S wl_391 wl_392 wl_5 wl_393) rfl rfl rfl (by decide +kernel) ⟨Nat.le_of_ble_eq_true rfl, Nat.le_of_ble_eq_true rfl⟩) rfl hl.1 rfl (Nat.le_of_ble_eq_true rfl) dX7_hangs_24 ⟨Nat.zero_le _, Nat.zero_le _⟩ hK hP hD hS hA (fun H locs hP hD hS => ?_)
    have J43 : ∀ (x6 : Int32), f_X7_hangs_b43 n0 n1 n2 n3 r_refusals r_pegSort r_pegMany r_pegHolds r_coats x6 = some (z0, z1, z2, z3) → ∀ (H : Heap) (locs : List Loc), va_P D vwCl (w_X7 y a r_airs r_sitters r_stepMany r_today r_taken r_isStill (0 : Int32) r_letterMany r_at0 r_isBad r_statements r_stepsMany r_hasImage r_place0 r_isTaking r_keptIn r_turned r_rowMany r_seed r_warms r_shutAt r_kinds0 r_figures r_airAt r_ways r_crowned r_sitsAt r_shawls r_isOn r_stepOf r_stepBy r_refusals r_letters r_placeIn r_letterOf r_numbers r_stepsRead r_stepsBy r_kept r_keptWarms r_i_imaged r_imagedWarms r_turns0 r_turnWarms0 r_turnOf r_turnWarms r_row0 r_gains r_pegSort r_pegMany r_pegHolds r_coats r_coatsMoved) H → va_D A (w_X7 y a r_airs r_sitters r_stepMany r_today r_taken r_isStill (0 : Int32) r_letterMany r_at0 r_isBad r_statements r_stepsMany r_hasImage r_place0 r_isTaking r_keptIn r_turned r_rowMany r_seed r_warms r_shutAt r_kinds0 r_figures r_airAt r_ways r_crowned r_sitsAt r_shawls r_isOn r_stepOf r_stepBy r_refusals r_letters r_placeIn r_letterOf r_numbers r_stepsRead r_stepsBy r_kept r_keptWarms r_i_imaged r_imagedWarms r_turns0 r_turnWarms0 r_turnOf r_turnWarms r_row0 r_gains r_pegSort r_pegMany r_pegHolds r_coats r_coatsMoved) → va_S A s.heap H locs → ∀ ls : Array Slot, lv_has ls 6 [(0, .ref (a 0)), (1, .int n0), (2, .int n1), (3, .int n2), (4, .int n3)] → W p l e ({ frames := 2, cells := 0, slots := 0, locals := 47 } : Room) s m [.ref (a 0), .int n0, .int n1, .int n2, .int n3].toArray below meth c H locs 0 0 (MQ below (dQ D y (some (.int z0)) s.heap.size (w_X7 y a r_airs r_sitters r_stepMany r_today r_taken r_isStill r_thrown r_letterMany r_at0 r_isBad r_statements r_stepsMany r_hasImage r_place0 r_isTaking r_keptIn r_turned r_rowMany r_seed r_warms r_shutAt r_kinds0 r_figures r_airAt r_ways r_crowned r_sitsAt r_shawls r_isOn r_stepOf r_stepBy r_refusals r_letters r_placeIn r_letterOf r_numbers r_stepsRead r_stepsBy r_kept r_keptWarms r_i_imaged r_imagedWarms r_turns0 r_turnWarms0 r_turnOf r_turnWarms r_row0 r_gains r_pegSort r_pegMany r_pegHolds r_coats r_coatsMoved) (w_X7 y a r_airs r_sitters r_stepMany r_today r_taken r_isStill z1 r_letterMany r_at0 r_isBad r_statements r_stepsMany r_hasImage r_place0 r_isTaking r_keptIn r_turned r_rowMany r_seed r_warms r_shutAt r_kinds0 r_figures r_airAt r_ways r_crowned r_sitsAt r_shawls r_isOn r_stepOf r_stepBy z2 r_letters r_placeIn r_letterOf r_numbers r_stepsRead r_stepsBy r_kept r_keptWarms r_i_imaged r_imagedWarms r_turns0 r_turnWarms0 r_turnOf r_turnWarms r_row0 r_gains r_pegSort r_pegMany r_pegHolds z3 r_coatsMoved)) [.ref (a 0), .int n0, .int n1, .int n2, .int n3].toArray s 0 0 A) (F0 m 43 ls [.int x6]) := by
      intro x6 hf H locs hP hD hS ls hl
      unfold f_X7_hangs_b43 at hf
      refine lv_istore (lv' := [(5, .int x6), (0, .ref (a 0)), (1, .int n0), (2, .int n1), (3, .int n2), (4, .int n3)]) hx hb dX7_hangs_43 hl (by decide) rfl (fun ls hl => ?_)
      refine lv_iload hx hb dX7_hangs_45 (lv_at hl 0 rfl) ?_
      refine lv_if_ge (tgt := 57) hx hb dX7_hangs_47 (by decide) (fun c7 => ?_) (fun c7 => ?_)
      · have hf := dq_t hf c7
        clear c7
        refine lv_aload_n hx hb dX7_hangs_57 rfl (lv_at hl 1 rfl) ?_
        refine lv_iload_n hx hb dX7_hangs_58 rfl (lv_at hl 2 rfl) ?_
        refine lv_iload_n hx hb dX7_hangs_59 rfl (lv_at hl 3 rfl) ?_
        obtain ⟨x8, hy9, hf⟩ := dq_b hf
        refine ct_callV0 (ci := 6) (q0 := 0) (own := RX7) (As := [.int n0, .int n1]) (rest := []) (ws' := (w_X7 y a r_airs r_sitters r_stepMany r_today r_taken r_isStill (0 : Int32) r_letterMany r_at0 r_isBad r_statements r_stepsMany r_hasImage r_place0 r_isTaking r_keptIn r_turned r_rowMany r_seed r_warms r_shutAt r_kinds0 r_figures r_airAt r_ways r_crowned r_sitsAt r_shawls r_isOn r_stepOf r_stepBy r_refusals r_letters r_placeIn r_letterOf r_numbers r_stepsRead r_stepsBy r_kept r_keptWarms r_i_imaged r_imagedWarms r_turns0 r_turnWarms0 r_turnOf r_turnWarms r_row0 r_gains r_pegSort r_pegMany r_pegHolds r_coats r_coatsMoved)) ⟨hx, hb, hml, hown, hts⟩ (m_X7_wrongPlace l D y a r_airs r_sitters r_stepMany r_today r_taken r_isStill (0 : Int32) r_letterMany r_at0 r_isBad r_statements r_stepsMany r_hasImage r_place0 r_isTaking r_keptIn r_turned r_rowMany r_seed r_warms r_shutAt r_kinds0 r_figures r_airAt r_ways r_crowned r_sitsAt r_shawls r_isOn r_stepOf r_stepBy r_refusals r_letters r_placeIn r_letterOf r_numbers r_stepsRead r_stepsBy r_kept r_keptWarms r_i_imaged r_imagedWarms r_turns0 r_turnWarms0 r_turnOf r_turnWarms r_row0 r_gains r_pegSort r_pegMany r_pegHolds r_coats r_coatsMoved n0 n1 x8 hy9) (cwV 2 hts (gA_V wl_1014 wl_1015 wl_1016 wl_5 wl_1017) rfl rfl rfl (by decide +kernel) ⟨Nat.le_of_ble_eq_true rfl, Nat.le_of_ble_eq_true rfl⟩) rfl rfl rfl hl.1 rfl (Nat.le_of_ble_eq_true rfl) dX7_hangs_60 ⟨Nat.zero_le _, Nat.zero_le _⟩ hK hP hD hS hA (fun H locs hP hD hS => ?_)
        refine lv_if_ge (tgt := 73) hx hb dX7_hangs_63 (by decide) (fun c10 => ?_) (fun c10 => ?_)
        · have hf := dq_t hf c10
          clear c10
          refine lv_aload_n hx hb dX7_hangs_73 rfl (lv_at hl 1 rfl) ?_
          refine lv_iload_n hx hb dX7_hangs_74 rfl (lv_at hl 2 rfl) ?_
          refine lv_bipush (v := 10) hx hb dX7_hangs_75 (by decide) ?_
          refine lv_iload_n hx hb dX7_hangs_77 rfl (lv_at hl 4 rfl) ?_
          refine lv_imul hx hb dX7_hangs_78 ?_
          obtain ⟨x11, hy12, hf⟩ := dq_b hf
          refine ct_callV0 (ci := 6) (q0 := 0) (own := RX7) (As := [.int n0, .int ((10 : Int32) * n2)]) (rest := []) (ws' := (w_X7 y a r_airs r_sitters r_stepMany r_today r_taken r_isStill (0 : Int32) r_letterMany r_at0 r_isBad r_statements r_stepsMany r_hasImage r_place0 r_isTaking r_keptIn r_turned r_rowMany r_seed r_warms r_shutAt r_kinds0 r_figures r_airAt r_ways r_crowned r_sitsAt r_shawls r_isOn r_stepOf r_stepBy r_refusals r_letters r_placeIn r_letterOf r_numbers r_stepsRead r_stepsBy r_kept r_keptWarms r_i_imaged r_imagedWarms r_turns0 r_turnWarms0 r_turnOf r_turnWarms r_row0 r_gains r_pegSort r_pegMany r_pegHolds r_coats r_coatsMoved)) ⟨hx, hb, hml, hown, hts⟩ (m_X7_takes l D y a r_airs r_sitters r_stepMany r_today r_taken r_isStill (0 : Int32) r_letterMany r_at0 r_isBad r_statements r_stepsMany r_hasImage r_place0 r_isTaking r_keptIn r_turned r_rowMany r_seed r_warms r_shutAt r_kinds0 r_figures r_airAt r_ways r_crowned r_sitsAt r_shawls r_isOn r_stepOf r_stepBy r_refusals r_letters r_placeIn r_letterOf r_numbers r_stepsRead r_stepsBy r_kept r_keptWarms r_i_imaged r_imagedWarms r_turns0 r_turnWarms0 r_turnOf r_turnWarms r_row0 r_gains r_pegSort r_pegMany r_pegHolds r_coats r_coatsMoved n0 ((10 : Int32) * n2) x11 hy12) (cwV 2 hts (gA_V wl_1018 wl_1019 wl_1020 wl_5 wl_1021) rfl rfl rfl (by decide +kernel) ⟨Nat.le_of_ble_eq_true rfl, Nat.le_of_ble_eq_true rfl⟩) rfl rfl rfl hl.1 rfl (Nat.le_of_ble_eq_true rfl) dX7_hangs_79 ⟨Nat.zero_le _, Nat.zero_le _⟩ hK hP hD hS hA (fun H locs hP hD hS => ?_)
          refine lv_if_ne (tgt := 88) hx hb dX7_hangs_82 (by decide) (fun c13 => ?_) (fun c13 => ?_)
          · have hf := dq_f hf c13
            clear c13
            refine lv_aload_n hx hb dX7_hangs_88 rfl (lv_at hl 1 rfl) ?_
            refine va_get (D := D) (ci := 6) (v := .ref (a 33)) (C := RX7) (T := TX7) (N := 53) hx hb hts iwX7 hown hK hP 0 rfl rfl 50 (by decide) (hts _ wl_114) (fun _ h9 => h9) rfl dX7_hangs_89 ?_
            refine lv_bipush (v := 12) hx hb dX7_hangs_92 (by decide) ?_
            refine lv_iload_n hx hb dX7_hangs_94 rfl (lv_at hl 2 rfl) ?_
            refine lv_imul hx hb dX7_hangs_95 ?_
            refine lv_iload_n hx hb dX7_hangs_96 rfl (lv_at hl 3 rfl) ?_
            refine lv_iadd hx hb dX7_hangs_97 ?_
            refine lv_bipush (v := 10) hx hb dX7_hangs_98 (by decide) ?_
            refine lv_iload_n hx hb dX7_hangs_100 rfl (lv_at hl 4 rfl) ?_
            refine lv_imul hx hb dX7_hangs_101 ?_
            refine lv_iload hx hb dX7_hangs_102 (lv_at hl 5 rfl) ?_
            refine lv_iadd hx hb dX7_hangs_104 ?_
            obtain ⟨h14, hf⟩ := dq_g hf
            refine dq_iast (cA := y 1) (n := 36) (f := r_coats) hx hb hK hP hD hS 33 1 rfl rfl h14 dX7_hangs_105 (fun r_coats_15 er_coats_15 H locs hP hD hS => ?_)
            have hf := dq_l hf r_coats_15 er_coats_15
            clear er_coats_15
            have hP : va_P D vwCl (w_X7 y a r_airs r_sitters r_stepMany r_today r_taken r_isStill (0 : Int32) r_letterMany r_at0 r_isBad r_statements r_stepsMany r_hasImage r_place0 r_isTaking r_keptIn r_turned r_rowMany r_seed r_warms r_shutAt r_kinds0 r_figures r_airAt r_ways r_crowned r_sitsAt r_shawls r_isOn r_stepOf r_stepBy r_refusals r_letters r_placeIn r_letterOf r_numbers r_stepsRead r_stepsBy r_kept r_keptWarms r_i_imaged r_imagedWarms r_turns0 r_turnWarms0 r_turnOf r_turnWarms r_row0 r_gains r_pegSort r_pegMany r_pegHolds r_coats_15 r_coatsMoved) H := hP
            have hD : va_D A (w_X7 y a r_airs r_sitters r_stepMany r_today r_taken r_isStill (0 : Int32) r_letterMany r_at0 r_isBad r_statements r_stepsMany r_hasImage r_place0 r_isTaking r_keptIn r_turned r_rowMany r_seed r_warms r_shutAt r_kinds0 r_figures r_airAt r_ways r_crowned r_sitsAt r_shawls r_isOn r_stepOf r_stepBy r_refusals r_letters r_placeIn r_letterOf r_numbers r_stepsRead r_stepsBy r_kept r_keptWarms r_i_imaged r_imagedWarms r_turns0 r_turnWarms0 r_turnOf r_turnWarms r_row0 r_gains r_pegSort r_pegMany r_pegHolds r_coats_15 r_coatsMoved) := hD
            refine lv_iconst (v := 1) hx hb dX7_hangs_106 (by decide) ?_
            obtain ⟨rfl, rfl, rfl, rfl⟩ := dq_r4 hf
            exact ct_iret hx hb hr hlocks hAe hP hK hD hS dX7_hangs_107
          · have hf := dq_t hf c13
            clear c13
            refine lv_bipush (v := -12) hx hb dX7_hangs_85 (by decide) ?_
            obtain ⟨rfl, rfl, rfl, rfl⟩ := dq_r4 hf
            exact ct_iret hx hb hr hlocks hAe hP hK hD hS dX7_hangs_87
        · have hf := dq_f hf c10
          clear c10
          refine lv_aload_n hx hb dX7_hangs_66 rfl (lv_at hl 1 rfl) ?_
          refine lv_iload_n hx hb dX7_hangs_67 rfl (lv_at hl 2 rfl) ?_
          refine lv_iload_n hx hb dX7_hangs_68 rfl (lv_at hl 3 rfl) ?_
          obtain ⟨x16, hy17, hf⟩ := dq_b hf
          refine ct_callV0 (ci := 6) (q0 := 0) (own := RX7) (As := [.int n0, .int n1]) (rest := []) (ws' := (w_X7 y a r_airs r_sitters r_stepMany r_today r_taken r_isStill (0 : Int32) r_letterMany r_at0 r_isBad r_statements r_stepsMany r_hasImage r_place0 r_isTaking r_keptIn r_turned r_rowMany r_seed r_warms r_shutAt r_kinds0 r_figures r_airAt r_ways r_crowned r_sitsAt r_shawls r_isOn r_stepOf r_stepBy r_refusals r_letters r_placeIn r_letterOf r_numbers r_stepsRead r_stepsBy r_kept r_keptWarms r_i_imaged r_imagedWarms r_turns0 r_turnWarms0 r_turnOf r_turnWarms r_row0 r_gains r_pegSort r_pegMany r_pegHolds r_coats r_coatsMoved)) ⟨hx, hb, hml, hown, hts⟩ (m_X7_wrongPlace l D y a r_airs r_sitters r_stepMany r_today r_taken r_isStill (0 : Int32) r_letterMany r_at0 r_isBad r_statements r_stepsMany r_hasImage r_place0 r_isTaking r_keptIn r_turned r_rowMany r_seed r_warms r_shutAt r_kinds0 r_figures r_airAt r_ways r_crowned r_sitsAt r_shawls r_isOn r_stepOf r_stepBy r_refusals r_letters r_placeIn r_letterOf r_numbers r_stepsRead r_stepsBy r_kept r_keptWarms r_i_imaged r_imagedWarms r_turns0 r_turnWarms0 r_turnOf r_turnWarms r_row0 r_gains r_pegSort r_pegMany r_pegHolds r_coats r_coatsMoved n0 n1 x16 hy17) (cwV 2 hts (gA_V wl_1014 wl_1015 wl_1016 wl_5 wl_1017) rfl rfl rfl (by decide +kernel) ⟨Nat.le_of_ble_eq_true rfl, Nat.le_of_ble_eq_true rfl⟩) rfl rfl rfl hl.1 rfl (Nat.le_of_ble_eq_true rfl) dX7_hangs_69 ⟨Nat.zero_le _, Nat.zero_le _⟩ hK hP hD hS hA (fun H locs hP hD hS => ?_)
          obtain ⟨rfl, rfl, rfl, rfl⟩ := dq_r4 hf
          exact ct_iret hx hb hr hlocks hAe hP hK hD hS dX7_hangs_72
      · have hf := dq_f hf c7
        clear c7
        refine lv_aload_n hx hb dX7_hangs_50 rfl (lv_at hl 1 rfl) ?_
        refine lv_iload hx hb dX7_hangs_51 (lv_at hl 0 rfl) ?_
        obtain ⟨x18, r_refusals_19, hy20, hf⟩ := dq_b2 hf
        refine ct_callV0 (ci := 6) (q0 := 0) (own := RX7) (As := [.int x6]) (rest := []) (ws' := (w_X7 y a r_airs r_sitters r_stepMany r_today r_taken r_isStill (0 : Int32) r_letterMany r_at0 r_isBad r_statements r_stepsMany r_hasImage r_place0 r_isTaking r_keptIn r_turned r_rowMany r_seed r_warms r_shutAt r_kinds0 r_figures r_airAt r_ways r_crowned r_sitsAt r_shawls r_isOn r_stepOf r_stepBy r_refusals_19 r_letters r_placeIn r_letterOf r_numbers r_stepsRead r_stepsBy r_kept r_keptWarms r_i_imaged r_imagedWarms r_turns0 r_turnWarms0 r_turnOf r_turnWarms r_row0 r_gains r_pegSort r_pegMany r_pegHolds r_coats r_coatsMoved)) ⟨hx, hb, hml, hown, hts⟩ (m_X7_refuse l D y a r_airs r_sitters r_stepMany r_today r_taken r_isStill (0 : Int32) r_letterMany r_at0 r_isBad r_statements r_stepsMany r_hasImage r_place0 r_isTaking r_keptIn r_turned r_rowMany r_seed r_warms r_shutAt r_kinds0 r_figures r_airAt r_ways r_crowned r_sitsAt r_shawls r_isOn r_stepOf r_stepBy r_refusals r_letters r_placeIn r_letterOf r_numbers r_stepsRead r_stepsBy r_kept r_keptWarms r_i_imaged r_imagedWarms r_turns0 r_turnWarms0 r_turnOf r_turnWarms r_row0 r_gains r_pegSort r_pegMany r_pegHolds r_coats r_coatsMoved x6 x18 r_refusals_19 hy20) (cwV 1 hts (gA_V wl_133 wl_134 wl_135 wl_5 wl_136) rfl rfl rfl (by decide +kernel) ⟨Nat.le_of_ble_eq_true rfl, Nat.le_of_ble_eq_true rfl⟩) rfl rfl rfl hl.1 rfl (Nat.le_of_ble_eq_true rfl) dX7_hangs_53 ⟨Nat.zero_le _, Nat.zero_le _⟩ hK hP hD hS hA (fun H locs hP hD hS => ?_)
        obtain ⟨rfl, rfl, rfl, rfl⟩ := dq_r4 hf
        exact ct_iret hx hb hr hlocks hAe hP hK hD hS dX7_hangs_56
    refine lv_if_eq (tgt := 41) hx hb dX7_hangs_27 (by decide) (fun c21 => ?_) (fun c21 => ?_)
    · have hf := dq_t hf c21
      clear c21
      refine lv_bipush (v := -2) hx hb dX7_hangs_41 (by decide) ?_
      exact J43 _ hf _ _ hP hD hS _ (lv_sub hl [0, 1, 2, 3, 4] rfl)
    · have hf := dq_f hf c21
      clear c21
      refine lv_iload hx hb dX7_hangs_30 (lv_at hl 4 rfl) ?_
      refine lv_iconst (v := 0) hx hb dX7_hangs_32 (by decide) ?_
      refine lv_bipush (v := 9) hx hb dX7_hangs_33 (by decide) ?_
      obtain ⟨x22, hy23, hf⟩ := dq_b hf
      refine ct_callS0 (own := RX7) (As := [.int n3, .int (0 : Int32), .int (9 : Int32)]) (rest := []) ⟨hx, hb, hml, hown, hts⟩ (m_X7_wrongNumber l D y n3 (0 : Int32) (9 : Int32) x22 hy23) (va_cwS 3 hts (gA_S wl_695 wl_696 wl_5 wl_697) rfl rfl rfl (by decide +kernel) ⟨Nat.le_of_ble_eq_true rfl, Nat.le_of_ble_eq_true rfl⟩) rfl hl.1 rfl (Nat.le_of_ble_eq_true rfl) dX7_hangs_35 ⟨Nat.zero_le _, Nat.zero_le _⟩ hK hP hD hS hA (fun H locs hP hD hS => ?_)
      refine lv_goto (tgt := 43) hx hb dX7_hangs_38 (by decide) ?_
      exact J43 _ hf _ _ hP hD hS _ (lv_sub hl [0, 1, 2, 3, 4] rfl)
  · have hf := dq_t hf c3
    clear c3
    refine lv_aload_n hx hb dX7_hangs_12 rfl (lv_at hl 0 rfl) ?_
    refine lv_iconst (v := -1) hx hb dX7_hangs_13 (by decide) ?_
    obtain ⟨x24, r_refusals_25, hy26, hf⟩ := dq_b2 hf
    refine ct_callV0 (ci := 6) (q0 := 0) (own := RX7) (As := [.int (-1 : Int32)]) (rest := []) (ws' := (w_X7 y a r_airs r_sitters r_stepMany r_today r_taken r_isStill (0 : Int32) r_letterMany r_at0 r_isBad r_statements r_stepsMany r_hasImage r_place0 r_isTaking r_keptIn r_turned r_rowMany r_seed r_warms r_shutAt r_kinds0 r_figures r_airAt r_ways r_crowned r_sitsAt r_shawls r_isOn r_stepOf r_stepBy r_refusals_25 r_letters r_placeIn r_letterOf r_numbers r_stepsRead r_stepsBy r_kept r_keptWarms r_i_imaged r_imagedWarms r_turns0 r_turnWarms0 r_turnOf r_turnWarms r_row0 r_gains r_pegSort r_pegMany r_pegHolds r_coats r_coatsMoved)) ⟨hx, hb, hml, hown, hts⟩ (m_X7_refuse l D y a r_airs r_sitters r_stepMany r_today r_taken r_isStill (0 : Int32) r_letterMany r_at0 r_isBad r_statements r_stepsMany r_hasImage r_place0 r_isTaking r_keptIn r_turned r_rowMany r_seed r_warms r_shutAt r_kinds0 r_figures r_airAt r_ways r_crowned r_sitsAt r_shawls r_isOn r_stepOf r_stepBy r_refusals r_letters r_placeIn r_letterOf r_numbers r_stepsRead r_stepsBy r_kept r_keptWarms r_i_imaged r_imagedWarms r_turns0 r_turnWarms0 r_turnOf r_turnWarms r_row0 r_gains r_pegSort r_pegMany r_pegHolds r_coats r_coatsMoved (-1 : Int32) x24 r_refusals_25 hy26) (cwV 1 hts (gA_V wl_133 wl_134 wl_135 wl_5 wl_136) rfl rfl rfl (by decide +kernel) ⟨Nat.le_of_ble_eq_true rfl, Nat.le_of_ble_eq_true rfl⟩) rfl rfl rfl hl.1 rfl (Nat.le_of_ble_eq_true rfl) dX7_hangs_14 ⟨Nat.zero_le _, Nat.zero_le _⟩ hK hP hD hS hA (fun H locs hP hD hS => ?_)
    obtain ⟨rfl, rfl, rfl, rfl⟩ := dq_r4 hf
    exact ct_iret hx hb hr hlocks hAe hP hK hD hS dX7_hangs_17
