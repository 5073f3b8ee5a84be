noncomputable def f_X7_back_b65 (a : (Nat → Nat)) (r_airs : Int32) (r_sitters : Int32) (r_stepMany : Int32) (r_today : Int32) (r_taken : Int32) (r_warms : (Nat → UInt32)) (r_shutAt : (Nat → Int32)) (r_kinds0 : (Nat → Int32)) (r_figures : (Nat → Int32)) (r_airAt : (Nat → Int32)) (r_ways : (Nat → Int32)) (r_crowned : (Nat → Int32)) (r_sitsAt : (Nat → Int32)) (r_shawls : (Nat → Int32)) (r_isOn : (Nat → Int32)) (r_stepOf : (Nat → Int32)) (r_stepBy : (Nat → Int32)) (r_refusals : (Nat → Int32)) (r_turnWarms0 : (Nat → UInt32)) (x2 : Int32) (r_turnOf_4 : (Nat → Int32))  : Nat → Int32 → (Nat → UInt32) → Option (Int32 × Int32 × Int32 × Int32 × Int32 × Int32 × Int32 × Int32 × Int32 × Value × Int32 × (Nat → UInt32) × (Nat → Int32) × (Nat → Int32) × (Nat → Int32) × (Nat → Int32) × (Nat → Int32) × (Nat → Int32) × (Nat → Int32) × (Nat → Int32) × (Nat → Int32) × (Nat → Int32) × (Nat → Int32) × (Nat → Int32) × (Nat → Int32) × (Nat → UInt32))
  | 0, _, _ => none
  | m65 + 1, x6, r_turnWarms_7 => dq_if ((36 : Int32) ≤ x6) (dq_bd22 (f_X7_carryAll (a 26) r_airs r_sitters r_stepMany r_today r_taken r_warms r_shutAt r_kinds0 r_figures r_airAt r_ways r_crowned r_sitsAt r_shawls r_isOn r_stepOf r_stepBy r_turnOf_4 r_turnWarms_7 (0 : Int32)) (fun (r_airs_9 : Int32) (r_sitters_10 : Int32) (r_stepMany_11 : Int32) (r_today_12 : Int32) (r_taken_13 : Int32) (r_place0_14 : Int32) (r_isTaking_15 : Int32) (r_keptIn_16 : Value) (r_warms_17 : (Nat → UInt32)) (r_shutAt_18 : (Nat → Int32)) (r_kinds0_19 : (Nat → Int32)) (r_figures_20 : (Nat → Int32)) (r_airAt_21 : (Nat → Int32)) (r_ways_22 : (Nat → Int32)) (r_crowned_23 : (Nat → Int32)) (r_sitsAt_24 : (Nat → Int32)) (r_shawls_25 : (Nat → Int32)) (r_isOn_26 : (Nat → Int32)) (r_stepOf_27 : (Nat → Int32)) (r_stepBy_28 : (Nat → Int32)) (r_turnOf_29 : (Nat → Int32)) (r_turnWarms_30 : (Nat → UInt32)) => some (x2, r_airs_9, r_sitters_10, r_stepMany_11, r_today_12, r_taken_13, (0 : Int32), r_place0_14, r_isTaking_15, r_keptIn_16, x2, r_warms_17, r_shutAt_18, r_kinds0_19, r_figures_20, r_airAt_21, r_ways_22, r_crowned_23, r_sitsAt_24, r_shawls_25, r_isOn_26, r_stepOf_27, r_stepBy_28, r_refusals, r_turnOf_29, r_turnWarms_30))) (dq_gd (vp_in (((36 : Int32) * x2) + x6) 288) (dq_gd (vp_in x6 36) (dq_let (vf_upd r_turnWarms_7 x6.toNatClampNeg (r_turnWarms0 (((36 : Int32) * x2) + x6).toNatClampNeg)) (fun (r_turnWarms_34 : (Nat → UInt32)) => dq_let (x6 + (1 : Int32)) (fun (x35 : Int32) => (f_X7_back_b65 a r_airs r_sitters r_stepMany r_today r_taken r_warms r_shutAt r_kinds0 r_figures r_airAt r_ways r_crowned r_sitsAt r_shawls r_isOn r_stepOf r_stepBy r_refusals r_turnWarms0 x2 r_turnOf_4 m65) x35 r_turnWarms_34)))))
noncomputable def f_X7_back_b31 (a : (Nat → Nat)) (r_airs : Int32) (r_sitters : Int32) (r_stepMany : Int32) (r_today : Int32) (r_taken : Int32) (r_warms : (Nat → UInt32)) (r_shutAt : (Nat → Int32)) (r_kinds0 : (Nat → Int32)) (r_figures : (Nat → Int32)) (r_airAt : (Nat → Int32)) (r_ways : (Nat → Int32)) (r_crowned : (Nat → Int32)) (r_sitsAt : (Nat → Int32)) (r_shawls : (Nat → Int32)) (r_isOn : (Nat → Int32)) (r_stepOf : (Nat → Int32)) (r_stepBy : (Nat → Int32)) (r_refusals : (Nat → Int32)) (r_turns0 : (Nat → Int32)) (r_turnWarms0 : (Nat → UInt32)) (r_turnWarms : (Nat → UInt32)) (x2 : Int32)  : Nat → Int32 → (Nat → Int32) → Option (Int32 × Int32 × Int32 × Int32 × Int32 × Int32 × Int32 × Int32 × Int32 × Value × Int32 × (Nat → UInt32) × (Nat → Int32) × (Nat → Int32) × (Nat → Int32) × (Nat → Int32) × (Nat → Int32) × (Nat → Int32) × (Nat → Int32) × (Nat → Int32) × (Nat → Int32) × (Nat → Int32) × (Nat → Int32) × (Nat → Int32) × (Nat → Int32) × (Nat → UInt32))
  | 0, _, _ => none
  | m31 + 1, x3, r_turnOf_4 => dq_if ((96 : Int32) ≤ x3) (f_X7_back_b65 a r_airs r_sitters r_stepMany r_today r_taken r_warms r_shutAt r_kinds0 r_figures r_airAt r_ways r_crowned r_sitsAt r_shawls r_isOn r_stepOf r_stepBy r_refusals r_turnWarms0 x2 r_turnOf_4 4096 (0 : Int32) r_turnWarms) (dq_gd (vp_in (((96 : Int32) * x2) + x3) 768) (dq_gd (vp_in x3 96) (dq_let (upd r_turnOf_4 x3.toNatClampNeg (r_turns0 (((96 : Int32) * x2) + x3).toNatClampNeg)) (fun (r_turnOf_38 : (Nat → Int32)) => dq_let (x3 + (1 : Int32)) (fun (x39 : Int32) => (f_X7_back_b31 a r_airs r_sitters r_stepMany r_today r_taken r_warms r_shutAt r_kinds0 r_figures r_airAt r_ways r_crowned r_sitsAt r_shawls r_isOn r_stepOf r_stepBy r_refusals r_turns0 r_turnWarms0 r_turnWarms x2 m31) x39 r_turnOf_38)))))
noncomputable def f_X7_back (a : (Nat → Nat)) (r_airs : Int32) (r_sitters : Int32) (r_stepMany : Int32) (r_today : Int32) (r_taken : Int32) (r_place0 : Int32) (r_isTaking : Int32) (r_keptIn : Value) (r_turned : Int32) (r_warms : (Nat → UInt32)) (r_shutAt : (Nat → Int32)) (r_kinds0 : (Nat → Int32)) (r_figures : (Nat → Int32)) (r_airAt : (Nat → Int32)) (r_ways : (Nat → Int32)) (r_crowned : (Nat → Int32)) (r_sitsAt : (Nat → Int32)) (r_shawls : (Nat → Int32)) (r_isOn : (Nat → Int32)) (r_stepOf : (Nat → Int32)) (r_stepBy : (Nat → Int32)) (r_refusals : (Nat → Int32)) (r_turns0 : (Nat → Int32)) (r_turnWarms0 : (Nat → UInt32)) (r_turnOf : (Nat → Int32)) (r_turnWarms : (Nat → UInt32)) : Option (Int32 × Int32 × Int32 × Int32 × Int32 × Int32 × Int32 × Int32 × Int32 × Value × Int32 × (Nat → UInt32) × (Nat → Int32) × (Nat → Int32) × (Nat → Int32) × (Nat → Int32) × (Nat → Int32) × (Nat → Int32) × (Nat → Int32) × (Nat → Int32) × (Nat → Int32) × (Nat → Int32) × (Nat → Int32) × (Nat → Int32) × (Nat → Int32) × (Nat → UInt32)) := dq_if (r_turned = 0) (dq_bd2 (f_X7_refuse r_refusals (-3 : Int32)) (fun (x40 : Int32) (r_refusals_41 : (Nat → Int32)) => some (x40, r_airs, r_sitters, r_stepMany, r_today, r_taken, (0 : Int32), r_place0, r_isTaking, r_keptIn, r_turned, r_warms, r_shutAt, r_kinds0, r_figures, r_airAt, r_ways, r_crowned, r_sitsAt, r_shawls, r_isOn, r_stepOf, r_stepBy, r_refusals_41, r_turnOf, r_turnWarms))) (dq_let (r_turned - (1 : Int32)) (fun (x2 : Int32) => f_X7_back_b31 a r_airs r_sitters r_stepMany r_today r_taken r_warms r_shutAt r_kinds0 r_figures r_airAt r_ways r_crowned r_sitsAt r_shawls r_isOn r_stepOf r_stepBy r_refusals r_turns0 r_turnWarms0 r_turnWarms x2 4096 (0 : Int32) r_turnOf))
def wA_X7_back : List Cond := .code yX7_back cX7_back 2 (some .int) :: wsL_law
-- DraughtsTakeModel.back()I
set_option maxHeartbeats 4000000 in
set_option maxRecDepth 100000 in
theorem m_X7_back (l : Launch) (D : va_G) (y : Nat → ClassId) (a : (Nat → Nat)) (r_airs : Int32) (r_sitters : Int32) (r_stepMany : Int32) (r_today : Int32) (r_taken : Int32) (r_isStill : Int32) (r_thrown : Int32) (r_letterMany : Int32) (r_at0 : Int32) (r_isBad : Int32) (r_statements : Int32) (r_stepsMany : Int32) (r_hasImage : Int32) (r_place0 : Int32) (r_isTaking : Int32) (r_keptIn : Value) (r_turned : Int32) (r_rowMany : Int32) (r_seed : Int32) (r_warms : (Nat → UInt32)) (r_shutAt : (Nat → Int32)) (r_kinds0 : (Nat → Int32)) (r_figures : (Nat → Int32)) (r_airAt : (Nat → Int32)) (r_ways : (Nat → Int32)) (r_crowned : (Nat → Int32)) (r_sitsAt : (Nat → Int32)) (r_shawls : (Nat → Int32)) (r_isOn : (Nat → Int32)) (r_stepOf : (Nat → Int32)) (r_stepBy : (Nat → Int32)) (r_refusals : (Nat → Int32)) (r_letters : (Nat → Int32)) (r_placeIn : (Nat → Int32)) (r_letterOf : (Nat → Int32)) (r_numbers : (Nat → Int32)) (r_stepsRead : (Nat → Int32)) (r_stepsBy : (Nat → Int32)) (r_kept : (Nat → Int32)) (r_keptWarms : (Nat → UInt32)) (r_i_imaged : (Nat → Int32)) (r_imagedWarms : (Nat → UInt32)) (r_turns0 : (Nat → Int32)) (r_turnWarms0 : (Nat → UInt32)) (r_turnOf : (Nat → Int32)) (r_turnWarms : (Nat → UInt32)) (r_row0 : (Nat → Int32)) (r_gains : (Nat → Int32)) (r_pegSort : (Nat → Int32)) (r_pegMany : (Nat → Int32)) (r_pegHolds : (Nat → Int32)) (r_coats : (Nat → Int32)) (r_coatsMoved : (Nat → Int32)) (z0 : Int32) (z1 : Int32) (z2 : Int32) (z3 : Int32) (z4 : Int32) (z5 : Int32) (z6 : Int32) (z7 : Int32) (z8 : Int32) (z9 : Value) (z10 : Int32) (z11 : (Nat → UInt32)) (z12 : (Nat → Int32)) (z13 : (Nat → Int32)) (z14 : (Nat → Int32)) (z15 : (Nat → Int32)) (z16 : (Nat → Int32)) (z17 : (Nat → Int32)) (z18 : (Nat → Int32)) (z19 : (Nat → Int32)) (z20 : (Nat → Int32)) (z21 : (Nat → Int32)) (z22 : (Nat → Int32)) (z23 : (Nat → Int32)) (z24 : (Nat → Int32)) (z25 : (Nat → UInt32)) (hf : f_X7_back a r_airs r_sitters r_stepMany r_today r_taken r_place0 r_isTaking r_keptIn r_turned r_warms r_shutAt r_kinds0 r_figures r_airAt r_ways r_crowned r_sitsAt r_shawls r_isOn r_stepOf r_stepBy r_refusals r_turns0 r_turnWarms0 r_turnOf r_turnWarms = some (z0, z1, z2, z3, z4, z5, z6, z7, z8, z9, z10, z11, z12, z13, z14, z15, z16, z17, z18, z19, z20, z21, z22, z23, z24, z25)) : Ct l D y yX7_back wA_X7_back 2 45 [.ref (a 0)] (w_X7 y a r_airs r_sitters r_stepMany r_today r_taken r_isStill r_thrown r_letterMany r_at0 r_isBad r_statements r_stepsMany r_hasImage r_place0 r_isTaking r_keptIn r_turned r_rowMany r_seed r_warms r_shutAt r_kinds0 r_figures r_airAt r_ways r_crowned r_sitsAt r_shawls r_isOn r_stepOf r_stepBy r_refusals r_letters r_placeIn r_letterOf r_numbers r_stepsRead r_stepsBy r_kept r_keptWarms r_i_imaged r_imagedWarms r_turns0 r_turnWarms0 r_turnOf r_turnWarms r_row0 r_gains r_pegSort r_pegMany r_pegHolds r_coats r_coatsMoved) (w_X7 y a z1 z2 z3 z4 z5 r_isStill z6 r_letterMany r_at0 r_isBad r_statements r_stepsMany r_hasImage z7 z8 z9 z10 r_rowMany r_seed z11 z12 z13 z14 z15 z16 z17 z18 z19 z20 z21 z22 z23 r_letters r_placeIn r_letterOf r_numbers r_stepsRead r_stepsBy r_kept r_keptWarms r_i_imaged r_imagedWarms r_turns0 r_turnWarms0 z24 z25 r_row0 r_gains r_pegSort r_pegMany r_pegHolds r_coats r_coatsMoved) (some (.int z0)) := by
  refine ct_head (cc := cX7_back) (n := 2) (ret := (some .int)) (by decide) rfl (Nat.le_of_ble_eq_true rfl) ?_
  intro p e s m below meth c A ls hx hb hr hml hown hlocks hts hA hAe hP hK hD hl
  have hS : va_S A s.heap s.heap [] := va_S.rf
  have hl : lv_has ls 2 [(0, .ref (a 0))] := hl
  have hown : s.vm.findClass RX7 = some m.cls := hown
  have hts : ∀ w ∈ wsL_law, w.before [.ref (a 0)].toArray s = true := fun w h => hts w (List.mem_cons_of_mem _ h)
  unfold f_X7_back at hf
  refine lv_aload_n hx hb dX7_back_0 rfl (lv_at hl 0 rfl) ?_
  refine lv_iconst (v := 0) hx hb dX7_back_1 (by decide) ?_
  refine va_put (D := D) (ci := 6) (v := .int (0 : Int32)) (ty := .int) (C := RX7) (T := TX7) (N := 53) hx hb hts iwX7 tyX7 tyX7_ok nmX7 hown hK hP hD hS 0 rfl rfl 18 (by decide) (hts _ wl_116) (fun _ h9 => h9) rfl (tyX7_ok 18 (by decide)) rfl rfl (Nat.le_of_ble_eq_true rfl) dX7_back_2 (fun H locs hP hD hS => ?_)
  have hP : va_P D vwCl (w_X7 y a r_airs r_sitters r_stepMany r_today r_taken r_isStill (0 : Int32) r_letterMany r_at0 r_isBad r_statements r_stepsMany r_hasImage r_place0 r_isTaking r_keptIn r_turned r_rowMany r_seed r_warms r_shutAt r_kinds0 r_figures r_airAt r_ways r_crowned r_sitsAt r_shawls r_isOn r_stepOf r_stepBy r_refusals r_letters r_placeIn r_letterOf r_numbers r_stepsRead r_stepsBy r_kept r_keptWarms r_i_imaged r_imagedWarms r_turns0 r_turnWarms0 r_turnOf r_turnWarms r_row0 r_gains r_pegSort r_pegMany r_pegHolds r_coats r_coatsMoved) H := hP
  have hD : va_D A (w_X7 y a r_airs r_sitters r_stepMany r_today r_taken r_isStill (0 : Int32) r_letterMany r_at0 r_isBad r_statements r_stepsMany r_hasImage r_place0 r_isTaking r_keptIn r_turned r_rowMany r_seed r_warms r_shutAt r_kinds0 r_figures r_airAt r_ways r_crowned r_sitsAt r_shawls r_isOn r_stepOf r_stepBy r_refusals r_letters r_placeIn r_letterOf r_numbers r_stepsRead r_stepsBy r_kept r_keptWarms r_i_imaged r_imagedWarms r_turns0 r_turnWarms0 r_turnOf r_turnWarms r_row0 r_gains r_pegSort r_pegMany r_pegHolds r_coats r_coatsMoved) := hD
  refine lv_aload_n hx hb dX7_back_5 rfl (lv_at hl 0 rfl) ?_
  refine va_get (D := D) (ci := 6) (v := .int r_turned) (C := RX7) (T := TX7) (N := 53) hx hb hts iwX7 hown hK hP 0 rfl rfl 43 (by decide) (hts _ wl_362) (fun _ h9 => h9) rfl dX7_back_6 ?_
  refine lv_if_ne (tgt := 19) hx hb dX7_back_9 (by decide) (fun c1 => ?_) (fun c1 => ?_)
  · have hf := dq_f hf c1
    clear c1
    refine lv_aload_n hx hb dX7_back_19 rfl (lv_at hl 0 rfl) ?_
    refine lv_dup hx hb dX7_back_20 rfl ?_
    refine va_get (D := D) (ci := 6) (v := .int r_turned) (C := RX7) (T := TX7) (N := 53) hx hb hts iwX7 hown hK hP 0 rfl rfl 43 (by decide) (hts _ wl_362) (fun _ h9 => h9) rfl dX7_back_21 ?_
    refine lv_iconst (v := 1) hx hb dX7_back_24 (by decide) ?_
    refine lv_isub hx hb dX7_back_25 ?_
    refine lv_topi (fun x2 ex2 => ?_)
    have hf := dq_l hf x2 ex2
    clear ex2
    refine va_put (D := D) (ci := 6) (v := .int x2) (ty := .int) (C := RX7) (T := TX7) (N := 53) hx hb hts iwX7 tyX7 tyX7_ok nmX7 hown hK hP hD hS 0 rfl rfl 43 (by decide) (hts _ wl_362) (fun _ h9 => h9) rfl (tyX7_ok 43 (by decide)) rfl rfl (Nat.le_of_ble_eq_true rfl) dX7_back_26 (fun H locs hP hD hS => ?_)
    have hP : va_P D vwCl (w_X7 y a r_airs r_sitters r_stepMany r_today r_taken r_isStill (0 : Int32) r_letterMany r_at0 r_isBad r_statements r_stepsMany r_hasImage r_place0 r_isTaking r_keptIn x2 r_rowMany r_seed r_warms r_shutAt r_kinds0 r_figures r_airAt r_ways r_crowned r_sitsAt r_shawls r_isOn r_stepOf r_stepBy r_refusals r_letters r_placeIn r_letterOf r_numbers r_stepsRead r_stepsBy r_kept r_keptWarms r_i_imaged r_imagedWarms r_turns0 r_turnWarms0 r_turnOf r_turnWarms r_row0 r_gains r_pegSort r_pegMany r_pegHolds r_coats r_coatsMoved) H := hP
    have hD : va_D A (w_X7 y a r_airs r_sitters r_stepMany r_today r_taken r_isStill (0 : Int32) r_letterMany r_at0 r_isBad r_statements r_stepsMany r_hasImage r_place0 r_isTaking r_keptIn x2 r_rowMany r_seed r_warms r_shutAt r_kinds0 r_figures r_airAt r_ways r_crowned r_sitsAt r_shawls r_isOn r_stepOf r_stepBy r_refusals r_letters r_placeIn r_letterOf r_numbers r_stepsRead r_stepsBy r_kept r_keptWarms r_i_imaged r_imagedWarms r_turns0 r_turnWarms0 r_turnOf r_turnWarms r_row0 r_gains r_pegSort r_pegMany r_pegHolds r_coats r_coatsMoved) := hD
    refine lv_iconst (v := 0) hx hb dX7_back_29 (by decide) ?_
    refine lv_istore_n (lv' := [(1, .int (0 : Int32)), (0, .ref (a 0))]) hx hb dX7_back_30 rfl hl (by decide) rfl (fun ls hl => ?_)
    have J31 : ∀ (m31 : Nat) (x3 : Int32) (r_turnOf_4 : (Nat → Int32)), f_X7_back_b31 a r_airs r_sitters r_stepMany r_today r_taken r_warms r_shutAt r_kinds0 r_figures r_airAt r_ways r_crowned r_sitsAt r_shawls r_isOn r_stepOf r_stepBy r_refusals r_turns0 r_turnWarms0 r_turnWarms x2 m31 x3 r_turnOf_4 = some (z0, z1, z2, z3, z4, z5, z6, z7, z8, z9, z10, z11, z12, z13, z14, z15, z16, z17, z18, z19, z20, z21, z22, z23, z24, z25) → ∀ (H : Heap) (locs : List Loc), va_P D vwCl (w_X7 y a r_airs r_sitters r_stepMany r_today r_taken r_isStill (0 : Int32) r_letterMany r_at0 r_isBad r_statements r_stepsMany r_hasImage r_place0 r_isTaking r_keptIn x2 r_rowMany r_seed r_warms r_shutAt r_kinds0 r_figures r_airAt r_ways r_crowned r_sitsAt r_shawls r_isOn r_stepOf r_stepBy r_refusals r_letters r_placeIn r_letterOf r_numbers r_stepsRead r_stepsBy r_kept r_keptWarms r_i_imaged r_imagedWarms r_turns0 r_turnWarms0 r_turnOf_4 r_turnWarms r_row0 r_gains r_pegSort r_pegMany r_pegHolds r_coats r_coatsMoved) H → va_D A (w_X7 y a r_airs r_sitters r_stepMany r_today r_taken r_isStill (0 : Int32) r_letterMany r_at0 r_isBad r_statements r_stepsMany r_hasImage r_place0 r_isTaking r_keptIn x2 r_rowMany r_seed r_warms r_shutAt r_kinds0 r_figures r_airAt r_ways r_crowned r_sitsAt r_shawls r_isOn r_stepOf r_stepBy r_refusals r_letters r_placeIn r_letterOf r_numbers r_stepsRead r_stepsBy r_kept r_keptWarms r_i_imaged r_imagedWarms r_turns0 r_turnWarms0 r_turnOf_4 r_turnWarms r_row0 r_gains r_pegSort r_pegMany r_pegHolds r_coats r_coatsMoved) → va_S A s.heap H locs → ∀ ls : Array Slot, lv_has ls 2 [(0, .ref (a 0)), (1, .int x3)] → W p l e ({ frames := 2, cells := 0, slots := 0, locals := 45 } : Room) s m [.ref (a 0)].toArray below meth c H locs 0 0 (MQ below (dQ D y (some (.int z0)) s.heap.size (w_X7 y a r_airs r_sitters r_stepMany r_today r_taken r_isStill r_thrown r_letterMany r_at0 r_isBad r_statements r_stepsMany r_hasImage r_place0 r_isTaking r_keptIn r_turned r_rowMany r_seed r_warms r_shutAt r_kinds0 r_figures r_airAt r_ways r_crowned r_sitsAt r_shawls r_isOn r_stepOf r_stepBy r_refusals r_letters r_placeIn r_letterOf r_numbers r_stepsRead r_stepsBy r_kept r_keptWarms r_i_imaged r_imagedWarms r_turns0 r_turnWarms0 r_turnOf r_turnWarms r_row0 r_gains r_pegSort r_pegMany r_pegHolds r_coats r_coatsMoved) (w_X7 y a z1 z2 z3 z4 z5 r_isStill z6 r_letterMany r_at0 r_isBad r_statements r_stepsMany r_hasImage z7 z8 z9 z10 r_rowMany r_seed z11 z12 z13 z14 z15 z16 z17 z18 z19 z20 z21 z22 z23 r_letters r_placeIn r_letterOf r_numbers r_stepsRead r_stepsBy r_kept r_keptWarms r_i_imaged r_imagedWarms r_turns0 r_turnWarms0 z24 z25 r_row0 r_gains r_pegSort r_pegMany r_pegHolds r_coats r_coatsMoved)) [.ref (a 0)].toArray s 0 0 A) (F0 m 31 ls []) := by
      intro m31
      induction m31 with
      | zero => intro x3 r_turnOf_4 hf; exact absurd hf (by unfold f_X7_back_b31; exact fun h => by cases h)
      | succ m31 I31 =>
        intro x3 r_turnOf_4 hf H locs hP hD hS ls hl
        unfold f_X7_back_b31 at hf
        refine lv_iload_n hx hb dX7_back_31 rfl (lv_at hl 1 rfl) ?_
        refine lv_bipush (v := 96) hx hb dX7_back_32 (by decide) ?_
        refine lv_icmp_ge (tgt := 63) hx hb dX7_back_34 (by decide) (fun c5 => ?_) (fun c5 => ?_)
        · have hf := dq_t hf c5
          clear c5
          refine lv_iconst (v := 0) hx hb dX7_back_63 (by decide) ?_
          refine lv_istore_n (lv' := [(1, .int (0 : Int32)), (0, .ref (a 0))]) hx hb dX7_back_64 rfl hl (by decide) rfl (fun ls hl => ?_)
          have J65 : ∀ (m65 : Nat) (x6 : Int32) (r_turnWarms_7 : (Nat → UInt32)), f_X7_back_b65 a r_airs r_sitters r_stepMany r_today r_taken r_warms r_shutAt r_kinds0 r_figures r_airAt r_ways r_crowned r_sitsAt r_shawls r_isOn r_stepOf r_stepBy r_refusals r_turnWarms0 x2 r_turnOf_4 m65 x6 r_turnWarms_7 = some (z0, z1, z2, z3, z4, z5, z6, z7, z8, z9, z10, z11, z12, z13, z14, z15, z16, z17, z18, z19, z20, z21, z22, z23, z24, z25) → ∀ (H : Heap) (locs : List Loc), va_P D vwCl (w_X7 y a r_airs r_sitters r_stepMany r_today r_taken r_isStill (0 : Int32) r_letterMany r_at0 r_isBad r_statements r_stepsMany r_hasImage r_place0 r_isTaking r_keptIn x2 r_rowMany r_seed r_warms r_shutAt r_kinds0 r_figures r_airAt r_ways r_crowned r_sitsAt r_shawls r_isOn r_stepOf r_stepBy r_refusals r_letters r_placeIn r_letterOf r_numbers r_stepsRead r_stepsBy r_kept r_keptWarms r_i_imaged r_imagedWarms r_turns0 r_turnWarms0 r_turnOf_4 r_turnWarms_7 r_row0 r_gains r_pegSort r_pegMany r_pegHolds r_coats r_coatsMoved) H → va_D A (w_X7 y a r_airs r_sitters r_stepMany r_today r_taken r_isStill (0 : Int32) r_letterMany r_at0 r_isBad r_statements r_stepsMany r_hasImage r_place0 r_isTaking r_keptIn x2 r_rowMany r_seed r_warms r_shutAt r_kinds0 r_figures r_airAt r_ways r_crowned r_sitsAt r_shawls r_isOn r_stepOf r_stepBy r_refusals r_letters r_placeIn r_letterOf r_numbers r_stepsRead r_stepsBy r_kept r_keptWarms r_i_imaged r_imagedWarms r_turns0 r_turnWarms0 r_turnOf_4 r_turnWarms_7 r_row0 r_gains r_pegSort r_pegMany r_pegHolds r_coats r_coatsMoved) → va_S A s.heap H locs → ∀ ls : Array Slot, lv_has ls 2 [(0, .ref (a 0)), (1, .int x6)] → W p l e ({ frames := 2, cells := 0, slots := 0, locals := 45 } : Room) s m [.ref (a 0)].toArray below meth c H locs 0 0 (MQ below (dQ D y (some (.int z0)) s.heap.size (w_X7 y a r_airs r_sitters r_stepMany r_today r_taken r_isStill r_thrown r_letterMany r_at0 r_isBad r_statements r_stepsMany r_hasImage r_place0 r_isTaking r_keptIn r_turned r_rowMany r_seed r_warms r_shutAt r_kinds0 r_figures r_airAt r_ways r_crowned r_sitsAt r_shawls r_isOn r_stepOf r_stepBy r_refusals r_letters r_placeIn r_letterOf r_numbers r_stepsRead r_stepsBy r_kept r_keptWarms r_i_imaged r_imagedWarms r_turns0 r_turnWarms0 r_turnOf r_turnWarms r_row0 r_gains r_pegSort r_pegMany r_pegHolds r_coats r_coatsMoved) (w_X7 y a z1 z2 z3 z4 z5 r_isStill z6 r_letterMany r_at0 r_isBad r_statements r_stepsMany r_hasImage z7 z8 z9 z10 r_rowMany r_seed z11 z12 z13 z14 z15 z16 z17 z18 z19 z20 z21 z22 z23 r_letters r_placeIn r_letterOf r_numbers r_stepsRead r_stepsBy r_kept r_keptWarms r_i_imaged r_imagedWarms r_turns0 r_turnWarms0 z24 z25 r_row0 r_gains r_pegSort r_pegMany r_pegHolds r_coats r_coatsMoved)) [.ref (a 0)].toArray s 0 0 A) (F0 m 65 ls []) := by
            intro m65
            induction m65 with
            | zero => intro x6 r_turnWarms_7 hf; exact absurd hf (by unfold f_X7_back_b65; exact fun h => by cases h)
            | succ m65 I65 =>
              intro x6 r_turnWarms_7 hf H locs hP hD hS ls hl
              unfold f_X7_back_b65 at hf
              refine lv_iload_n hx hb dX7_back_65 rfl (lv_at hl 1 rfl) ?_
              refine lv_bipush (v := 36) hx hb dX7_back_66 (by decide) ?_
              refine lv_icmp_ge (tgt := 97) hx hb dX7_back_68 (by decide) (fun c8 => ?_) (fun c8 => ?_)
              · have hf := dq_t hf c8
                clear c8
                refine lv_aload_n hx hb dX7_back_97 rfl (lv_at hl 0 rfl) ?_
                refine lv_aload_n hx hb dX7_back_98 rfl (lv_at hl 0 rfl) ?_
                refine va_get (D := D) (ci := 6) (v := .ref (a 26)) (C := RX7) (T := TX7) (N := 53) hx hb hts iwX7 hown hK hP 0 rfl rfl 41 (by decide) (hts _ wl_106) (fun _ h9 => h9) rfl dX7_back_99 ?_
                refine lv_aload_n hx hb dX7_back_102 rfl (lv_at hl 0 rfl) ?_
                refine va_get (D := D) (ci := 6) (v := .ref (a 27)) (C := RX7) (T := TX7) (N := 53) hx hb hts iwX7 hown hK hP 0 rfl rfl 42 (by decide) (hts _ wl_107) (fun _ h9 => h9) rfl dX7_back_103 ?_
                refine lv_iconst (v := 0) hx hb dX7_back_106 (by decide) ?_
                obtain ⟨r_airs_9, r_sitters_10, r_stepMany_11, r_today_12, r_taken_13, r_place0_14, r_isTaking_15, r_keptIn_16, r_warms_17, r_shutAt_18, r_kinds0_19, r_figures_20, r_airAt_21, r_ways_22, r_crowned_23, r_sitsAt_24, r_shawls_25, r_isOn_26, r_stepOf_27, r_stepBy_28, r_turnOf_29, r_turnWarms_30, hy31, hf⟩ := dq_b22 hf
                refine ct_callV (ci := 6) (q0 := 0) (own := RX7) (As := [.ref (a 26), .ref (a 27), .int (0 : Int32)]) (rest := []) (ws' := (w_X7 y a r_airs_9 r_sitters_10 r_stepMany_11 r_today_12 r_taken_13 r_isStill (0 : Int32) r_letterMany r_at0 r_isBad r_statements r_stepsMany r_hasImage r_place0_14 r_isTaking_15 r_keptIn_16 x2 r_rowMany r_seed r_warms_17 r_shutAt_18 r_kinds0_19 r_figures_20 r_airAt_21 r_ways_22 r_crowned_23 r_sitsAt_24 r_shawls_25 r_isOn_26 r_stepOf_27 r_stepBy_28 r_refusals r_letters r_placeIn r_letterOf r_numbers r_stepsRead r_stepsBy r_kept r_keptWarms r_i_imaged r_imagedWarms r_turns0 r_turnWarms0 r_turnOf_29 r_turnWarms_30 r_row0 r_gains r_pegSort r_pegMany r_pegHolds r_coats r_coatsMoved)) ⟨hx, hb, hml, hown, hts⟩ (m_X7_carryAll l D y a (a 26) (a 27) r_airs r_sitters r_stepMany r_today r_taken r_isStill (0 : Int32) r_letterMany r_at0 r_isBad r_statements r_stepsMany r_hasImage r_place0 r_isTaking r_keptIn x2 r_rowMany r_seed r_warms r_shutAt r_kinds0 r_figures r_airAt r_ways r_crowned r_sitsAt r_shawls r_isOn r_stepOf r_stepBy r_turnOf_4 r_turnWarms_7 (0 : Int32) r_airs_9 r_sitters_10 r_stepMany_11 r_today_12 r_taken_13 r_place0_14 r_isTaking_15 r_keptIn_16 r_warms_17 r_shutAt_18 r_kinds0_19 r_figures_20 r_airAt_21 r_ways_22 r_crowned_23 r_sitsAt_24 r_shawls_25 r_isOn_26 r_stepOf_27 r_stepBy_28 r_turnOf_29 r_turnWarms_30 hy31) (cwV 3 hts (gA_V wl_398 wl_399 wl_400 wl_5 wl_401) rfl rfl rfl (by decide +kernel) ⟨Nat.le_of_ble_eq_true rfl, Nat.le_of_ble_eq_true rfl⟩) rfl rfl rfl hl.1 rfl (Nat.le_of_ble_eq_true rfl) dX7_back_107 ⟨Nat.zero_le _, Nat.zero_le _⟩ hK hP hD hS hA [0, 1, 2, 3, 4, 5, 6, 7, 8, 9, 10, 11, 12, 26, 27] [13, 14, 15, 16, 17, 18, 19, 20, 21, 22, 23, 24, 25, 28, 29, 30, 31, 32, 33, 34] rfl rfl rfl (by decide) (by decide) 35 rfl (by decide +kernel) (fun H locs hP hD hS => ?_)
                refine lv_aload_n hx hb dX7_back_110 rfl (lv_at hl 0 rfl) ?_
                refine va_get (D := D) (ci := 6) (v := .int x2) (C := RX7) (T := TX7) (N := 53) hx hb hts iwX7 hown hK hP 0 rfl rfl 43 (by decide) (hts _ wl_362) (fun _ h9 => h9) rfl dX7_back_111 ?_
                obtain ⟨rfl, rfl, rfl, rfl, rfl, rfl, rfl, rfl, rfl, rfl, rfl, rfl, rfl, rfl, rfl, rfl, rfl, rfl, rfl, rfl, rfl, rfl, rfl, rfl, rfl, rfl⟩ := dq_r26 hf
                exact ct_iret hx hb hr hlocks hAe hP hK hD hS dX7_back_114
              · have hf := dq_f hf c8
                clear c8
                refine lv_aload_n hx hb dX7_back_71 rfl (lv_at hl 0 rfl) ?_
                refine va_get (D := D) (ci := 6) (v := .ref (a 27)) (C := RX7) (T := TX7) (N := 53) hx hb hts iwX7 hown hK hP 0 rfl rfl 42 (by decide) (hts _ wl_107) (fun _ h9 => h9) rfl dX7_back_72 ?_
                refine lv_iload_n hx hb dX7_back_75 rfl (lv_at hl 1 rfl) ?_
                refine lv_aload_n hx hb dX7_back_76 rfl (lv_at hl 0 rfl) ?_
                refine va_get (D := D) (ci := 6) (v := .ref (a 25)) (C := RX7) (T := TX7) (N := 53) hx hb hts iwX7 hown hK hP 0 rfl rfl 40 (by decide) (hts _ wl_105) (fun _ h9 => h9) rfl dX7_back_77 ?_
                refine lv_bipush (v := 36) hx hb dX7_back_80 (by decide) ?_
                refine lv_aload_n hx hb dX7_back_82 rfl (lv_at hl 0 rfl) ?_
                refine va_get (D := D) (ci := 6) (v := .int x2) (C := RX7) (T := TX7) (N := 53) hx hb hts iwX7 hown hK hP 0 rfl rfl 43 (by decide) (hts _ wl_362) (fun _ h9 => h9) rfl dX7_back_83 ?_
                refine lv_imul hx hb dX7_back_86 ?_
                refine lv_iload_n hx hb dX7_back_87 rfl (lv_at hl 1 rfl) ?_
                refine lv_iadd hx hb dX7_back_88 ?_
                obtain ⟨h32, hf⟩ := dq_g hf
                refine va_fald (cA := y 0) (n := 288) (f := r_turnWarms0) hx hb hK hP 25 0 rfl rfl h32 dX7_back_89 ?_
                obtain ⟨h33, hf⟩ := dq_g hf
                refine dq_fast (cA := y 0) (n := 36) (f := r_turnWarms_7) hx hb hK hP hD hS 27 0 rfl rfl h33 dX7_back_90 (fun r_turnWarms_34 er_turnWarms_34 H locs hP hD hS => ?_)
                have hf := dq_l hf r_turnWarms_34 er_turnWarms_34
                clear er_turnWarms_34
                have hP : va_P D vwCl (w_X7 y a r_airs r_sitters r_stepMany r_today r_taken r_isStill (0 : Int32) r_letterMany r_at0 r_isBad r_statements r_stepsMany r_hasImage r_place0 r_isTaking r_keptIn x2 r_rowMany r_seed r_warms r_shutAt r_kinds0 r_figures r_airAt r_ways r_crowned r_sitsAt r_shawls r_isOn r_stepOf r_stepBy r_refusals r_letters r_placeIn r_letterOf r_numbers r_stepsRead r_stepsBy r_kept r_keptWarms r_i_imaged r_imagedWarms r_turns0 r_turnWarms0 r_turnOf_4 r_turnWarms_34 r_row0 r_gains r_pegSort r_pegMany r_pegHolds r_coats r_coatsMoved) H := hP
                have hD : va_D A (w_X7 y a r_airs r_sitters r_stepMany r_today r_taken r_isStill (0 : Int32) r_letterMany r_at0 r_isBad r_statements r_stepsMany r_hasImage r_place0 r_isTaking r_keptIn x2 r_rowMany r_seed r_warms r_shutAt r_kinds0 r_figures r_airAt r_ways r_crowned r_sitsAt r_shawls r_isOn r_stepOf r_stepBy r_refusals r_letters r_placeIn r_letterOf r_numbers r_stepsRead r_stepsBy r_kept r_keptWarms r_i_imaged r_imagedWarms r_turns0 r_turnWarms0 r_turnOf_4 r_turnWarms_34 r_row0 r_gains r_pegSort r_pegMany r_pegHolds r_coats r_coatsMoved) := hD
                obtain ⟨x35, ex35⟩ : ∃ z : Int32, z = (x6 + (1 : Int32)) := ⟨_, rfl⟩
                have hf := dq_l hf x35 ex35
                refine lv_iinc (v := x35) (lv' := [(1, .int x35), (0, .ref (a 0))]) hx hb dX7_back_91 hl (k := 1) rfl (by rw [ex35]; rfl) (by decide) rfl (fun ls hl => ?_)
                clear ex35
                refine lv_goto (tgt := 65) hx hb dX7_back_94 (by decide) ?_
                exact I65 _ _ hf _ _ hP hD hS _ (lv_sub hl [1, 0] rfl)
          exact J65 4096 _ _ hf _ _ hP hD hS _ (lv_sub hl [1, 0] rfl)
        · have hf := dq_f hf c5
          clear c5
          refine lv_aload_n hx hb dX7_back_37 rfl (lv_at hl 0 rfl) ?_
          refine va_get (D := D) (ci := 6) (v := .ref (a 26)) (C := RX7) (T := TX7) (N := 53) hx hb hts iwX7 hown hK hP 0 rfl rfl 41 (by decide) (hts _ wl_106) (fun _ h9 => h9) rfl dX7_back_38 ?_
          refine lv_iload_n hx hb dX7_back_41 rfl (lv_at hl 1 rfl) ?_
          refine lv_aload_n hx hb dX7_back_42 rfl (lv_at hl 0 rfl) ?_
          refine va_get (D := D) (ci := 6) (v := .ref (a 24)) (C := RX7) (T := TX7) (N := 53) hx hb hts iwX7 hown hK hP 0 rfl rfl 39 (by decide) (hts _ wl_104) (fun _ h9 => h9) rfl dX7_back_43 ?_
          refine lv_bipush (v := 96) hx hb dX7_back_46 (by decide) ?_
          refine lv_aload_n hx hb dX7_back_48 rfl (lv_at hl 0 rfl) ?_
          refine va_get (D := D) (ci := 6) (v := .int x2) (C := RX7) (T := TX7) (N := 53) hx hb hts iwX7 hown hK hP 0 rfl rfl 43 (by decide) (hts _ wl_362) (fun _ h9 => h9) rfl dX7_back_49 ?_
          refine lv_imul hx hb dX7_back_52 ?_
          refine lv_iload_n hx hb dX7_back_53 rfl (lv_at hl 1 rfl) ?_
          refine lv_iadd hx hb dX7_back_54 ?_
          obtain ⟨h36, hf⟩ := dq_g hf
          refine va_iald (cA := y 1) (n := 768) (f := r_turns0) hx hb hK hP 24 1 rfl rfl h36 dX7_back_55 ?_
          obtain ⟨h37, hf⟩ := dq_g hf
          refine dq_iast (cA := y 1) (n := 96) (f := r_turnOf_4) hx hb hK hP hD hS 26 1 rfl rfl h37 dX7_back_56 (fun r_turnOf_38 er_turnOf_38 H locs hP hD hS => ?_)
          have hf := dq_l hf r_turnOf_38 er_turnOf_38
          clear er_turnOf_38
          have hP : va_P D vwCl (w_X7 y a r_airs r_sitters r_stepMany r_today r_taken r_isStill (0 : Int32) r_letterMany r_at0 r_isBad r_statements r_stepsMany r_hasImage r_place0 r_isTaking r_keptIn x2 r_rowMany r_seed r_warms r_shutAt r_kinds0 r_figures r_airAt r_ways r_crowned r_sitsAt r_shawls r_isOn r_stepOf r_stepBy r_refusals r_letters r_placeIn r_letterOf r_numbers r_stepsRead r_stepsBy r_kept r_keptWarms r_i_imaged r_imagedWarms r_turns0 r_turnWarms0 r_turnOf_38 r_turnWarms r_row0 r_gains r_pegSort r_pegMany r_pegHolds r_coats r_coatsMoved) H := hP
          have hD : va_D A (w_X7 y a r_airs r_sitters r_stepMany r_today r_taken r_isStill (0 : Int32) r_letterMany r_at0 r_isBad r_statements r_stepsMany r_hasImage r_place0 r_isTaking r_keptIn x2 r_rowMany r_seed r_warms r_shutAt r_kinds0 r_figures r_airAt r_ways r_crowned r_sitsAt r_shawls r_isOn r_stepOf r_stepBy r_refusals r_letters r_placeIn r_letterOf r_numbers r_stepsRead r_stepsBy r_kept r_keptWarms r_i_imaged r_imagedWarms r_turns0 r_turnWarms0 r_turnOf_38 r_turnWarms r_row0 r_gains r_pegSort r_pegMany r_pegHolds r_coats r_coatsMoved) := hD
          obtain ⟨x39, ex39⟩ : ∃ z : Int32, z = (x3 + (1 : Int32)) := ⟨_, rfl⟩
          have hf := dq_l hf x39 ex39
          refine lv_iinc (v := x39) (lv' := [(1, .int x39), (0, .ref (a 0))]) hx hb dX7_back_57 hl (k := 1) rfl (by rw [ex39]; rfl) (by decide) rfl (fun ls hl => ?_)
          clear ex39
          refine lv_goto (tgt := 31) hx hb dX7_back_60 (by decide) ?_
          exact I31 _ _ hf _ _ hP hD hS _ (lv_sub hl [1, 0] rfl)
    exact J31 4096 _ _ hf _ _ hP hD hS _ (lv_sub hl [1, 0] rfl)
  · have hf := dq_t hf c1
    clear c1
    refine lv_aload_n hx hb dX7_back_12 rfl (lv_at hl 0 rfl) ?_
    refine lv_bipush (v := -3) hx hb dX7_back_13 (by decide) ?_
    obtain ⟨x40, r_refusals_41, hy42, hf⟩ := dq_b2 hf
    refine ct_callV0 (ci := 6) (q0 := 0) (own := RX7) (As := [.int (-3 : Int32)]) (rest := []) (ws' := (w_X7 y a r_airs r_sitters r_stepMany r_today r_taken r_isStill (0 : Int32) r_letterMany r_at0 r_isBad r_statements r_stepsMany r_hasImage r_place0 r_isTaking r_keptIn r_turned r_rowMany r_seed r_warms r_shutAt r_kinds0 r_figures r_airAt r_ways r_crowned r_sitsAt r_shawls r_isOn r_stepOf r_stepBy r_refusals_41 r_letters r_placeIn r_letterOf r_numbers r_stepsRead r_stepsBy r_kept r_keptWarms r_i_imaged r_imagedWarms r_turns0 r_turnWarms0 r_turnOf r_turnWarms r_row0 r_gains r_pegSort r_pegMany r_pegHolds r_coats r_coatsMoved)) ⟨hx, hb, hml, hown, hts⟩ (m_X7_refuse l D y a r_airs r_sitters r_stepMany r_today r_taken r_isStill (0 : Int32) r_letterMany r_at0 r_isBad r_statements r_stepsMany r_hasImage r_place0 r_isTaking r_keptIn r_turned r_rowMany r_seed r_warms r_shutAt r_kinds0 r_figures r_airAt r_ways r_crowned r_sitsAt r_shawls r_isOn r_stepOf r_stepBy r_refusals r_letters r_placeIn r_letterOf r_numbers r_stepsRead r_stepsBy r_kept r_keptWarms r_i_imaged r_imagedWarms r_turns0 r_turnWarms0 r_turnOf r_turnWarms r_row0 r_gains r_pegSort r_pegMany r_pegHolds r_coats r_coatsMoved (-3 : Int32) x40 r_refusals_41 hy42) (cwV 1 hts (gA_V wl_133 wl_134 wl_135 wl_5 wl_136) rfl rfl rfl (by decide +kernel) ⟨Nat.le_of_ble_eq_true rfl, Nat.le_of_ble_eq_true rfl⟩) rfl rfl rfl hl.1 rfl (Nat.le_of_ble_eq_true rfl) dX7_back_15 ⟨Nat.zero_le _, Nat.zero_le _⟩ hK hP hD hS hA (fun H locs hP hD hS => ?_)
    obtain ⟨rfl, rfl, rfl, rfl, rfl, rfl, rfl, rfl, rfl, rfl, rfl, rfl, rfl, rfl, rfl, rfl, rfl, rfl, rfl, rfl, rfl, rfl, rfl, rfl, rfl, rfl⟩ := dq_r26 hf
    exact ct_iret hx hb hr hlocks hAe hP hK hD hS dX7_back_18
noncomputable def f_X7_air_b25 (n0 : Int32) (r_airs : Int32) (r_refusals : (Nat → Int32))   : Option (Int32 × Int32 × (Nat → Int32)) := dq_bd (f_X7_isAir r_airs n0) (fun (x3 : Int32) => dq_if (x3 = 0) (dq_bd2 (f_X7_refuse r_refusals (-1 : Int32)) (fun (x6 : Int32) (r_refusals_7 : (Nat → Int32)) => some (x6, (0 : Int32), r_refusals_7))) (dq_bd2 (f_X7_refuse r_refusals (-2 : Int32)) (fun (x9 : Int32) (r_refusals_10 : (Nat → Int32)) => some (x9, (0 : Int32), r_refusals_10))))
noncomputable def f_X7_air (r_airs : Int32) (r_kinds0 : (Nat → Int32)) (r_figures : (Nat → Int32)) (r_airAt : (Nat → Int32)) (r_ways : (Nat → Int32)) (r_crowned : (Nat → Int32)) (r_refusals : (Nat → Int32)) (n0 : Int32) (n1 : Int32) : Option (Int32 × Int32 × (Nat → Int32)) := dq_bd (f_X7_isAir r_airs n0) (fun (x1 : Int32) => dq_if (x1 = 0) (f_X7_air_b25 n0 r_airs r_refusals) (dq_bd (f_X7_in n1.toInt64 (0 : Int64) (5 : Int64)) (fun (x13 : Int32) => dq_if (x13 = 0) (f_X7_air_b25 n0 r_airs r_refusals) (dq_if (n1 = 0) (dq_gd (vp_in n0 5) (some ((r_kinds0 n0.toNatClampNeg), (0 : Int32), r_refusals))) (dq_if (n1 = 1) (dq_gd (vp_in n0 5) (some ((r_figures n0.toNatClampNeg), (0 : Int32), r_refusals))) (dq_if (n1 = 2) (dq_gd (vp_in n0 5) (some ((r_airAt n0.toNatClampNeg), (0 : Int32), r_refusals))) (dq_if (n1 = 3) (dq_gd (vp_in n0 5) (some ((r_ways n0.toNatClampNeg), (0 : Int32), r_refusals))) (dq_if (n1 = 4) (dq_gd (vp_in n0 5) (some ((r_crowned n0.toNatClampNeg), (0 : Int32), r_refusals))) (dq_bd (f_X7_leapsOf r_kinds0 r_figures n0) (fun (x26 : Int32) => some (x26, (0 : Int32), r_refusals)))))))))))
def wA_X7_air : List Cond := .code yX7_air cX7_air 3 (some .int) :: wsL_law
-- DraughtsTakeModel.air(II)I
set_option maxHeartbeats 4000000 in
set_option maxRecDepth 100000 in
theorem m_X7_air (l : Launch) (D : va_G) (y : Nat → ClassId) (a : (Nat → Nat)) (r_airs : Int32) (r_sitters : Int32) (r_stepMany : Int32) (r_today : Int32) (r_taken : Int32) (r_isStill : Int32) (r_thrown : Int32) (r_letterMany : Int32) (r_at0 : Int32) (r_isBad : Int32) (r_statements : Int32) (r_stepsMany : Int32) (r_hasImage : Int32) (r_place0 : Int32) (r_isTaking : Int32) (r_keptIn : Value) (r_turned : Int32) (r_rowMany : Int32) (r_seed : Int32) (r_warms : (Nat → UInt32)) (r_shutAt : (Nat → Int32)) (r_kinds0 : (Nat → Int32)) (r_figures : (Nat → Int32)) (r_airAt : (Nat → Int32)) (r_ways : (Nat → Int32)) (r_crowned : (Nat → Int32)) (r_sitsAt : (Nat → Int32)) (r_shawls : (Nat → Int32)) (r_isOn : (Nat → Int32)) (r_stepOf : (Nat → Int32)) (r_stepBy : (Nat → Int32)) (r_refusals : (Nat → Int32)) (r_letters : (Nat → Int32)) (r_placeIn : (Nat → Int32)) (r_letterOf : (Nat → Int32)) (r_numbers : (Nat → Int32)) (r_stepsRead : (Nat → Int32)) (r_stepsBy : (Nat → Int32)) (r_kept : (Nat → Int32)) (r_keptWarms : (Nat → UInt32)) (r_i_imaged : (Nat → Int32)) (r_imagedWarms : (Nat → UInt32)) (r_turns0 : (Nat → Int32)) (r_turnWarms0 : (Nat → UInt32)) (r_turnOf : (Nat → Int32)) (r_turnWarms : (Nat → UInt32)) (r_row0 : (Nat → Int32)) (r_gains : (Nat → Int32)) (r_pegSort : (Nat → Int32)) (r_pegMany : (Nat → Int32)) (r_pegHolds : (Nat → Int32)) (r_coats : (Nat → Int32)) (r_coatsMoved : (Nat → Int32)) (n0 : Int32) (n1 : Int32) (z0 : Int32) (z1 : Int32) (z2 : (Nat → Int32)) (hf : f_X7_air r_airs r_kinds0 r_figures r_airAt r_ways r_crowned r_refusals n0 n1 = some (z0, z1, z2)) : Ct l D y yX7_air wA_X7_air 2 46 [.ref (a 0), .int n0, .int n1] (w_X7 y a r_airs r_sitters r_stepMany r_today r_taken r_isStill r_thrown r_letterMany r_at0 r_isBad r_statements r_stepsMany r_hasImage r_place0 r_isTaking r_keptIn r_turned r_rowMany r_seed r_warms r_shutAt r_kinds0 r_figures r_airAt r_ways r_crowned r_sitsAt r_shawls r_isOn r_stepOf r_stepBy r_refusals r_letters r_placeIn r_letterOf r_numbers r_stepsRead r_stepsBy r_kept r_keptWarms r_i_imaged r_imagedWarms r_turns0 r_turnWarms0 r_turnOf r_turnWarms r_row0 r_gains r_pegSort r_pegMany r_pegHolds r_coats r_coatsMoved) (w_X7 y a r_airs r_sitters r_stepMany r_today r_taken r_isStill z1 r_letterMany r_at0 r_isBad r_statements r_stepsMany r_hasImage r_place0 r_isTaking r_keptIn r_turned r_rowMany r_seed r_warms r_shutAt r_kinds0 r_figures r_airAt r_ways r_crowned r_sitsAt r_shawls r_isOn r_stepOf r_stepBy z2 r_letters r_placeIn r_letterOf r_numbers r_stepsRead r_stepsBy r_kept r_keptWarms r_i_imaged r_imagedWarms r_turns0 r_turnWarms0 r_turnOf r_turnWarms r_row0 r_gains r_pegSort r_pegMany r_pegHolds r_coats r_coatsMoved) (some (.int z0)) := by
  refine ct_head (cc := cX7_air) (n := 3) (ret := (some .int)) (by decide) rfl (Nat.le_of_ble_eq_true rfl) ?_
  intro p e s m below meth c A ls hx hb hr hml hown hlocks hts hA hAe hP hK hD hl
  have hS : va_S A s.heap s.heap [] := va_S.rf
  have hl : lv_has ls 3 [(0, .ref (a 0)), (1, .int n0), (2, .int n1)] := hl
  have hown : s.vm.findClass RX7 = some m.cls := hown
  have hts : ∀ w ∈ wsL_law, w.before [.ref (a 0), .int n0, .int n1].toArray s = true := fun w h => hts w (List.mem_cons_of_mem _ h)
  unfold f_X7_air at hf
  refine lv_aload_n hx hb dX7_air_0 rfl (lv_at hl 0 rfl) ?_
  refine lv_iconst (v := 0) hx hb dX7_air_1 (by decide) ?_
  refine va_put (D := D) (ci := 6) (v := .int (0 : Int32)) (ty := .int) (C := RX7) (T := TX7) (N := 53) hx hb hts iwX7 tyX7 tyX7_ok nmX7 hown hK hP hD hS 0 rfl rfl 18 (by decide) (hts _ wl_116) (fun _ h9 => h9) rfl (tyX7_ok 18 (by decide)) rfl rfl (Nat.le_of_ble_eq_true rfl) dX7_air_2 (fun H locs hP hD hS => ?_)
  have hP : va_P D vwCl (w_X7 y a r_airs r_sitters r_stepMany r_today r_taken r_isStill (0 : Int32) r_letterMany r_at0 r_isBad r_statements r_stepsMany r_hasImage r_place0 r_isTaking r_keptIn r_turned r_rowMany r_seed r_warms r_shutAt r_kinds0 r_figures r_airAt r_ways r_crowned r_sitsAt r_shawls r_isOn r_stepOf r_stepBy r_refusals r_letters r_placeIn r_letterOf r_numbers r_stepsRead r_stepsBy r_kept r_keptWarms r_i_imaged r_imagedWarms r_turns0 r_turnWarms0 r_turnOf r_turnWarms r_row0 r_gains r_pegSort r_pegMany r_pegHolds r_coats r_coatsMoved) H := hP
  have hD : va_D A (w_X7 y a r_airs r_sitters r_stepMany r_today r_taken r_isStill (0 : Int32) r_letterMany r_at0 r_isBad r_statements r_stepsMany r_hasImage r_place0 r_isTaking r_keptIn r_turned r_rowMany r_seed r_warms r_shutAt r_kinds0 r_figures r_airAt r_ways r_crowned r_sitsAt r_shawls r_isOn r_stepOf r_stepBy r_refusals r_letters r_placeIn r_letterOf r_numbers r_stepsRead r_stepsBy r_kept r_keptWarms r_i_imaged r_imagedWarms r_turns0 r_turnWarms0 r_turnOf r_turnWarms r_row0 r_gains r_pegSort r_pegMany r_pegHolds r_coats r_coatsMoved) := hD
  refine lv_aload_n hx hb dX7_air_5 rfl (lv_at hl 0 rfl) ?_
  refine lv_iload_n hx hb dX7_air_6 rfl (lv_at hl 1 rfl) ?_
  obtain ⟨x1, hy2, hf⟩ := dq_b hf
  refine ct_callV0 (ci := 6) (q0 := 0) (own := RX7) (As := [.int n0]) (rest := []) (ws' := (w_X7 y a r_airs r_sitters r_stepMany r_today r_taken r_isStill (0 : Int32) r_letterMany r_at0 r_isBad r_statements r_stepsMany r_hasImage r_place0 r_isTaking r_keptIn r_turned r_rowMany r_seed r_warms r_shutAt r_kinds0 r_figures r_airAt r_ways r_crowned r_sitsAt r_shawls r_isOn r_stepOf r_stepBy r_refusals r_letters r_placeIn r_letterOf r_numbers r_stepsRead r_stepsBy r_kept r_keptWarms r_i_imaged r_imagedWarms r_turns0 r_turnWarms0 r_turnOf r_turnWarms r_row0 r_gains r_pegSort r_pegMany r_pegHolds r_coats r_coatsMoved)) ⟨hx, hb, hml, hown, hts⟩ (m_X7_isAir l D y a r_airs r_sitters r_stepMany r_today r_taken r_isStill (0 : Int32) r_letterMany r_at0 r_isBad r_statements r_stepsMany r_hasImage r_place0 r_isTaking r_keptIn r_turned r_rowMany r_seed r_warms r_shutAt r_kinds0 r_figures r_airAt r_ways r_crowned r_sitsAt r_shawls r_isOn r_stepOf r_stepBy r_refusals r_letters r_placeIn r_letterOf r_numbers r_stepsRead r_stepsBy r_kept r_keptWarms r_i_imaged r_imagedWarms r_turns0 r_turnWarms0 r_turnOf r_turnWarms r_row0 r_gains r_pegSort r_pegMany r_pegHolds r_coats r_coatsMoved n0 x1 hy2) (cwV 1 hts (gA_V wl_548 wl_549 wl_550 wl_5 wl_551) rfl rfl rfl (by decide +kernel) ⟨Nat.le_of_ble_eq_true rfl, Nat.le_of_ble_eq_true rfl⟩) rfl rfl rfl hl.1 rfl (Nat.le_of_ble_eq_true rfl) dX7_air_7 ⟨Nat.zero_le _, Nat.zero_le _⟩ hK hP hD hS hA (fun H locs hP hD hS => ?_)
  have J25 : f_X7_air_b25 n0 r_airs r_refusals = some (z0, z1, z2) → ∀ (H : Heap) (locs : List Loc), va_P D vwCl (w_X7 y a r_airs r_sitters r_stepMany r_today r_taken r_isStill (0 : Int32) r_letterMany r_at0 r_isBad r_statements r_stepsMany r_hasImage r_place0 r_isTaking r_keptIn r_turned r_rowMany r_seed r_warms r_shutAt r_kinds0 r_figures r_airAt r_ways r_crowned r_sitsAt r_shawls r_isOn r_stepOf r_stepBy r_refusals r_letters r_placeIn r_letterOf r_numbers r_stepsRead r_stepsBy r_kept r_keptWarms r_i_imaged r_imagedWarms r_turns0 r_turnWarms0 r_turnOf r_turnWarms r_row0 r_gains r_pegSort r_pegMany r_pegHolds r_coats r_coatsMoved) H → va_D A (w_X7 y a r_airs r_sitters r_stepMany r_today r_taken r_isStill (0 : Int32) r_letterMany r_at0 r_isBad r_statements r_stepsMany r_hasImage r_place0 r_isTaking r_keptIn r_turned r_rowMany r_seed r_warms r_shutAt r_kinds0 r_figures r_airAt r_ways r_crowned r_sitsAt r_shawls r_isOn r_stepOf r_stepBy r_refusals r_letters r_placeIn r_letterOf r_numbers r_stepsRead r_stepsBy r_kept r_keptWarms r_i_imaged r_imagedWarms r_turns0 r_turnWarms0 r_turnOf r_turnWarms r_row0 r_gains r_pegSort r_pegMany r_pegHolds r_coats r_coatsMoved) → va_S A s.heap H locs → ∀ ls : Array Slot, lv_has ls 3 [(0, .ref (a 0)), (1, .int n0)] → W p l e ({ frames := 2, cells := 0, slots := 0, locals := 46 } : Room) s m [.ref (a 0), .int n0, .int n1].toArray below meth c H locs 0 0 (MQ below (dQ D y (some (.int z0)) s.heap.size (w_X7 y a r_airs r_sitters r_stepMany r_today r_taken r_isStill r_thrown r_letterMany r_at0 r_isBad r_statements r_stepsMany r_hasImage r_place0 r_isTaking r_keptIn r_turned r_rowMany r_seed r_warms r_shutAt r_kinds0 r_figures r_airAt r_ways r_crowned r_sitsAt r_shawls r_isOn r_stepOf r_stepBy r_refusals r_letters r_placeIn r_letterOf r_numbers r_stepsRead r_stepsBy r_kept r_keptWarms r_i_imaged r_imagedWarms r_turns0 r_turnWarms0 r_turnOf r_turnWarms r_row0 r_gains r_pegSort r_pegMany r_pegHolds r_coats r_coatsMoved) (w_X7 y a r_airs r_sitters r_stepMany r_today r_taken r_isStill z1 r_letterMany r_at0 r_isBad r_statements r_stepsMany r_hasImage r_place0 r_isTaking r_keptIn r_turned r_rowMany r_seed r_warms r_shutAt r_kinds0 r_figures r_airAt r_ways r_crowned r_sitsAt r_shawls r_isOn r_stepOf r_stepBy z2 r_letters r_placeIn r_letterOf r_numbers r_stepsRead r_stepsBy r_kept r_keptWarms r_i_imaged r_imagedWarms r_turns0 r_turnWarms0 r_turnOf r_turnWarms r_row0 r_gains r_pegSort r_pegMany r_pegHolds r_coats r_coatsMoved)) [.ref (a 0), .int n0, .int n1].toArray s 0 0 A) (F0 m 25 ls []) := by
    intro  hf H locs hP hD hS ls hl
    unfold f_X7_air_b25 at hf
    refine lv_aload_n hx hb dX7_air_25 rfl (lv_at hl 0 rfl) ?_
    refine lv_aload_n hx hb dX7_air_26 rfl (lv_at hl 0 rfl) ?_
    refine lv_iload_n hx hb dX7_air_27 rfl (lv_at hl 1 rfl) ?_
    obtain ⟨x3, hy4, hf⟩ := dq_b hf
    refine ct_callV0 (ci := 6) (q0 := 0) (own := RX7) (As := [.int n0]) (rest := [.ref (a 0)]) (ws' := (w_X7 y a r_airs r_sitters r_stepMany r_today r_taken r_isStill (0 : Int32) r_letterMany r_at0 r_isBad r_statements r_stepsMany r_hasImage r_place0 r_isTaking r_keptIn r_turned r_rowMany r_seed r_warms r_shutAt r_kinds0 r_figures r_airAt r_ways r_crowned r_sitsAt r_shawls r_isOn r_stepOf r_stepBy r_refusals r_letters r_placeIn r_letterOf r_numbers r_stepsRead r_stepsBy r_kept r_keptWarms r_i_imaged r_imagedWarms r_turns0 r_turnWarms0 r_turnOf r_turnWarms r_row0 r_gains r_pegSort r_pegMany r_pegHolds r_coats r_coatsMoved)) ⟨hx, hb, hml, hown, hts⟩ (m_X7_isAir l D y a r_airs r_sitters r_stepMany r_today r_taken r_isStill (0 : Int32) r_letterMany r_at0 r_isBad r_statements r_stepsMany r_hasImage r_place0 r_isTaking r_keptIn r_turned r_rowMany r_seed r_warms r_shutAt r_kinds0 r_figures r_airAt r_ways r_crowned r_sitsAt r_shawls r_isOn r_stepOf r_stepBy r_refusals r_letters r_placeIn r_letterOf r_numbers r_stepsRead r_stepsBy r_kept r_keptWarms r_i_imaged r_imagedWarms r_turns0 r_turnWarms0 r_turnOf r_turnWarms r_row0 r_gains r_pegSort r_pegMany r_pegHolds r_coats r_coatsMoved n0 x3 hy4) (cwV 1 hts (gA_V wl_548 wl_549 wl_550 wl_5 wl_551) rfl rfl rfl (by decide +kernel) ⟨Nat.le_of_ble_eq_true rfl, Nat.le_of_ble_eq_true rfl⟩) rfl rfl rfl hl.1 rfl (Nat.le_of_ble_eq_true rfl) dX7_air_28 ⟨Nat.zero_le _, Nat.zero_le _⟩ hK hP hD hS hA (fun H locs hP hD hS => ?_)
    refine lv_if_eq (tgt := 39) hx hb dX7_air_31 (by decide) (fun c5 => ?_) (fun c5 => ?_)
    · have hf := dq_t hf c5
      clear c5
      refine lv_iconst (v := -1) hx hb dX7_air_39 (by decide) ?_
      obtain ⟨x6, r_refusals_7, hy8, hf⟩ := dq_b2 hf
      refine ct_callV0 (ci := 6) (q0 := 0) (own := RX7) (As := [.int (-1 : Int32)]) (rest := []) (ws' := (w_X7 y a r_airs r_sitters r_stepMany r_today r_taken r_isStill (0 : Int32) r_letterMany r_at0 r_isBad r_statements r_stepsMany r_hasImage r_place0 r_isTaking r_keptIn r_turned r_rowMany r_seed r_warms r_shutAt r_kinds0 r_figures r_airAt r_ways r_crowned r_sitsAt r_shawls r_isOn r_stepOf r_stepBy r_refusals_7 r_letters r_placeIn r_letterOf r_numbers r_stepsRead r_stepsBy r_kept r_keptWarms r_i_imaged r_imagedWarms r_turns0 r_turnWarms0 r_turnOf r_turnWarms r_row0 r_gains r_pegSort r_pegMany r_pegHolds r_coats r_coatsMoved)) ⟨hx, hb, hml, hown, hts⟩ (m_X7_refuse l D y a r_airs r_sitters r_stepMany r_today r_taken r_isStill (0 : Int32) r_letterMany r_at0 r_isBad r_statements r_stepsMany r_hasImage r_place0 r_isTaking r_keptIn r_turned r_rowMany r_seed r_warms r_shutAt r_kinds0 r_figures r_airAt r_ways r_crowned r_sitsAt r_shawls r_isOn r_stepOf r_stepBy r_refusals r_letters r_placeIn r_letterOf r_numbers r_stepsRead r_stepsBy r_kept r_keptWarms r_i_imaged r_imagedWarms r_turns0 r_turnWarms0 r_turnOf r_turnWarms r_row0 r_gains r_pegSort r_pegMany r_pegHolds r_coats r_coatsMoved (-1 : Int32) x6 r_refusals_7 hy8) (cwV 1 hts (gA_V wl_133 wl_134 wl_135 wl_5 wl_136) rfl rfl rfl (by decide +kernel) ⟨Nat.le_of_ble_eq_true rfl, Nat.le_of_ble_eq_true rfl⟩) rfl rfl rfl hl.1 rfl (Nat.le_of_ble_eq_true rfl) dX7_air_40 ⟨Nat.zero_le _, Nat.zero_le _⟩ hK hP hD hS hA (fun H locs hP hD hS => ?_)
      obtain ⟨rfl, rfl, rfl⟩ := dq_r3 hf
      exact ct_iret hx hb hr hlocks hAe hP hK hD hS dX7_air_43
    · have hf := dq_f hf c5
      clear c5
      refine lv_bipush (v := -2) hx hb dX7_air_34 (by decide) ?_
      refine lv_goto (tgt := 40) hx hb dX7_air_36 (by decide) ?_
      obtain ⟨x9, r_refusals_10, hy11, hf⟩ := dq_b2 hf
      refine ct_callV0 (ci := 6) (q0 := 0) (own := RX7) (As := [.int (-2 : Int32)]) (rest := []) (ws' := (w_X7 y a r_airs r_sitters r_stepMany r_today r_taken r_isStill (0 : Int32) r_letterMany r_at0 r_isBad r_statements r_stepsMany r_hasImage r_place0 r_isTaking r_keptIn r_turned r_rowMany r_seed r_warms r_shutAt r_kinds0 r_figures r_airAt r_ways r_crowned r_sitsAt r_shawls r_isOn r_stepOf r_stepBy r_refusals_10 r_letters r_placeIn r_letterOf r_numbers r_stepsRead r_stepsBy r_kept r_keptWarms r_i_imaged r_imagedWarms r_turns0 r_turnWarms0 r_turnOf r_turnWarms r_row0 r_gains r_pegSort r_pegMany r_pegHolds r_coats r_coatsMoved)) ⟨hx, hb, hml, hown, hts⟩ (m_X7_refuse l D y a r_airs r_sitters r_stepMany r_today r_taken r_isStill (0 : Int32) r_letterMany r_at0 r_isBad r_statements r_stepsMany r_hasImage r_place0 r_isTaking r_keptIn r_turned r_rowMany r_seed r_warms r_shutAt r_kinds0 r_figures r_airAt r_ways r_crowned r_sitsAt r_shawls r_isOn r_stepOf r_stepBy r_refusals r_letters r_placeIn r_letterOf r_numbers r_stepsRead r_stepsBy r_kept r_keptWarms r_i_imaged r_imagedWarms r_turns0 r_turnWarms0 r_turnOf r_turnWarms r_row0 r_gains r_pegSort r_pegMany r_pegHolds r_coats r_coatsMoved (-2 : Int32) x9 r_refusals_10 hy11) (cwV 1 hts (gA_V wl_133 wl_134 wl_135 wl_5 wl_136) rfl rfl rfl (by decide +kernel) ⟨Nat.le_of_ble_eq_true rfl, Nat.le_of_ble_eq_true rfl⟩) rfl rfl rfl hl.1 rfl (Nat.le_of_ble_eq_true rfl) dX7_air_40 ⟨Nat.zero_le _, Nat.zero_le _⟩ hK hP hD hS hA (fun H locs hP hD hS => ?_)
      obtain ⟨rfl, rfl, rfl⟩ := dq_r3 hf
      exact ct_iret hx hb hr hlocks hAe hP hK hD hS dX7_air_43
  refine lv_if_eq (tgt := 25) hx hb dX7_air_10 (by decide) (fun c12 => ?_) (fun c12 => ?_)
  · have hf := dq_t hf c12
    clear c12
    exact J25  hf _ _ hP hD hS _ (lv_sub hl [0, 1] rfl)
  · have hf := dq_f hf c12
    clear c12
    refine lv_iload_n hx hb dX7_air_13 rfl (lv_at hl 2 rfl) ?_
    refine lv_i2l hx hb dX7_air_14 rfl ?_
    refine lv_lconst (v := 0) hx hb dX7_air_15 (by decide) ?_
    refine lv_ldc2 hx hb hown (hts _ wl_503) dX7_air_16 ?_
    obtain ⟨x13, hy14, hf⟩ := dq_b hf
    refine ct_callS0 (own := RX7) (As := [.long n1.toInt64, .long (0 : Int64), .long (5 : Int64)]) (rest := []) ⟨hx, hb, hml, hown, hts⟩ (m_X7_in l D y n1.toInt64 (0 : Int64) (5 : Int64) x13 hy14) (va_cwS 3 hts (gA_S wl_391 wl_392 wl_5 wl_393) rfl rfl rfl (by decide +kernel) ⟨Nat.le_of_ble_eq_true rfl, Nat.le_of_ble_eq_true rfl⟩) rfl hl.1 rfl (Nat.le_of_ble_eq_true rfl) dX7_air_19 ⟨Nat.zero_le _, Nat.zero_le _⟩ hK hP hD hS hA (fun H locs hP hD hS => ?_)
    refine lv_if_ne (tgt := 44) hx hb dX7_air_22 (by decide) (fun c15 => ?_) (fun c15 => ?_)
    · have hf := dq_f hf c15
      clear c15
      refine lv_iload_n hx hb dX7_air_44 rfl (lv_at hl 2 rfl) ?_
      by_cases c16 : n1 = (0 : Int32)
      · have hf := dq_t hf c16
        refine lv_tableIn (tgt := 80) (off := 35) hx hb dX7_air_45 (by rw [c16]; decide) (by rw [c16]; decide) (by rw [c16]; decide) (by decide) ?_
        clear c16
        refine lv_aload_n hx hb dX7_air_80 rfl (lv_at hl 0 rfl) ?_
        refine va_get (D := D) (ci := 6) (v := .ref (a 3)) (C := RX7) (T := TX7) (N := 53) hx hb hts iwX7 hown hK hP 0 rfl rfl 3 (by decide) (hts _ wl_83) (fun _ h9 => h9) rfl dX7_air_81 ?_
        refine lv_iload_n hx hb dX7_air_84 rfl (lv_at hl 1 rfl) ?_
        obtain ⟨h17, hf⟩ := dq_g hf
        refine va_iald (cA := y 1) (n := 5) (f := r_kinds0) hx hb hK hP 3 1 rfl rfl h17 dX7_air_85 ?_
        obtain ⟨rfl, rfl, rfl⟩ := dq_r3 hf
        exact ct_iret hx hb hr hlocks hAe hP hK hD hS dX7_air_86
      have hf := dq_f hf c16
      by_cases c18 : n1 = (1 : Int32)
      · have hf := dq_t hf c18
        refine lv_tableIn (tgt := 87) (off := 42) hx hb dX7_air_45 (by rw [c18]; decide) (by rw [c18]; decide) (by rw [c18]; decide) (by decide) ?_
        clear c16 c18
        refine lv_aload_n hx hb dX7_air_87 rfl (lv_at hl 0 rfl) ?_
        refine va_get (D := D) (ci := 6) (v := .ref (a 4)) (C := RX7) (T := TX7) (N := 53) hx hb hts iwX7 hown hK hP 0 rfl rfl 4 (by decide) (hts _ wl_84) (fun _ h9 => h9) rfl dX7_air_88 ?_
        refine lv_iload_n hx hb dX7_air_91 rfl (lv_at hl 1 rfl) ?_
        obtain ⟨h19, hf⟩ := dq_g hf
        refine va_iald (cA := y 1) (n := 5) (f := r_figures) hx hb hK hP 4 1 rfl rfl h19 dX7_air_92 ?_
        obtain ⟨rfl, rfl, rfl⟩ := dq_r3 hf
        exact ct_iret hx hb hr hlocks hAe hP hK hD hS dX7_air_93
      have hf := dq_f hf c18
      by_cases c20 : n1 = (2 : Int32)
      · have hf := dq_t hf c20
        refine lv_tableIn (tgt := 94) (off := 49) hx hb dX7_air_45 (by rw [c20]; decide) (by rw [c20]; decide) (by rw [c20]; decide) (by decide) ?_
        clear c16 c18 c20
        refine lv_aload_n hx hb dX7_air_94 rfl (lv_at hl 0 rfl) ?_
        refine va_get (D := D) (ci := 6) (v := .ref (a 5)) (C := RX7) (T := TX7) (N := 53) hx hb hts iwX7 hown hK hP 0 rfl rfl 5 (by decide) (hts _ wl_85) (fun _ h9 => h9) rfl dX7_air_95 ?_
        refine lv_iload_n hx hb dX7_air_98 rfl (lv_at hl 1 rfl) ?_
        obtain ⟨h21, hf⟩ := dq_g hf
        refine va_iald (cA := y 1) (n := 5) (f := r_airAt) hx hb hK hP 5 1 rfl rfl h21 dX7_air_99 ?_
        obtain ⟨rfl, rfl, rfl⟩ := dq_r3 hf
        exact ct_iret hx hb hr hlocks hAe hP hK hD hS dX7_air_100
      have hf := dq_f hf c20
      by_cases c22 : n1 = (3 : Int32)
      · have hf := dq_t hf c22
        refine lv_tableIn (tgt := 101) (off := 56) hx hb dX7_air_45 (by rw [c22]; decide) (by rw [c22]; decide) (by rw [c22]; decide) (by decide) ?_
        clear c16 c18 c20 c22
        refine lv_aload_n hx hb dX7_air_101 rfl (lv_at hl 0 rfl) ?_
        refine va_get (D := D) (ci := 6) (v := .ref (a 6)) (C := RX7) (T := TX7) (N := 53) hx hb hts iwX7 hown hK hP 0 rfl rfl 6 (by decide) (hts _ wl_86) (fun _ h9 => h9) rfl dX7_air_102 ?_
        refine lv_iload_n hx hb dX7_air_105 rfl (lv_at hl 1 rfl) ?_
        obtain ⟨h23, hf⟩ := dq_g hf
        refine va_iald (cA := y 1) (n := 5) (f := r_ways) hx hb hK hP 6 1 rfl rfl h23 dX7_air_106 ?_
        obtain ⟨rfl, rfl, rfl⟩ := dq_r3 hf
        exact ct_iret hx hb hr hlocks hAe hP hK hD hS dX7_air_107
      have hf := dq_f hf c22
      by_cases c24 : n1 = (4 : Int32)
      · have hf := dq_t hf c24
        refine lv_tableIn (tgt := 108) (off := 63) hx hb dX7_air_45 (by rw [c24]; decide) (by rw [c24]; decide) (by rw [c24]; decide) (by decide) ?_
        clear c16 c18 c20 c22 c24
        refine lv_aload_n hx hb dX7_air_108 rfl (lv_at hl 0 rfl) ?_
        refine va_get (D := D) (ci := 6) (v := .ref (a 7)) (C := RX7) (T := TX7) (N := 53) hx hb hts iwX7 hown hK hP 0 rfl rfl 7 (by decide) (hts _ wl_87) (fun _ h9 => h9) rfl dX7_air_109 ?_
        refine lv_iload_n hx hb dX7_air_112 rfl (lv_at hl 1 rfl) ?_
        obtain ⟨h25, hf⟩ := dq_g hf
        refine va_iald (cA := y 1) (n := 5) (f := r_crowned) hx hb hK hP 7 1 rfl rfl h25 dX7_air_113 ?_
        obtain ⟨rfl, rfl, rfl⟩ := dq_r3 hf
        exact ct_iret hx hb hr hlocks hAe hP hK hD hS dX7_air_114
      have hf := dq_f hf c24
      have c16 : n1.toInt ≠ 0 := fun q => c16 (Int32.toInt_inj.mp q)
      have c18 : n1.toInt ≠ 1 := fun q => c18 (Int32.toInt_inj.mp q)
      have c20 : n1.toInt ≠ 2 := fun q => c20 (Int32.toInt_inj.mp q)
      have c22 : n1.toInt ≠ 3 := fun q => c22 (Int32.toInt_inj.mp q)
      have c24 : n1.toInt ≠ 4 := fun q => c24 (Int32.toInt_inj.mp q)
      refine lv_tableOut (tgt := 115) hx hb dX7_air_45 (by omega) (by decide) ?_
      clear c16 c18 c20 c22 c24
      refine lv_aload_n hx hb dX7_air_115 rfl (lv_at hl 0 rfl) ?_
      refine lv_iload_n hx hb dX7_air_116 rfl (lv_at hl 1 rfl) ?_
      obtain ⟨x26, hy27, hf⟩ := dq_b hf
      refine ct_callV0 (ci := 6) (q0 := 0) (own := RX7) (As := [.int n0]) (rest := []) (ws' := (w_X7 y a r_airs r_sitters r_stepMany r_today r_taken r_isStill (0 : Int32) r_letterMany r_at0 r_isBad r_statements r_stepsMany r_hasImage r_place0 r_isTaking r_keptIn r_turned r_rowMany r_seed r_warms r_shutAt r_kinds0 r_figures r_airAt r_ways r_crowned r_sitsAt r_shawls r_isOn r_stepOf r_stepBy r_refusals r_letters r_placeIn r_letterOf r_numbers r_stepsRead r_stepsBy r_kept r_keptWarms r_i_imaged r_imagedWarms r_turns0 r_turnWarms0 r_turnOf r_turnWarms r_row0 r_gains r_pegSort r_pegMany r_pegHolds r_coats r_coatsMoved)) ⟨hx, hb, hml, hown, hts⟩ (m_X7_leapsOf l D y a r_airs r_sitters r_stepMany r_today r_taken r_isStill (0 : Int32) r_letterMany r_at0 r_isBad r_statements r_stepsMany r_hasImage r_place0 r_isTaking r_keptIn r_turned r_rowMany r_seed r_warms r_shutAt r_kinds0 r_figures r_airAt r_ways r_crowned r_sitsAt r_shawls r_isOn r_stepOf r_stepBy r_refusals r_letters r_placeIn r_letterOf r_numbers r_stepsRead r_stepsBy r_kept r_keptWarms r_i_imaged r_imagedWarms r_turns0 r_turnWarms0 r_turnOf r_turnWarms r_row0 r_gains r_pegSort r_pegMany r_pegHolds r_coats r_coatsMoved n0 x26 hy27) (cwV 1 hts (gA_V wl_486 wl_487 wl_488 wl_5 wl_489) rfl rfl rfl (by decide +kernel) ⟨Nat.le_of_ble_eq_true rfl, Nat.le_of_ble_eq_true rfl⟩) rfl rfl rfl hl.1 rfl (Nat.le_of_ble_eq_true rfl) dX7_air_117 ⟨Nat.zero_le _, Nat.zero_le _⟩ hK hP hD hS hA (fun H locs hP hD hS => ?_)
      obtain ⟨rfl, rfl, rfl⟩ := dq_r3 hf
      exact ct_iret hx hb hr hlocks hAe hP hK hD hS dX7_air_120
    · have hf := dq_t hf c15
      clear c15
      exact J25  hf _ _ hP hD hS _ (lv_sub hl [0, 1] rfl)
noncomputable def f_X7_sitter_b25 (n0 : Int32) (r_sitters : Int32) (r_refusals : (Nat → Int32))   : Option (Int32 × Int32 × (Nat → Int32)) := dq_bd (f_X7_isSitter r_sitters n0) (fun (x3 : Int32) => dq_if (x3 = 0) (dq_bd2 (f_X7_refuse r_refusals (-1 : Int32)) (fun (x6 : Int32) (r_refusals_7 : (Nat → Int32)) => some (x6, (0 : Int32), r_refusals_7))) (dq_bd2 (f_X7_refuse r_refusals (-2 : Int32)) (fun (x9 : Int32) (r_refusals_10 : (Nat → Int32)) => some (x9, (0 : Int32), r_refusals_10))))
noncomputable def f_X7_sitter (r_sitters : Int32) (r_sitsAt : (Nat → Int32)) (r_shawls : (Nat → Int32)) (r_isOn : (Nat → Int32)) (r_refusals : (Nat → Int32)) (n0 : Int32) (n1 : Int32) : Option (Int32 × Int32 × (Nat → Int32)) := dq_bd (f_X7_isSitter r_sitters n0) (fun (x1 : Int32) => dq_if (x1 = 0) (f_X7_sitter_b25 n0 r_sitters r_refusals) (dq_bd (f_X7_in n1.toInt64 (0 : Int64) (2 : Int64)) (fun (x13 : Int32) => dq_if (x13 = 0) (f_X7_sitter_b25 n0 r_sitters r_refusals) (dq_if (n1 = 0) (dq_gd (vp_in n0 6) (some ((r_sitsAt n0.toNatClampNeg), (0 : Int32), r_refusals))) (dq_if (n1 = (1 : Int32)) (dq_gd (vp_in n0 6) (some ((r_shawls n0.toNatClampNeg), (0 : Int32), r_refusals))) (dq_gd (vp_in n0 6) (some ((r_isOn n0.toNatClampNeg), (0 : Int32), r_refusals))))))))
def wA_X7_sitter : List Cond := .code yX7_sitter cX7_sitter 3 (some .int) :: wsL_law
-- DraughtsTakeModel.sitter(II)I
set_option maxHeartbeats 4000000 in
set_option maxRecDepth 100000 in
theorem m_X7_sitter (l : Launch) (D : va_G) (y : Nat → ClassId) (a : (Nat → Nat)) (r_airs : Int32) (r_sitters : Int32) (r_stepMany : Int32) (r_today : Int32) (r_taken : Int32) (r_isStill : Int32) (r_thrown : Int32) (r_letterMany : Int32) (r_at0 : Int32) (r_isBad : Int32) (r_statements : Int32) (r_stepsMany : Int32) (r_hasImage : Int32) (r_place0 : Int32) (r_isTaking : Int32) (r_keptIn : Value) (r_turned : Int32) (r_rowMany : Int32) (r_seed : Int32) (r_warms : (Nat → UInt32)) (r_shutAt : (Nat → Int32)) (r_kinds0 : (Nat → Int32)) (r_figures : (Nat → Int32)) (r_airAt : (Nat → Int32)) (r_ways : (Nat → Int32)) (r_crowned : (Nat → Int32)) (r_sitsAt : (Nat → Int32)) (r_shawls : (Nat → Int32)) (r_isOn : (Nat → Int32)) (r_stepOf : (Nat → Int32)) (r_stepBy : (Nat → Int32)) (r_refusals : (Nat → Int32)) (r_letters : (Nat → Int32)) (r_placeIn : (Nat → Int32)) (r_letterOf : (Nat → Int32)) (r_numbers : (Nat → Int32)) (r_stepsRead : (Nat → Int32)) (r_stepsBy : (Nat → Int32)) (r_kept : (Nat → Int32)) (r_keptWarms : (Nat → UInt32)) (r_i_imaged : (Nat → Int32)) (r_imagedWarms : (Nat → UInt32)) (r_turns0 : (Nat → Int32)) (r_turnWarms0 : (Nat → UInt32)) (r_turnOf : (Nat → Int32)) (r_turnWarms : (Nat → UInt32)) (r_row0 : (Nat → Int32)) (r_gains : (Nat → Int32)) (r_pegSort : (Nat → Int32)) (r_pegMany : (Nat → Int32)) (r_pegHolds : (Nat → Int32)) (r_coats : (Nat → Int32)) (r_coatsMoved : (Nat → Int32)) (n0 : Int32) (n1 : Int32) (z0 : Int32) (z1 : Int32) (z2 : (Nat → Int32)) (hf : f_X7_sitter r_sitters r_sitsAt r_shawls r_isOn r_refusals n0 n1 = some (z0, z1, z2)) : Ct l D y yX7_sitter wA_X7_sitter 2 46 [.ref (a 0), .int n0, .int n1] (w_X7 y a r_airs r_sitters r_stepMany r_today r_taken r_isStill r_thrown r_letterMany r_at0 r_isBad r_statements r_stepsMany r_hasImage r_place0 r_isTaking r_keptIn r_turned r_rowMany r_seed r_warms r_shutAt r_kinds0 r_figures r_airAt r_ways r_crowned r_sitsAt r_shawls r_isOn r_stepOf r_stepBy r_refusals r_letters r_placeIn r_letterOf r_numbers r_stepsRead r_stepsBy r_kept r_keptWarms r_i_imaged r_imagedWarms r_turns0 r_turnWarms0 r_turnOf r_turnWarms r_row0 r_gains r_pegSort r_pegMany r_pegHolds r_coats r_coatsMoved) (w_X7 y a r_airs r_sitters r_stepMany r_today r_taken r_isStill z1 r_letterMany r_at0 r_isBad r_statements r_stepsMany r_hasImage r_place0 r_isTaking r_keptIn r_turned r_rowMany r_seed r_warms r_shutAt r_kinds0 r_figures r_airAt r_ways r_crowned r_sitsAt r_shawls r_isOn r_stepOf r_stepBy z2 r_letters r_placeIn r_letterOf r_numbers r_stepsRead r_stepsBy r_kept r_keptWarms r_i_imaged r_imagedWarms r_turns0 r_turnWarms0 r_turnOf r_turnWarms r_row0 r_gains r_pegSort r_pegMany r_pegHolds r_coats r_coatsMoved) (some (.int z0)) := by
  refine ct_head (cc := cX7_sitter) (n := 3) (ret := (some .int)) (by decide) rfl (Nat.le_of_ble_eq_true rfl) ?_
  intro p e s m below meth c A ls hx hb hr hml hown hlocks hts hA hAe hP hK hD hl
  have hS : va_S A s.heap s.heap [] := va_S.rf
  have hl : lv_has ls 3 [(0, .ref (a 0)), (1, .int n0), (2, .int n1)] := hl
  have hown : s.vm.findClass RX7 = some m.cls := hown
  have hts : ∀ w ∈ wsL_law, w.before [.ref (a 0), .int n0, .int n1].toArray s = true := fun w h => hts w (List.mem_cons_of_mem _ h)
  unfold f_X7_sitter at hf
  refine lv_aload_n hx hb dX7_sitter_0 rfl (lv_at hl 0 rfl) ?_
  refine lv_iconst (v := 0) hx hb dX7_sitter_1 (by decide) ?_
  refine va_put (D := D) (ci := 6) (v := .int (0 : Int32)) (ty := .int) (C := RX7) (T := TX7) (N := 53) hx hb hts iwX7 tyX7 tyX7_ok nmX7 hown hK hP hD hS 0 rfl rfl 18 (by decide) (hts _ wl_116) (fun _ h9 => h9) rfl (tyX7_ok 18 (by decide)) rfl rfl (Nat.le_of_ble_eq_true rfl) dX7_sitter_2 (fun H locs hP hD hS => ?_)
  have hP : va_P D vwCl (w_X7 y a r_airs r_sitters r_stepMany r_today r_taken r_isStill (0 : Int32) r_letterMany r_at0 r_isBad r_statements r_stepsMany r_hasImage r_place0 r_isTaking r_keptIn r_turned r_rowMany r_seed r_warms r_shutAt r_kinds0 r_figures r_airAt r_ways r_crowned r_sitsAt r_shawls r_isOn r_stepOf r_stepBy r_refusals r_letters r_placeIn r_letterOf r_numbers r_stepsRead r_stepsBy r_kept r_keptWarms r_i_imaged r_imagedWarms r_turns0 r_turnWarms0 r_turnOf r_turnWarms r_row0 r_gains r_pegSort r_pegMany r_pegHolds r_coats r_coatsMoved) H := hP
  have hD : va_D A (w_X7 y a r_airs r_sitters r_stepMany r_today r_taken r_isStill (0 : Int32) r_letterMany r_at0 r_isBad r_statements r_stepsMany r_hasImage r_place0 r_isTaking r_keptIn r_turned r_rowMany r_seed r_warms r_shutAt r_kinds0 r_figures r_airAt r_ways r_crowned r_sitsAt r_shawls r_isOn r_stepOf r_stepBy r_refusals r_letters r_placeIn r_letterOf r_numbers r_stepsRead r_stepsBy r_kept r_keptWarms r_i_imaged r_imagedWarms r_turns0 r_turnWarms0 r_turnOf r_turnWarms r_row0 r_gains r_pegSort r_pegMany r_pegHolds r_coats r_coatsMoved) := hD
  refine lv_aload_n hx hb dX7_sitter_5 rfl (lv_at hl 0 rfl) ?_
  refine lv_iload_n hx hb dX7_sitter_6 rfl (lv_at hl 1 rfl) ?_
  obtain ⟨x1, hy2, hf⟩ := dq_b hf
  refine ct_callV0 (ci := 6) (q0 := 0) (own := RX7) (As := [.int n0]) (rest := []) (ws' := (w_X7 y a r_airs r_sitters r_stepMany r_today r_taken r_isStill (0 : Int32) r_letterMany r_at0 r_isBad r_statements r_stepsMany r_hasImage r_place0 r_isTaking r_keptIn r_turned r_rowMany r_seed r_warms r_shutAt r_kinds0 r_figures r_airAt r_ways r_crowned r_sitsAt r_shawls r_isOn r_stepOf r_stepBy r_refusals r_letters r_placeIn r_letterOf r_numbers r_stepsRead r_stepsBy r_kept r_keptWarms r_i_imaged r_imagedWarms r_turns0 r_turnWarms0 r_turnOf r_turnWarms r_row0 r_gains r_pegSort r_pegMany r_pegHolds r_coats r_coatsMoved)) ⟨hx, hb, hml, hown, hts⟩ (m_X7_isSitter l D y a r_airs r_sitters r_stepMany r_today r_taken r_isStill (0 : Int32) r_letterMany r_at0 r_isBad r_statements r_stepsMany r_hasImage r_place0 r_isTaking r_keptIn r_turned r_rowMany r_seed r_warms r_shutAt r_kinds0 r_figures r_airAt r_ways r_crowned r_sitsAt r_shawls r_isOn r_stepOf r_stepBy r_refusals r_letters r_placeIn r_letterOf r_numbers r_stepsRead r_stepsBy r_kept r_keptWarms r_i_imaged r_imagedWarms r_turns0 r_turnWarms0 r_turnOf r_turnWarms r_row0 r_gains r_pegSort r_pegMany r_pegHolds r_coats r_coatsMoved n0 x1 hy2) (cwV 1 hts (gA_V wl_569 wl_570 wl_571 wl_5 wl_572) rfl rfl rfl (by decide +kernel) ⟨Nat.le_of_ble_eq_true rfl, Nat.le_of_ble_eq_true rfl⟩) rfl rfl rfl hl.1 rfl (Nat.le_of_ble_eq_true rfl) dX7_sitter_7 ⟨Nat.zero_le _, Nat.zero_le _⟩ hK hP hD hS hA (fun H locs hP hD hS => ?_)
  have J25 : f_X7_sitter_b25 n0 r_sitters r_refusals = some (z0, z1, z2) → ∀ (H : Heap) (locs : List Loc), va_P D vwCl (w_X7 y a r_airs r_sitters r_stepMany r_today r_taken r_isStill (0 : Int32) r_letterMany r_at0 r_isBad r_statements r_stepsMany r_hasImage r_place0 r_isTaking r_keptIn r_turned r_rowMany r_seed r_warms r_shutAt r_kinds0 r_figures r_airAt r_ways r_crowned r_sitsAt r_shawls r_isOn r_stepOf r_stepBy r_refusals r_letters r_placeIn r_letterOf r_numbers r_stepsRead r_stepsBy r_kept r_keptWarms r_i_imaged r_imagedWarms r_turns0 r_turnWarms0 r_turnOf r_turnWarms r_row0 r_gains r_pegSort r_pegMany r_pegHolds r_coats r_coatsMoved) H → va_D A (w_X7 y a r_airs r_sitters r_stepMany r_today r_taken r_isStill (0 : Int32) r_letterMany r_at0 r_isBad r_statements r_stepsMany r_hasImage r_place0 r_isTaking r_keptIn r_turned r_rowMany r_seed r_warms r_shutAt r_kinds0 r_figures r_airAt r_ways r_crowned r_sitsAt r_shawls r_isOn r_stepOf r_stepBy r_refusals r_letters r_placeIn r_letterOf r_numbers r_stepsRead r_stepsBy r_kept r_keptWarms r_i_imaged r_imagedWarms r_turns0 r_turnWarms0 r_turnOf r_turnWarms r_row0 r_gains r_pegSort r_pegMany r_pegHolds r_coats r_coatsMoved) → va_S A s.heap H locs → ∀ ls : Array Slot, lv_has ls 3 [(0, .ref (a 0)), (1, .int n0)] → W p l e ({ frames := 2, cells := 0, slots := 0, locals := 46 } : Room) s m [.ref (a 0), .int n0, .int n1].toArray below meth c H locs 0 0 (MQ below (dQ D y (some (.int z0)) s.heap.size (w_X7 y a r_airs r_sitters r_stepMany r_today r_taken r_isStill r_thrown r_letterMany r_at0 r_isBad r_statements r_stepsMany r_hasImage r_place0 r_isTaking r_keptIn r_turned r_rowMany r_seed r_warms r_shutAt r_kinds0 r_figures r_airAt r_ways r_crowned r_sitsAt r_shawls r_isOn r_stepOf r_stepBy r_refusals r_letters r_placeIn r_letterOf r_numbers r_stepsRead r_stepsBy r_kept r_keptWarms r_i_imaged r_imagedWarms r_turns0 r_turnWarms0 r_turnOf r_turnWarms r_row0 r_gains r_pegSort r_pegMany r_pegHolds r_coats r_coatsMoved) (w_X7 y a r_airs r_sitters r_stepMany r_today r_taken r_isStill z1 r_letterMany r_at0 r_isBad r_statements r_stepsMany r_hasImage r_place0 r_isTaking r_keptIn r_turned r_rowMany r_seed r_warms r_shutAt r_kinds0 r_figures r_airAt r_ways r_crowned r_sitsAt r_shawls r_isOn r_stepOf r_stepBy z2 r_letters r_placeIn r_letterOf r_numbers r_stepsRead r_stepsBy r_kept r_keptWarms r_i_imaged r_imagedWarms r_turns0 r_turnWarms0 r_turnOf r_turnWarms r_row0 r_gains r_pegSort r_pegMany r_pegHolds r_coats r_coatsMoved)) [.ref (a 0), .int n0, .int n1].toArray s 0 0 A) (F0 m 25 ls []) := by
    intro  hf H locs hP hD hS ls hl
    unfold f_X7_sitter_b25 at hf
    refine lv_aload_n hx hb dX7_sitter_25 rfl (lv_at hl 0 rfl) ?_
    refine lv_aload_n hx hb dX7_sitter_26 rfl (lv_at hl 0 rfl) ?_
    refine lv_iload_n hx hb dX7_sitter_27 rfl (lv_at hl 1 rfl) ?_
    obtain ⟨x3, hy4, hf⟩ := dq_b hf
    refine ct_callV0 (ci := 6) (q0 := 0) (own := RX7) (As := [.int n0]) (rest := [.ref (a 0)]) (ws' := (w_X7 y a r_airs r_sitters r_stepMany r_today r_taken r_isStill (0 : Int32) r_letterMany r_at0 r_isBad r_statements r_stepsMany r_hasImage r_place0 r_isTaking r_keptIn r_turned r_rowMany r_seed r_warms r_shutAt r_kinds0 r_figures r_airAt r_ways r_crowned r_sitsAt r_shawls r_isOn r_stepOf r_stepBy r_refusals r_letters r_placeIn r_letterOf r_numbers r_stepsRead r_stepsBy r_kept r_keptWarms r_i_imaged r_imagedWarms r_turns0 r_turnWarms0 r_turnOf r_turnWarms r_row0 r_gains r_pegSort r_pegMany r_pegHolds r_coats r_coatsMoved)) ⟨hx, hb, hml, hown, hts⟩ (m_X7_isSitter l D y a r_airs r_sitters r_stepMany r_today r_taken r_isStill (0 : Int32) r_letterMany r_at0 r_isBad r_statements r_stepsMany r_hasImage r_place0 r_isTaking r_keptIn r_turned r_rowMany r_seed r_warms r_shutAt r_kinds0 r_figures r_airAt r_ways r_crowned r_sitsAt r_shawls r_isOn r_stepOf r_stepBy r_refusals r_letters r_placeIn r_letterOf r_numbers r_stepsRead r_stepsBy r_kept r_keptWarms r_i_imaged r_imagedWarms r_turns0 r_turnWarms0 r_turnOf r_turnWarms r_row0 r_gains r_pegSort r_pegMany r_pegHolds r_coats r_coatsMoved n0 x3 hy4) (cwV 1 hts (gA_V wl_569 wl_570 wl_571 wl_5 wl_572) rfl rfl rfl (by decide +kernel) ⟨Nat.le_of_ble_eq_true rfl, Nat.le_of_ble_eq_true rfl⟩) rfl rfl rfl hl.1 rfl (Nat.le_of_ble_eq_true rfl) dX7_sitter_28 ⟨Nat.zero_le _, Nat.zero_le _⟩ hK hP hD hS hA (fun H locs hP hD hS => ?_)
    refine lv_if_eq (tgt := 39) hx hb dX7_sitter_31 (by decide) (fun c5 => ?_) (fun c5 => ?_)
    · have hf := dq_t hf c5
      clear c5
      refine lv_iconst (v := -1) hx hb dX7_sitter_39 (by decide) ?_
      obtain ⟨x6, r_refusals_7, hy8, hf⟩ := dq_b2 hf
      refine ct_callV0 (ci := 6) (q0 := 0) (own := RX7) (As := [.int (-1 : Int32)]) (rest := []) (ws' := (w_X7 y a r_airs r_sitters r_stepMany r_today r_taken r_isStill (0 : Int32) r_letterMany r_at0 r_isBad r_statements r_stepsMany r_hasImage r_place0 r_isTaking r_keptIn r_turned r_rowMany r_seed r_warms r_shutAt r_kinds0 r_figures r_airAt r_ways r_crowned r_sitsAt r_shawls r_isOn r_stepOf r_stepBy r_refusals_7 r_letters r_placeIn r_letterOf r_numbers r_stepsRead r_stepsBy r_kept r_keptWarms r_i_imaged r_imagedWarms r_turns0 r_turnWarms0 r_turnOf r_turnWarms r_row0 r_gains r_pegSort r_pegMany r_pegHolds r_coats r_coatsMoved)) ⟨hx, hb, hml, hown, hts⟩ (m_X7_refuse l D y a r_airs r_sitters r_stepMany r_today r_taken r_isStill (0 : Int32) r_letterMany r_at0 r_isBad r_statements r_stepsMany r_hasImage r_place0 r_isTaking r_keptIn r_turned r_rowMany r_seed r_warms r_shutAt r_kinds0 r_figures r_airAt r_ways r_crowned r_sitsAt r_shawls r_isOn r_stepOf r_stepBy r_refusals r_letters r_placeIn r_letterOf r_numbers r_stepsRead r_stepsBy r_kept r_keptWarms r_i_imaged r_imagedWarms r_turns0 r_turnWarms0 r_turnOf r_turnWarms r_row0 r_gains r_pegSort r_pegMany r_pegHolds r_coats r_coatsMoved (-1 : Int32) x6 r_refusals_7 hy8) (cwV 1 hts (gA_V wl_133 wl_134 wl_135 wl_5 wl_136) rfl rfl rfl (by decide +kernel) ⟨Nat.le_of_ble_eq_true rfl, Nat.le_of_ble_eq_true rfl⟩) rfl rfl rfl hl.1 rfl (Nat.le_of_ble_eq_true rfl) dX7_sitter_40 ⟨Nat.zero_le _, Nat.zero_le _⟩ hK hP hD hS hA (fun H locs hP hD hS => ?_)
      obtain ⟨rfl, rfl, rfl⟩ := dq_r3 hf
      exact ct_iret hx hb hr hlocks hAe hP hK hD hS dX7_sitter_43
    · have hf := dq_f hf c5
      clear c5
      refine lv_bipush (v := -2) hx hb dX7_sitter_34 (by decide) ?_
      refine lv_goto (tgt := 40) hx hb dX7_sitter_36 (by decide) ?_
      obtain ⟨x9, r_refusals_10, hy11, hf⟩ := dq_b2 hf
      refine ct_callV0 (ci := 6) (q0 := 0) (own := RX7) (As := [.int (-2 : Int32)]) (rest := []) (ws' := (w_X7 y a r_airs r_sitters r_stepMany r_today r_taken r_isStill (0 : Int32) r_letterMany r_at0 r_isBad r_statements r_stepsMany r_hasImage r_place0 r_isTaking r_keptIn r_turned r_rowMany r_seed r_warms r_shutAt r_kinds0 r_figures r_airAt r_ways r_crowned r_sitsAt r_shawls r_isOn r_stepOf r_stepBy r_refusals_10 r_letters r_placeIn r_letterOf r_numbers r_stepsRead r_stepsBy r_kept r_keptWarms r_i_imaged r_imagedWarms r_turns0 r_turnWarms0 r_turnOf r_turnWarms r_row0 r_gains r_pegSort r_pegMany r_pegHolds r_coats r_coatsMoved)) ⟨hx, hb, hml, hown, hts⟩ (m_X7_refuse l D y a r_airs r_sitters r_stepMany r_today r_taken r_isStill (0 : Int32) r_letterMany r_at0 r_isBad r_statements r_stepsMany r_hasImage r_place0 r_isTaking r_keptIn r_turned r_rowMany r_seed r_warms r_shutAt r_kinds0 r_figures r_airAt r_ways r_crowned r_sitsAt r_shawls r_isOn r_stepOf r_stepBy r_refusals r_letters r_placeIn r_letterOf r_numbers r_stepsRead r_stepsBy r_kept r_keptWarms r_i_imaged r_imagedWarms r_turns0 r_turnWarms0 r_turnOf r_turnWarms r_row0 r_gains r_pegSort r_pegMany r_pegHolds r_coats r_coatsMoved (-2 : Int32) x9 r_refusals_10 hy11) (cwV 1 hts (gA_V wl_133 wl_134 wl_135 wl_5 wl_136) rfl rfl rfl (by decide +kernel) ⟨Nat.le_of_ble_eq_true rfl, Nat.le_of_ble_eq_true rfl⟩) rfl rfl rfl hl.1 rfl (Nat.le_of_ble_eq_true rfl) dX7_sitter_40 ⟨Nat.zero_le _, Nat.zero_le _⟩ hK hP hD hS hA (fun H locs hP hD hS => ?_)
      obtain ⟨rfl, rfl, rfl⟩ := dq_r3 hf
      exact ct_iret hx hb hr hlocks hAe hP hK hD hS dX7_sitter_43
  refine lv_if_eq (tgt := 25) hx hb dX7_sitter_10 (by decide) (fun c12 => ?_) (fun c12 => ?_)
  · have hf := dq_t hf c12
    clear c12
    exact J25  hf _ _ hP hD hS _ (lv_sub hl [0, 1] rfl)
  · have hf := dq_f hf c12
    clear c12
    refine lv_iload_n hx hb dX7_sitter_13 rfl (lv_at hl 2 rfl) ?_
    refine lv_i2l hx hb dX7_sitter_14 rfl ?_
    refine lv_lconst (v := 0) hx hb dX7_sitter_15 (by decide) ?_
    refine lv_ldc2 hx hb hown (hts _ wl_568) dX7_sitter_16 ?_
    obtain ⟨x13, hy14, hf⟩ := dq_b hf
    refine ct_callS0 (own := RX7) (As := [.long n1.toInt64, .long (0 : Int64), .long (2 : Int64)]) (rest := []) ⟨hx, hb, hml, hown, hts⟩ (m_X7_in l D y n1.toInt64 (0 : Int64) (2 : Int64) x13 hy14) (va_cwS 3 hts (gA_S wl_391 wl_392 wl_5 wl_393) rfl rfl rfl (by decide +kernel) ⟨Nat.le_of_ble_eq_true rfl, Nat.le_of_ble_eq_true rfl⟩) rfl hl.1 rfl (Nat.le_of_ble_eq_true rfl) dX7_sitter_19 ⟨Nat.zero_le _, Nat.zero_le _⟩ hK hP hD hS hA (fun H locs hP hD hS => ?_)
    refine lv_if_ne (tgt := 44) hx hb dX7_sitter_22 (by decide) (fun c15 => ?_) (fun c15 => ?_)
    · have hf := dq_f hf c15
      clear c15
      refine lv_iload_n hx hb dX7_sitter_44 rfl (lv_at hl 2 rfl) ?_
      refine lv_if_ne (tgt := 57) hx hb dX7_sitter_45 (by decide) (fun c16 => ?_) (fun c16 => ?_)
      · have hf := dq_f hf c16
        clear c16
        refine lv_iload_n hx hb dX7_sitter_57 rfl (lv_at hl 2 rfl) ?_
        refine lv_iconst (v := 1) hx hb dX7_sitter_58 (by decide) ?_
        refine lv_icmp_ne (tgt := 71) hx hb dX7_sitter_59 (by decide) (fun c17 => ?_) (fun c17 => ?_)
        · have hf := dq_f hf c17
          clear c17
          refine lv_aload_n hx hb dX7_sitter_71 rfl (lv_at hl 0 rfl) ?_
          refine va_get (D := D) (ci := 6) (v := .ref (a 10)) (C := RX7) (T := TX7) (N := 53) hx hb hts iwX7 hown hK hP 0 rfl rfl 11 (by decide) (hts _ wl_90) (fun _ h9 => h9) rfl dX7_sitter_72 ?_
          refine lv_iload_n hx hb dX7_sitter_75 rfl (lv_at hl 1 rfl) ?_
          obtain ⟨h18, hf⟩ := dq_g hf
          refine va_iald (cA := y 1) (n := 6) (f := r_isOn) hx hb hK hP 10 1 rfl rfl h18 dX7_sitter_76 ?_
          obtain ⟨rfl, rfl, rfl⟩ := dq_r3 hf
          exact ct_iret hx hb hr hlocks hAe hP hK hD hS dX7_sitter_77
        · have hf := dq_t hf c17
          clear c17
          refine lv_aload_n hx hb dX7_sitter_62 rfl (lv_at hl 0 rfl) ?_
          refine va_get (D := D) (ci := 6) (v := .ref (a 9)) (C := RX7) (T := TX7) (N := 53) hx hb hts iwX7 hown hK hP 0 rfl rfl 10 (by decide) (hts _ wl_89) (fun _ h9 => h9) rfl dX7_sitter_63 ?_
          refine lv_iload_n hx hb dX7_sitter_66 rfl (lv_at hl 1 rfl) ?_
          obtain ⟨h19, hf⟩ := dq_g hf
          refine va_iald (cA := y 1) (n := 6) (f := r_shawls) hx hb hK hP 9 1 rfl rfl h19 dX7_sitter_67 ?_
          refine lv_goto (tgt := 77) hx hb dX7_sitter_68 (by decide) ?_
          obtain ⟨rfl, rfl, rfl⟩ := dq_r3 hf
          exact ct_iret hx hb hr hlocks hAe hP hK hD hS dX7_sitter_77
      · have hf := dq_t hf c16
        clear c16
        refine lv_aload_n hx hb dX7_sitter_48 rfl (lv_at hl 0 rfl) ?_
        refine va_get (D := D) (ci := 6) (v := .ref (a 8)) (C := RX7) (T := TX7) (N := 53) hx hb hts iwX7 hown hK hP 0 rfl rfl 9 (by decide) (hts _ wl_88) (fun _ h9 => h9) rfl dX7_sitter_49 ?_
        refine lv_iload_n hx hb dX7_sitter_52 rfl (lv_at hl 1 rfl) ?_
        obtain ⟨h20, hf⟩ := dq_g hf
        refine va_iald (cA := y 1) (n := 6) (f := r_sitsAt) hx hb hK hP 8 1 rfl rfl h20 dX7_sitter_53 ?_
        refine lv_goto (tgt := 77) hx hb dX7_sitter_54 (by decide) ?_
        obtain ⟨rfl, rfl, rfl⟩ := dq_r3 hf
        exact ct_iret hx hb hr hlocks hAe hP hK hD hS dX7_sitter_77
    · have hf := dq_t hf c15
      clear c15
      exact J25  hf _ _ hP hD hS _ (lv_sub hl [0, 1] rfl)
