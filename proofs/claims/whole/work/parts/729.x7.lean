noncomputable def f_X7_coldest_b88 (r_warms : (Nat → UInt32)) (x6 : Int32) (x11 : Int32) (k32 : (Int32 → Int32 → Int32 → Option (Int32 × Int32 × (Nat → Int32)))) (x16 : Int32) (x17 : UInt32) (x18 : Int32) : Option (Int32 × Int32 × (Nat → Int32)) := dq_gd (vp_in x18 36) (dq_if (0 < (Op.cmpValue (FP.fcmp x17 (r_warms x18.toNatClampNeg)) .l)) (dq_let (x16 + (0 : Int32)) (fun (x21 : Int32) => dq_let (x6 + (1 : Int32)) (fun (x22 : Int32) => k32 x11 x21 x22))) (dq_let (x16 + (1 : Int32)) (fun (x23 : Int32) => dq_let (x6 + (1 : Int32)) (fun (x24 : Int32) => k32 x11 x23 x24))))
noncomputable def f_X7_coldest_b62 (n0 : Int32) (r_warms : (Nat → UInt32)) (x5 : Int32) (x6 : Int32) (k32 : (Int32 → Int32 → Int32 → Option (Int32 × Int32 × (Nat → Int32)))) (x11 : Int32) : Option (Int32 × Int32 × (Nat → Int32)) := dq_if (n0 < 0) (dq_let (x5 + (0 : Int32)) (fun (x13 : Int32) => dq_let (x6 + (1 : Int32)) (fun (x14 : Int32) => k32 x11 x13 x14))) (dq_gd (vp_in x6 36) (dq_if (0 ≤ n0) (f_X7_coldest_b88 r_warms x6 x11 k32 x5 (r_warms x6.toNatClampNeg) n0) (f_X7_coldest_b88 r_warms x6 x11 k32 x5 (r_warms x6.toNatClampNeg) (0 : Int32))))
noncomputable def f_X7_coldest_b32 (n0 : Int32) (r_warms : (Nat → UInt32)) (r_refusals : (Nat → Int32))  : Nat → Int32 → Int32 → Int32 → Option (Int32 × Int32 × (Nat → Int32))
  | 0, _, _, _ => none
  | m32 + 1, x4, x5, x6 => dq_if ((36 : Int32) ≤ x6) (dq_if (0 ≤ n0) (some (x5, (0 : Int32), r_refusals)) (some (x4, (0 : Int32), r_refusals))) (dq_gd (vp_in x6 36) (dq_gd (vp_in x4 36) (dq_if (0 ≤ (Op.cmpValue (FP.fcmp (r_warms x6.toNatClampNeg) (r_warms x4.toNatClampNeg)) .g)) (f_X7_coldest_b62 n0 r_warms x5 x6 (f_X7_coldest_b32 n0 r_warms r_refusals m32) x4) (f_X7_coldest_b62 n0 r_warms x5 x6 (f_X7_coldest_b32 n0 r_warms r_refusals m32) x6))))
noncomputable def f_X7_coldest (r_warms : (Nat → UInt32)) (r_refusals : (Nat → Int32)) (n0 : Int32) : Option (Int32 × Int32 × (Nat → Int32)) := dq_bd (f_X7_in n0.toInt64 (-1 : Int64) (35 : Int64)) (fun (x1 : Int32) => dq_if (x1 = 0) (dq_bd2 (f_X7_refuse r_refusals (-1 : Int32)) (fun (x27 : Int32) (r_refusals_28 : (Nat → Int32)) => some (x27, (0 : Int32), r_refusals_28))) (f_X7_coldest_b32 n0 r_warms r_refusals 4096 (0 : Int32) (0 : Int32) (0 : Int32)))
def wA_X7_coldest : List Cond := .code yX7_coldest cX7_coldest 5 (some .int) :: wsL_law
-- DraughtsTakeModel.coldest(I)I
set_option maxHeartbeats 4000000 in
set_option maxRecDepth 100000 in
theorem m_X7_coldest (l : Launch) (D : va_G) (y : Nat → ClassId) (a : (Nat → Nat)) (r_airs : Int32) (r_sitters : Int32) (r_stepMany : Int32) (r_today : Int32) (r_taken : Int32) (r_isStill : Int32) (r_thrown : Int32) (r_letterMany : Int32) (r_at0 : Int32) (r_isBad : Int32) (r_statements : Int32) (r_stepsMany : Int32) (r_hasImage : Int32) (r_place0 : Int32) (r_isTaking : Int32) (r_keptIn : Value) (r_turned : Int32) (r_rowMany : Int32) (r_seed : Int32) (r_warms : (Nat → UInt32)) (r_shutAt : (Nat → Int32)) (r_kinds0 : (Nat → Int32)) (r_figures : (Nat → Int32)) (r_airAt : (Nat → Int32)) (r_ways : (Nat → Int32)) (r_crowned : (Nat → Int32)) (r_sitsAt : (Nat → Int32)) (r_shawls : (Nat → Int32)) (r_isOn : (Nat → Int32)) (r_stepOf : (Nat → Int32)) (r_stepBy : (Nat → Int32)) (r_refusals : (Nat → Int32)) (r_letters : (Nat → Int32)) (r_placeIn : (Nat → Int32)) (r_letterOf : (Nat → Int32)) (r_numbers : (Nat → Int32)) (r_stepsRead : (Nat → Int32)) (r_stepsBy : (Nat → Int32)) (r_kept : (Nat → Int32)) (r_keptWarms : (Nat → UInt32)) (r_i_imaged : (Nat → Int32)) (r_imagedWarms : (Nat → UInt32)) (r_turns0 : (Nat → Int32)) (r_turnWarms0 : (Nat → UInt32)) (r_turnOf : (Nat → Int32)) (r_turnWarms : (Nat → UInt32)) (r_row0 : (Nat → Int32)) (r_gains : (Nat → Int32)) (r_pegSort : (Nat → Int32)) (r_pegMany : (Nat → Int32)) (r_pegHolds : (Nat → Int32)) (r_coats : (Nat → Int32)) (r_coatsMoved : (Nat → Int32)) (n0 : Int32) (z0 : Int32) (z1 : Int32) (z2 : (Nat → Int32)) (hf : f_X7_coldest r_warms r_refusals n0 = some (z0, z1, z2)) : Ct l D y yX7_coldest wA_X7_coldest 1 25 [.ref (a 0), .int n0] (w_X7 y a r_airs r_sitters r_stepMany r_today r_taken r_isStill r_thrown r_letterMany r_at0 r_isBad r_statements r_stepsMany r_hasImage r_place0 r_isTaking r_keptIn r_turned r_rowMany r_seed r_warms r_shutAt r_kinds0 r_figures r_airAt r_ways r_crowned r_sitsAt r_shawls r_isOn r_stepOf r_stepBy r_refusals r_letters r_placeIn r_letterOf r_numbers r_stepsRead r_stepsBy r_kept r_keptWarms r_i_imaged r_imagedWarms r_turns0 r_turnWarms0 r_turnOf r_turnWarms r_row0 r_gains r_pegSort r_pegMany r_pegHolds r_coats r_coatsMoved) (w_X7 y a r_airs r_sitters r_stepMany r_today r_taken r_isStill z1 r_letterMany r_at0 r_isBad r_statements r_stepsMany r_hasImage r_place0 r_isTaking r_keptIn r_turned r_rowMany r_seed r_warms r_shutAt r_kinds0 r_figures r_airAt r_ways r_crowned r_sitsAt r_shawls r_isOn r_stepOf r_stepBy z2 r_letters r_placeIn r_letterOf r_numbers r_stepsRead r_stepsBy r_kept r_keptWarms r_i_imaged r_imagedWarms r_turns0 r_turnWarms0 r_turnOf r_turnWarms r_row0 r_gains r_pegSort r_pegMany r_pegHolds r_coats r_coatsMoved) (some (.int z0)) := by
  refine ct_head (cc := cX7_coldest) (n := 5) (ret := (some .int)) (by decide) rfl (Nat.le_of_ble_eq_true rfl) ?_
  intro p e s m below meth c A ls hx hb hr hml hown hlocks hts hA hAe hP hK hD hl
  have hS : va_S A s.heap s.heap [] := va_S.rf
  have hl : lv_has ls 5 [(0, .ref (a 0)), (1, .int n0)] := hl
  have hown : s.vm.findClass RX7 = some m.cls := hown
  have hts : ∀ w ∈ wsL_law, w.before [.ref (a 0), .int n0].toArray s = true := fun w h => hts w (List.mem_cons_of_mem _ h)
  unfold f_X7_coldest at hf
  refine lv_aload_n hx hb dX7_coldest_0 rfl (lv_at hl 0 rfl) ?_
  refine lv_iconst (v := 0) hx hb dX7_coldest_1 (by decide) ?_
  refine va_put (D := D) (ci := 6) (v := .int (0 : Int32)) (ty := .int) (C := RX7) (T := TX7) (N := 53) hx hb hts iwX7 tyX7 tyX7_ok nmX7 hown hK hP hD hS 0 rfl rfl 18 (by decide) (hts _ wl_116) (fun _ h9 => h9) rfl (tyX7_ok 18 (by decide)) rfl rfl (Nat.le_of_ble_eq_true rfl) dX7_coldest_2 (fun H locs hP hD hS => ?_)
  have hP : va_P D vwCl (w_X7 y a r_airs r_sitters r_stepMany r_today r_taken r_isStill (0 : Int32) r_letterMany r_at0 r_isBad r_statements r_stepsMany r_hasImage r_place0 r_isTaking r_keptIn r_turned r_rowMany r_seed r_warms r_shutAt r_kinds0 r_figures r_airAt r_ways r_crowned r_sitsAt r_shawls r_isOn r_stepOf r_stepBy r_refusals r_letters r_placeIn r_letterOf r_numbers r_stepsRead r_stepsBy r_kept r_keptWarms r_i_imaged r_imagedWarms r_turns0 r_turnWarms0 r_turnOf r_turnWarms r_row0 r_gains r_pegSort r_pegMany r_pegHolds r_coats r_coatsMoved) H := hP
  have hD : va_D A (w_X7 y a r_airs r_sitters r_stepMany r_today r_taken r_isStill (0 : Int32) r_letterMany r_at0 r_isBad r_statements r_stepsMany r_hasImage r_place0 r_isTaking r_keptIn r_turned r_rowMany r_seed r_warms r_shutAt r_kinds0 r_figures r_airAt r_ways r_crowned r_sitsAt r_shawls r_isOn r_stepOf r_stepBy r_refusals r_letters r_placeIn r_letterOf r_numbers r_stepsRead r_stepsBy r_kept r_keptWarms r_i_imaged r_imagedWarms r_turns0 r_turnWarms0 r_turnOf r_turnWarms r_row0 r_gains r_pegSort r_pegMany r_pegHolds r_coats r_coatsMoved) := hD
  refine lv_iload_n hx hb dX7_coldest_5 rfl (lv_at hl 1 rfl) ?_
  refine lv_i2l hx hb dX7_coldest_6 rfl ?_
  refine lv_ldc2 hx hb hown (hts _ wl_803) dX7_coldest_7 ?_
  refine lv_ldc2 hx hb hown (hts _ wl_425) dX7_coldest_10 ?_
  obtain ⟨x1, hy2, hf⟩ := dq_b hf
  refine ct_callS0 (own := RX7) (As := [.long n0.toInt64, .long (-1 : Int64), .long (35 : Int64)]) (rest := []) ⟨hx, hb, hml, hown, hts⟩ (m_X7_in l D y n0.toInt64 (-1 : Int64) (35 : Int64) x1 hy2) (va_cwS 3 hts (gA_S wl_391 wl_392 wl_5 wl_393) rfl rfl rfl (by decide +kernel) ⟨Nat.le_of_ble_eq_true rfl, Nat.le_of_ble_eq_true rfl⟩) rfl hl.1 rfl (Nat.le_of_ble_eq_true rfl) dX7_coldest_13 ⟨Nat.zero_le _, Nat.zero_le _⟩ hK hP hD hS hA (fun H locs hP hD hS => ?_)
  refine lv_if_ne (tgt := 25) hx hb dX7_coldest_16 (by decide) (fun c3 => ?_) (fun c3 => ?_)
  · have hf := dq_f hf c3
    clear c3
    refine lv_iconst (v := 0) hx hb dX7_coldest_25 (by decide) ?_
    refine lv_istore_n (lv' := [(2, .int (0 : Int32)), (0, .ref (a 0)), (1, .int n0)]) hx hb dX7_coldest_26 rfl hl (by decide) rfl (fun ls hl => ?_)
    refine lv_iconst (v := 0) hx hb dX7_coldest_27 (by decide) ?_
    refine lv_istore_n (lv' := [(3, .int (0 : Int32)), (2, .int (0 : Int32)), (0, .ref (a 0)), (1, .int n0)]) hx hb dX7_coldest_28 rfl hl (by decide) rfl (fun ls hl => ?_)
    refine lv_iconst (v := 0) hx hb dX7_coldest_29 (by decide) ?_
    refine lv_istore (lv' := [(4, .int (0 : Int32)), (3, .int (0 : Int32)), (2, .int (0 : Int32)), (0, .ref (a 0)), (1, .int n0)]) hx hb dX7_coldest_30 hl (by decide) rfl (fun ls hl => ?_)
    have J32 : ∀ (m32 : Nat) (x4 : Int32) (x5 : Int32) (x6 : Int32), f_X7_coldest_b32 n0 r_warms r_refusals m32 x4 x5 x6 = some (z0, z1, z2) → ∀ (H : Heap) (locs : List Loc), va_P D vwCl (w_X7 y a r_airs r_sitters r_stepMany r_today r_taken r_isStill (0 : Int32) r_letterMany r_at0 r_isBad r_statements r_stepsMany r_hasImage r_place0 r_isTaking r_keptIn r_turned r_rowMany r_seed r_warms r_shutAt r_kinds0 r_figures r_airAt r_ways r_crowned r_sitsAt r_shawls r_isOn r_stepOf r_stepBy r_refusals r_letters r_placeIn r_letterOf r_numbers r_stepsRead r_stepsBy r_kept r_keptWarms r_i_imaged r_imagedWarms r_turns0 r_turnWarms0 r_turnOf r_turnWarms r_row0 r_gains r_pegSort r_pegMany r_pegHolds r_coats r_coatsMoved) H → va_D A (w_X7 y a r_airs r_sitters r_stepMany r_today r_taken r_isStill (0 : Int32) r_letterMany r_at0 r_isBad r_statements r_stepsMany r_hasImage r_place0 r_isTaking r_keptIn r_turned r_rowMany r_seed r_warms r_shutAt r_kinds0 r_figures r_airAt r_ways r_crowned r_sitsAt r_shawls r_isOn r_stepOf r_stepBy r_refusals r_letters r_placeIn r_letterOf r_numbers r_stepsRead r_stepsBy r_kept r_keptWarms r_i_imaged r_imagedWarms r_turns0 r_turnWarms0 r_turnOf r_turnWarms r_row0 r_gains r_pegSort r_pegMany r_pegHolds r_coats r_coatsMoved) → va_S A s.heap H locs → ∀ ls : Array Slot, lv_has ls 5 [(0, .ref (a 0)), (1, .int n0), (2, .int x4), (3, .int x5), (4, .int x6)] → W p l e ({ frames := 1, cells := 0, slots := 0, locals := 25 } : Room) s m [.ref (a 0), .int n0].toArray below meth c H locs 0 0 (MQ below (dQ D y (some (.int z0)) s.heap.size (w_X7 y a r_airs r_sitters r_stepMany r_today r_taken r_isStill r_thrown r_letterMany r_at0 r_isBad r_statements r_stepsMany r_hasImage r_place0 r_isTaking r_keptIn r_turned r_rowMany r_seed r_warms r_shutAt r_kinds0 r_figures r_airAt r_ways r_crowned r_sitsAt r_shawls r_isOn r_stepOf r_stepBy r_refusals r_letters r_placeIn r_letterOf r_numbers r_stepsRead r_stepsBy r_kept r_keptWarms r_i_imaged r_imagedWarms r_turns0 r_turnWarms0 r_turnOf r_turnWarms r_row0 r_gains r_pegSort r_pegMany r_pegHolds r_coats r_coatsMoved) (w_X7 y a r_airs r_sitters r_stepMany r_today r_taken r_isStill z1 r_letterMany r_at0 r_isBad r_statements r_stepsMany r_hasImage r_place0 r_isTaking r_keptIn r_turned r_rowMany r_seed r_warms r_shutAt r_kinds0 r_figures r_airAt r_ways r_crowned r_sitsAt r_shawls r_isOn r_stepOf r_stepBy z2 r_letters r_placeIn r_letterOf r_numbers r_stepsRead r_stepsBy r_kept r_keptWarms r_i_imaged r_imagedWarms r_turns0 r_turnWarms0 r_turnOf r_turnWarms r_row0 r_gains r_pegSort r_pegMany r_pegHolds r_coats r_coatsMoved)) [.ref (a 0), .int n0].toArray s 0 0 A) (F0 m 32 ls []) := by
      intro m32
      induction m32 with
      | zero => intro x4 x5 x6 hf; exact absurd hf (by unfold f_X7_coldest_b32; exact fun h => by cases h)
      | succ m32 I32 =>
        intro x4 x5 x6 hf H locs hP hD hS ls hl
        unfold f_X7_coldest_b32 at hf
        refine lv_iload hx hb dX7_coldest_32 (lv_at hl 4 rfl) ?_
        refine lv_bipush (v := 36) hx hb dX7_coldest_34 (by decide) ?_
        refine lv_icmp_ge (tgt := 106) hx hb dX7_coldest_36 (by decide) (fun c7 => ?_) (fun c7 => ?_)
        · have hf := dq_t hf c7
          clear c7
          refine lv_iload_n hx hb dX7_coldest_106 rfl (lv_at hl 1 rfl) ?_
          refine lv_if_ge (tgt := 114) hx hb dX7_coldest_107 (by decide) (fun c8 => ?_) (fun c8 => ?_)
          · have hf := dq_t hf c8
            clear c8
            refine lv_iload_n hx hb dX7_coldest_114 rfl (lv_at hl 3 rfl) ?_
            obtain ⟨rfl, rfl, rfl⟩ := dq_r3 hf
            exact ct_iret hx hb hr hlocks hAe hP hK hD hS dX7_coldest_115
          · have hf := dq_f hf c8
            clear c8
            refine lv_iload_n hx hb dX7_coldest_110 rfl (lv_at hl 2 rfl) ?_
            refine lv_goto (tgt := 115) hx hb dX7_coldest_111 (by decide) ?_
            obtain ⟨rfl, rfl, rfl⟩ := dq_r3 hf
            exact ct_iret hx hb hr hlocks hAe hP hK hD hS dX7_coldest_115
        · have hf := dq_f hf c7
          clear c7
          refine lv_aload_n hx hb dX7_coldest_39 rfl (lv_at hl 0 rfl) ?_
          refine va_get (D := D) (ci := 6) (v := .ref (a 1)) (C := RX7) (T := TX7) (N := 53) hx hb hts iwX7 hown hK hP 0 rfl rfl 0 (by decide) (hts _ wl_81) (fun _ h9 => h9) rfl dX7_coldest_40 ?_
          refine lv_iload hx hb dX7_coldest_43 (lv_at hl 4 rfl) ?_
          obtain ⟨h9, hf⟩ := dq_g hf
          refine va_fald (cA := y 0) (n := 36) (f := r_warms) hx hb hK hP 1 0 rfl rfl h9 dX7_coldest_45 ?_
          refine lv_aload_n hx hb dX7_coldest_46 rfl (lv_at hl 0 rfl) ?_
          refine va_get (D := D) (ci := 6) (v := .ref (a 1)) (C := RX7) (T := TX7) (N := 53) hx hb hts iwX7 hown hK hP 0 rfl rfl 0 (by decide) (hts _ wl_81) (fun _ h9 => h9) rfl dX7_coldest_47 ?_
          refine lv_iload_n hx hb dX7_coldest_50 rfl (lv_at hl 2 rfl) ?_
          obtain ⟨h10, hf⟩ := dq_g hf
          refine va_fald (cA := y 0) (n := 36) (f := r_warms) hx hb hK hP 1 0 rfl rfl h10 dX7_coldest_51 ?_
          refine lv_fcmp hx hb dX7_coldest_52 ?_
          have J62 : ∀ (x11 : Int32), f_X7_coldest_b62 n0 r_warms x5 x6 (f_X7_coldest_b32 n0 r_warms r_refusals m32) x11 = some (z0, z1, z2) → ∀ (H : Heap) (locs : List Loc), va_P D vwCl (w_X7 y a r_airs r_sitters r_stepMany r_today r_taken r_isStill (0 : Int32) r_letterMany r_at0 r_isBad r_statements r_stepsMany r_hasImage r_place0 r_isTaking r_keptIn r_turned r_rowMany r_seed r_warms r_shutAt r_kinds0 r_figures r_airAt r_ways r_crowned r_sitsAt r_shawls r_isOn r_stepOf r_stepBy r_refusals r_letters r_placeIn r_letterOf r_numbers r_stepsRead r_stepsBy r_kept r_keptWarms r_i_imaged r_imagedWarms r_turns0 r_turnWarms0 r_turnOf r_turnWarms r_row0 r_gains r_pegSort r_pegMany r_pegHolds r_coats r_coatsMoved) H → va_D A (w_X7 y a r_airs r_sitters r_stepMany r_today r_taken r_isStill (0 : Int32) r_letterMany r_at0 r_isBad r_statements r_stepsMany r_hasImage r_place0 r_isTaking r_keptIn r_turned r_rowMany r_seed r_warms r_shutAt r_kinds0 r_figures r_airAt r_ways r_crowned r_sitsAt r_shawls r_isOn r_stepOf r_stepBy r_refusals r_letters r_placeIn r_letterOf r_numbers r_stepsRead r_stepsBy r_kept r_keptWarms r_i_imaged r_imagedWarms r_turns0 r_turnWarms0 r_turnOf r_turnWarms r_row0 r_gains r_pegSort r_pegMany r_pegHolds r_coats r_coatsMoved) → va_S A s.heap H locs → ∀ ls : Array Slot, lv_has ls 5 [(0, .ref (a 0)), (1, .int n0), (3, .int x5), (4, .int x6)] → W p l e ({ frames := 1, cells := 0, slots := 0, locals := 25 } : Room) s m [.ref (a 0), .int n0].toArray below meth c H locs 0 0 (MQ below (dQ D y (some (.int z0)) s.heap.size (w_X7 y a r_airs r_sitters r_stepMany r_today r_taken r_isStill r_thrown r_letterMany r_at0 r_isBad r_statements r_stepsMany r_hasImage r_place0 r_isTaking r_keptIn r_turned r_rowMany r_seed r_warms r_shutAt r_kinds0 r_figures r_airAt r_ways r_crowned r_sitsAt r_shawls r_isOn r_stepOf r_stepBy r_refusals r_letters r_placeIn r_letterOf r_numbers r_stepsRead r_stepsBy r_kept r_keptWarms r_i_imaged r_imagedWarms r_turns0 r_turnWarms0 r_turnOf r_turnWarms r_row0 r_gains r_pegSort r_pegMany r_pegHolds r_coats r_coatsMoved) (w_X7 y a r_airs r_sitters r_stepMany r_today r_taken r_isStill z1 r_letterMany r_at0 r_isBad r_statements r_stepsMany r_hasImage r_place0 r_isTaking r_keptIn r_turned r_rowMany r_seed r_warms r_shutAt r_kinds0 r_figures r_airAt r_ways r_crowned r_sitsAt r_shawls r_isOn r_stepOf r_stepBy z2 r_letters r_placeIn r_letterOf r_numbers r_stepsRead r_stepsBy r_kept r_keptWarms r_i_imaged r_imagedWarms r_turns0 r_turnWarms0 r_turnOf r_turnWarms r_row0 r_gains r_pegSort r_pegMany r_pegHolds r_coats r_coatsMoved)) [.ref (a 0), .int n0].toArray s 0 0 A) (F0 m 62 ls [.int x11]) := by
            intro x11 hf H locs hP hD hS ls hl
            unfold f_X7_coldest_b62 at hf
            refine lv_istore_n (lv' := [(2, .int x11), (0, .ref (a 0)), (1, .int n0), (3, .int x5), (4, .int x6)]) hx hb dX7_coldest_62 rfl hl (by decide) rfl (fun ls hl => ?_)
            refine lv_iload_n hx hb dX7_coldest_63 rfl (lv_at hl 3 rfl) ?_
            refine lv_iload_n hx hb dX7_coldest_64 rfl (lv_at hl 2 rfl) ?_
            refine lv_if_lt (tgt := 97) hx hb dX7_coldest_65 (by decide) (fun c12 => ?_) (fun c12 => ?_)
            · have hf := dq_t hf c12
              clear c12
              refine lv_iconst (v := 0) hx hb dX7_coldest_97 (by decide) ?_
              refine lv_iadd hx hb dX7_coldest_98 ?_
              refine lv_topi (fun x13 ex13 => ?_)
              have hf := dq_l hf x13 ex13
              clear ex13
              refine lv_istore_n (lv' := [(3, .int x13), (2, .int x11), (0, .ref (a 0)), (1, .int n0), (4, .int x6)]) hx hb dX7_coldest_99 rfl hl (by decide) rfl (fun ls hl => ?_)
              obtain ⟨x14, ex14⟩ : ∃ z : Int32, z = (x6 + (1 : Int32)) := ⟨_, rfl⟩
              have hf := dq_l hf x14 ex14
              refine lv_iinc (v := x14) (lv' := [(4, .int x14), (3, .int x13), (2, .int x11), (0, .ref (a 0)), (1, .int n0)]) hx hb dX7_coldest_100 hl (k := 4) rfl (by rw [ex14]; rfl) (by decide) rfl (fun ls hl => ?_)
              clear ex14
              refine lv_goto (tgt := 32) hx hb dX7_coldest_103 (by decide) ?_
              exact I32 _ _ _ hf _ _ hP hD hS _ (lv_sub hl [3, 4, 2, 1, 0] rfl)
            · have hf := dq_f hf c12
              clear c12
              refine lv_aload_n hx hb dX7_coldest_68 rfl (lv_at hl 1 rfl) ?_
              refine va_get (D := D) (ci := 6) (v := .ref (a 1)) (C := RX7) (T := TX7) (N := 53) hx hb hts iwX7 hown hK hP 0 rfl rfl 0 (by decide) (hts _ wl_81) (fun _ h9 => h9) rfl dX7_coldest_69 ?_
              refine lv_iload hx hb dX7_coldest_72 (lv_at hl 4 rfl) ?_
              obtain ⟨h15, hf⟩ := dq_g hf
              refine va_fald (cA := y 0) (n := 36) (f := r_warms) hx hb hK hP 1 0 rfl rfl h15 dX7_coldest_74 ?_
              refine lv_aload_n hx hb dX7_coldest_75 rfl (lv_at hl 1 rfl) ?_
              refine va_get (D := D) (ci := 6) (v := .ref (a 1)) (C := RX7) (T := TX7) (N := 53) hx hb hts iwX7 hown hK hP 0 rfl rfl 0 (by decide) (hts _ wl_81) (fun _ h9 => h9) rfl dX7_coldest_76 ?_
              refine lv_iload_n hx hb dX7_coldest_79 rfl (lv_at hl 2 rfl) ?_
              have J88 : ∀ (x16 : Int32) (x17 : UInt32) (x18 : Int32), f_X7_coldest_b88 r_warms x6 x11 (f_X7_coldest_b32 n0 r_warms r_refusals m32) x16 x17 x18 = some (z0, z1, z2) → ∀ (H : Heap) (locs : List Loc), va_P D vwCl (w_X7 y a r_airs r_sitters r_stepMany r_today r_taken r_isStill (0 : Int32) r_letterMany r_at0 r_isBad r_statements r_stepsMany r_hasImage r_place0 r_isTaking r_keptIn r_turned r_rowMany r_seed r_warms r_shutAt r_kinds0 r_figures r_airAt r_ways r_crowned r_sitsAt r_shawls r_isOn r_stepOf r_stepBy r_refusals r_letters r_placeIn r_letterOf r_numbers r_stepsRead r_stepsBy r_kept r_keptWarms r_i_imaged r_imagedWarms r_turns0 r_turnWarms0 r_turnOf r_turnWarms r_row0 r_gains r_pegSort r_pegMany r_pegHolds r_coats r_coatsMoved) H → va_D A (w_X7 y a r_airs r_sitters r_stepMany r_today r_taken r_isStill (0 : Int32) r_letterMany r_at0 r_isBad r_statements r_stepsMany r_hasImage r_place0 r_isTaking r_keptIn r_turned r_rowMany r_seed r_warms r_shutAt r_kinds0 r_figures r_airAt r_ways r_crowned r_sitsAt r_shawls r_isOn r_stepOf r_stepBy r_refusals r_letters r_placeIn r_letterOf r_numbers r_stepsRead r_stepsBy r_kept r_keptWarms r_i_imaged r_imagedWarms r_turns0 r_turnWarms0 r_turnOf r_turnWarms r_row0 r_gains r_pegSort r_pegMany r_pegHolds r_coats r_coatsMoved) → va_S A s.heap H locs → ∀ ls : Array Slot, lv_has ls 5 [(0, .ref (a 0)), (1, .int n0), (2, .int x11), (4, .int x6)] → W p l e ({ frames := 1, cells := 0, slots := 0, locals := 25 } : Room) s m [.ref (a 0), .int n0].toArray below meth c H locs 0 0 (MQ below (dQ D y (some (.int z0)) s.heap.size (w_X7 y a r_airs r_sitters r_stepMany r_today r_taken r_isStill r_thrown r_letterMany r_at0 r_isBad r_statements r_stepsMany r_hasImage r_place0 r_isTaking r_keptIn r_turned r_rowMany r_seed r_warms r_shutAt r_kinds0 r_figures r_airAt r_ways r_crowned r_sitsAt r_shawls r_isOn r_stepOf r_stepBy r_refusals r_letters r_placeIn r_letterOf r_numbers r_stepsRead r_stepsBy r_kept r_keptWarms r_i_imaged r_imagedWarms r_turns0 r_turnWarms0 r_turnOf r_turnWarms r_row0 r_gains r_pegSort r_pegMany r_pegHolds r_coats r_coatsMoved) (w_X7 y a r_airs r_sitters r_stepMany r_today r_taken r_isStill z1 r_letterMany r_at0 r_isBad r_statements r_stepsMany r_hasImage r_place0 r_isTaking r_keptIn r_turned r_rowMany r_seed r_warms r_shutAt r_kinds0 r_figures r_airAt r_ways r_crowned r_sitsAt r_shawls r_isOn r_stepOf r_stepBy z2 r_letters r_placeIn r_letterOf r_numbers r_stepsRead r_stepsBy r_kept r_keptWarms r_i_imaged r_imagedWarms r_turns0 r_turnWarms0 r_turnOf r_turnWarms r_row0 r_gains r_pegSort r_pegMany r_pegHolds r_coats r_coatsMoved)) [.ref (a 0), .int n0].toArray s 0 0 A) (F0 m 88 ls [.int x18, .ref (a 1), .float x17, .int x16]) := by
                intro x16 x17 x18 hf H locs hP hD hS ls hl
                unfold f_X7_coldest_b88 at hf
                obtain ⟨h19, hf⟩ := dq_g hf
                refine va_fald (cA := y 0) (n := 36) (f := r_warms) hx hb hK hP 1 0 rfl rfl h19 dX7_coldest_88 ?_
                refine lv_fcmp hx hb dX7_coldest_89 ?_
                refine lv_if_gt (tgt := 97) hx hb dX7_coldest_90 (by decide) (fun c20 => ?_) (fun c20 => ?_)
                · have hf := dq_t hf c20
                  clear c20
                  refine lv_iconst (v := 0) hx hb dX7_coldest_97 (by decide) ?_
                  refine lv_iadd hx hb dX7_coldest_98 ?_
                  refine lv_topi (fun x21 ex21 => ?_)
                  have hf := dq_l hf x21 ex21
                  clear ex21
                  refine lv_istore_n (lv' := [(3, .int x21), (0, .ref (a 0)), (1, .int n0), (2, .int x11), (4, .int x6)]) hx hb dX7_coldest_99 rfl hl (by decide) rfl (fun ls hl => ?_)
                  obtain ⟨x22, ex22⟩ : ∃ z : Int32, z = (x6 + (1 : Int32)) := ⟨_, rfl⟩
                  have hf := dq_l hf x22 ex22
                  refine lv_iinc (v := x22) (lv' := [(4, .int x22), (3, .int x21), (0, .ref (a 0)), (1, .int n0), (2, .int x11)]) hx hb dX7_coldest_100 hl (k := 4) rfl (by rw [ex22]; rfl) (by decide) rfl (fun ls hl => ?_)
                  clear ex22
                  refine lv_goto (tgt := 32) hx hb dX7_coldest_103 (by decide) ?_
                  exact I32 _ _ _ hf _ _ hP hD hS _ (lv_sub hl [2, 3, 4, 1, 0] rfl)
                · have hf := dq_f hf c20
                  clear c20
                  refine lv_iconst (v := 1) hx hb dX7_coldest_93 (by decide) ?_
                  refine lv_goto (tgt := 98) hx hb dX7_coldest_94 (by decide) ?_
                  refine lv_iadd hx hb dX7_coldest_98 ?_
                  refine lv_topi (fun x23 ex23 => ?_)
                  have hf := dq_l hf x23 ex23
                  clear ex23
                  refine lv_istore_n (lv' := [(3, .int x23), (0, .ref (a 0)), (1, .int n0), (2, .int x11), (4, .int x6)]) hx hb dX7_coldest_99 rfl hl (by decide) rfl (fun ls hl => ?_)
                  obtain ⟨x24, ex24⟩ : ∃ z : Int32, z = (x6 + (1 : Int32)) := ⟨_, rfl⟩
                  have hf := dq_l hf x24 ex24
                  refine lv_iinc (v := x24) (lv' := [(4, .int x24), (3, .int x23), (0, .ref (a 0)), (1, .int n0), (2, .int x11)]) hx hb dX7_coldest_100 hl (k := 4) rfl (by rw [ex24]; rfl) (by decide) rfl (fun ls hl => ?_)
                  clear ex24
                  refine lv_goto (tgt := 32) hx hb dX7_coldest_103 (by decide) ?_
                  exact I32 _ _ _ hf _ _ hP hD hS _ (lv_sub hl [2, 3, 4, 1, 0] rfl)
              refine lv_if_ge (tgt := 87) hx hb dX7_coldest_80 (by decide) (fun c25 => ?_) (fun c25 => ?_)
              · have hf := dq_t hf c25
                clear c25
                refine lv_iload_n hx hb dX7_coldest_87 rfl (lv_at hl 2 rfl) ?_
                exact J88 _ _ _ hf _ _ hP hD hS _ (lv_sub hl [1, 2, 0, 4] rfl)
              · have hf := dq_f hf c25
                clear c25
                refine lv_iconst (v := 0) hx hb dX7_coldest_83 (by decide) ?_
                refine lv_goto (tgt := 88) hx hb dX7_coldest_84 (by decide) ?_
                exact J88 _ _ _ hf _ _ hP hD hS _ (lv_sub hl [1, 2, 0, 4] rfl)
          refine lv_if_ge (tgt := 61) hx hb dX7_coldest_53 (by decide) (fun c26 => ?_) (fun c26 => ?_)
          · have hf := dq_t hf c26
            clear c26
            refine lv_iload_n hx hb dX7_coldest_61 rfl (lv_at hl 2 rfl) ?_
            exact J62 _ hf _ _ hP hD hS _ (lv_sub hl [0, 1, 3, 4] rfl)
          · have hf := dq_f hf c26
            clear c26
            refine lv_iload hx hb dX7_coldest_56 (lv_at hl 4 rfl) ?_
            refine lv_goto (tgt := 62) hx hb dX7_coldest_58 (by decide) ?_
            exact J62 _ hf _ _ hP hD hS _ (lv_sub hl [0, 1, 3, 4] rfl)
    exact J32 4096 _ _ _ hf _ _ hP hD hS _ (lv_sub hl [3, 4, 2, 1, 0] rfl)
  · have hf := dq_t hf c3
    clear c3
    refine lv_aload_n hx hb dX7_coldest_19 rfl (lv_at hl 0 rfl) ?_
    refine lv_iconst (v := -1) hx hb dX7_coldest_20 (by decide) ?_
    obtain ⟨x27, r_refusals_28, hy29, hf⟩ := dq_b2 hf
    refine ct_callV0 (ci := 6) (q0 := 0) (own := RX7) (As := [.int (-1 : Int32)]) (rest := []) (ws' := (w_X7 y a r_airs r_sitters r_stepMany r_today r_taken r_isStill (0 : Int32) r_letterMany r_at0 r_isBad r_statements r_stepsMany r_hasImage r_place0 r_isTaking r_keptIn r_turned r_rowMany r_seed r_warms r_shutAt r_kinds0 r_figures r_airAt r_ways r_crowned r_sitsAt r_shawls r_isOn r_stepOf r_stepBy r_refusals_28 r_letters r_placeIn r_letterOf r_numbers r_stepsRead r_stepsBy r_kept r_keptWarms r_i_imaged r_imagedWarms r_turns0 r_turnWarms0 r_turnOf r_turnWarms r_row0 r_gains r_pegSort r_pegMany r_pegHolds r_coats r_coatsMoved)) ⟨hx, hb, hml, hown, hts⟩ (m_X7_refuse l D y a r_airs r_sitters r_stepMany r_today r_taken r_isStill (0 : Int32) r_letterMany r_at0 r_isBad r_statements r_stepsMany r_hasImage r_place0 r_isTaking r_keptIn r_turned r_rowMany r_seed r_warms r_shutAt r_kinds0 r_figures r_airAt r_ways r_crowned r_sitsAt r_shawls r_isOn r_stepOf r_stepBy r_refusals r_letters r_placeIn r_letterOf r_numbers r_stepsRead r_stepsBy r_kept r_keptWarms r_i_imaged r_imagedWarms r_turns0 r_turnWarms0 r_turnOf r_turnWarms r_row0 r_gains r_pegSort r_pegMany r_pegHolds r_coats r_coatsMoved (-1 : Int32) x27 r_refusals_28 hy29) (cwV 1 hts (gA_V wl_133 wl_134 wl_135 wl_5 wl_136) rfl rfl rfl (by decide +kernel) ⟨Nat.le_of_ble_eq_true rfl, Nat.le_of_ble_eq_true rfl⟩) rfl rfl rfl hl.1 rfl (Nat.le_of_ble_eq_true rfl) dX7_coldest_21 ⟨Nat.zero_le _, Nat.zero_le _⟩ hK hP hD hS hA (fun H locs hP hD hS => ?_)
    obtain ⟨rfl, rfl, rfl⟩ := dq_r3 hf
    exact ct_iret hx hb hr hlocks hAe hP hK hD hS dX7_coldest_24
noncomputable def f_X7_sum_b26 (n0 : Int32) (r_warms : (Nat → UInt32)) (r_refusals : (Nat → Int32))  : Nat → UInt32 → Int32 → Option (Int32 × Int32 × (Nat → Int32))
  | 0, _, _ => none
  | m26 + 1, x4, x5 => dq_if ((36 : Int32) ≤ x5) (dq_gd (vf_n32 (FP.fdiv x4 (1108344832 : UInt32))) (dq_let (FP.fdiv x4 (1108344832 : UInt32)) (fun (x8 : UInt32) => dq_if (n0 = 0) (dq_bd (f_Jxf58ca_floatToIntBits_5c35a x4) (fun (x12 : Int32) => some (x12, (0 : Int32), r_refusals))) (dq_gd (vf_n32 (FP.fmul x8 (1120403456 : UInt32))) (dq_let (FP.fmul x8 (1120403456 : UInt32)) (fun (x11 : UInt32) => some ((FP.f2i x11), (0 : Int32), r_refusals))))))) (dq_gd (vp_in x5 36) (dq_gd (vf_n32 (FP.fadd x4 (r_warms x5.toNatClampNeg))) (dq_let (FP.fadd x4 (r_warms x5.toNatClampNeg)) (fun (x16 : UInt32) => dq_let (x5 + (1 : Int32)) (fun (x17 : Int32) => (f_X7_sum_b26 n0 r_warms r_refusals m26) x16 x17)))))
noncomputable def f_X7_sum (r_warms : (Nat → UInt32)) (r_refusals : (Nat → Int32)) (n0 : Int32) : Option (Int32 × Int32 × (Nat → Int32)) := dq_bd (f_X7_in n0.toInt64 (0 : Int64) (1 : Int64)) (fun (x1 : Int32) => dq_if (x1 = 0) (dq_bd2 (f_X7_refuse r_refusals (-2 : Int32)) (fun (x18 : Int32) (r_refusals_19 : (Nat → Int32)) => some (x18, (0 : Int32), r_refusals_19))) (f_X7_sum_b26 n0 r_warms r_refusals 4096 FP.fconst0 (0 : Int32)))
def wA_X7_sum : List Cond := .code yX7_sum cX7_sum 4 (some .int) :: wsL_law
-- DraughtsTakeModel.sum(I)I
set_option maxHeartbeats 4000000 in
set_option maxRecDepth 100000 in
theorem m_X7_sum (l : Launch) (D : va_G) (y : Nat → ClassId) (a : (Nat → Nat)) (r_airs : Int32) (r_sitters : Int32) (r_stepMany : Int32) (r_today : Int32) (r_taken : Int32) (r_isStill : Int32) (r_thrown : Int32) (r_letterMany : Int32) (r_at0 : Int32) (r_isBad : Int32) (r_statements : Int32) (r_stepsMany : Int32) (r_hasImage : Int32) (r_place0 : Int32) (r_isTaking : Int32) (r_keptIn : Value) (r_turned : Int32) (r_rowMany : Int32) (r_seed : Int32) (r_warms : (Nat → UInt32)) (r_shutAt : (Nat → Int32)) (r_kinds0 : (Nat → Int32)) (r_figures : (Nat → Int32)) (r_airAt : (Nat → Int32)) (r_ways : (Nat → Int32)) (r_crowned : (Nat → Int32)) (r_sitsAt : (Nat → Int32)) (r_shawls : (Nat → Int32)) (r_isOn : (Nat → Int32)) (r_stepOf : (Nat → Int32)) (r_stepBy : (Nat → Int32)) (r_refusals : (Nat → Int32)) (r_letters : (Nat → Int32)) (r_placeIn : (Nat → Int32)) (r_letterOf : (Nat → Int32)) (r_numbers : (Nat → Int32)) (r_stepsRead : (Nat → Int32)) (r_stepsBy : (Nat → Int32)) (r_kept : (Nat → Int32)) (r_keptWarms : (Nat → UInt32)) (r_i_imaged : (Nat → Int32)) (r_imagedWarms : (Nat → UInt32)) (r_turns0 : (Nat → Int32)) (r_turnWarms0 : (Nat → UInt32)) (r_turnOf : (Nat → Int32)) (r_turnWarms : (Nat → UInt32)) (r_row0 : (Nat → Int32)) (r_gains : (Nat → Int32)) (r_pegSort : (Nat → Int32)) (r_pegMany : (Nat → Int32)) (r_pegHolds : (Nat → Int32)) (r_coats : (Nat → Int32)) (r_coatsMoved : (Nat → Int32)) (n0 : Int32) (z0 : Int32) (z1 : Int32) (z2 : (Nat → Int32)) (hf : f_X7_sum r_warms r_refusals n0 = some (z0, z1, z2)) : Ct l D y yX7_sum wA_X7_sum 2 43 [.ref (a 0), .int n0] (w_X7 y a r_airs r_sitters r_stepMany r_today r_taken r_isStill r_thrown r_letterMany r_at0 r_isBad r_statements r_stepsMany r_hasImage r_place0 r_isTaking r_keptIn r_turned r_rowMany r_seed r_warms r_shutAt r_kinds0 r_figures r_airAt r_ways r_crowned r_sitsAt r_shawls r_isOn r_stepOf r_stepBy r_refusals r_letters r_placeIn r_letterOf r_numbers r_stepsRead r_stepsBy r_kept r_keptWarms r_i_imaged r_imagedWarms r_turns0 r_turnWarms0 r_turnOf r_turnWarms r_row0 r_gains r_pegSort r_pegMany r_pegHolds r_coats r_coatsMoved) (w_X7 y a r_airs r_sitters r_stepMany r_today r_taken r_isStill z1 r_letterMany r_at0 r_isBad r_statements r_stepsMany r_hasImage r_place0 r_isTaking r_keptIn r_turned r_rowMany r_seed r_warms r_shutAt r_kinds0 r_figures r_airAt r_ways r_crowned r_sitsAt r_shawls r_isOn r_stepOf r_stepBy z2 r_letters r_placeIn r_letterOf r_numbers r_stepsRead r_stepsBy r_kept r_keptWarms r_i_imaged r_imagedWarms r_turns0 r_turnWarms0 r_turnOf r_turnWarms r_row0 r_gains r_pegSort r_pegMany r_pegHolds r_coats r_coatsMoved) (some (.int z0)) := by
  refine ct_head (cc := cX7_sum) (n := 4) (ret := (some .int)) (by decide) rfl (Nat.le_of_ble_eq_true rfl) ?_
  intro p e s m below meth c A ls hx hb hr hml hown hlocks hts hA hAe hP hK hD hl
  have hS : va_S A s.heap s.heap [] := va_S.rf
  have hl : lv_has ls 4 [(0, .ref (a 0)), (1, .int n0)] := hl
  have hown : s.vm.findClass RX7 = some m.cls := hown
  have hts : ∀ w ∈ wsL_law, w.before [.ref (a 0), .int n0].toArray s = true := fun w h => hts w (List.mem_cons_of_mem _ h)
  unfold f_X7_sum at hf
  refine lv_aload_n hx hb dX7_sum_0 rfl (lv_at hl 0 rfl) ?_
  refine lv_iconst (v := 0) hx hb dX7_sum_1 (by decide) ?_
  refine va_put (D := D) (ci := 6) (v := .int (0 : Int32)) (ty := .int) (C := RX7) (T := TX7) (N := 53) hx hb hts iwX7 tyX7 tyX7_ok nmX7 hown hK hP hD hS 0 rfl rfl 18 (by decide) (hts _ wl_116) (fun _ h9 => h9) rfl (tyX7_ok 18 (by decide)) rfl rfl (Nat.le_of_ble_eq_true rfl) dX7_sum_2 (fun H locs hP hD hS => ?_)
  have hP : va_P D vwCl (w_X7 y a r_airs r_sitters r_stepMany r_today r_taken r_isStill (0 : Int32) r_letterMany r_at0 r_isBad r_statements r_stepsMany r_hasImage r_place0 r_isTaking r_keptIn r_turned r_rowMany r_seed r_warms r_shutAt r_kinds0 r_figures r_airAt r_ways r_crowned r_sitsAt r_shawls r_isOn r_stepOf r_stepBy r_refusals r_letters r_placeIn r_letterOf r_numbers r_stepsRead r_stepsBy r_kept r_keptWarms r_i_imaged r_imagedWarms r_turns0 r_turnWarms0 r_turnOf r_turnWarms r_row0 r_gains r_pegSort r_pegMany r_pegHolds r_coats r_coatsMoved) H := hP
  have hD : va_D A (w_X7 y a r_airs r_sitters r_stepMany r_today r_taken r_isStill (0 : Int32) r_letterMany r_at0 r_isBad r_statements r_stepsMany r_hasImage r_place0 r_isTaking r_keptIn r_turned r_rowMany r_seed r_warms r_shutAt r_kinds0 r_figures r_airAt r_ways r_crowned r_sitsAt r_shawls r_isOn r_stepOf r_stepBy r_refusals r_letters r_placeIn r_letterOf r_numbers r_stepsRead r_stepsBy r_kept r_keptWarms r_i_imaged r_imagedWarms r_turns0 r_turnWarms0 r_turnOf r_turnWarms r_row0 r_gains r_pegSort r_pegMany r_pegHolds r_coats r_coatsMoved) := hD
  refine lv_iload_n hx hb dX7_sum_5 rfl (lv_at hl 1 rfl) ?_
  refine lv_i2l hx hb dX7_sum_6 rfl ?_
  refine lv_lconst (v := 0) hx hb dX7_sum_7 (by decide) ?_
  refine lv_lconst (v := 1) hx hb dX7_sum_8 (by decide) ?_
  obtain ⟨x1, hy2, hf⟩ := dq_b hf
  refine ct_callS0 (own := RX7) (As := [.long n0.toInt64, .long (0 : Int64), .long (1 : Int64)]) (rest := []) ⟨hx, hb, hml, hown, hts⟩ (m_X7_in l D y n0.toInt64 (0 : Int64) (1 : Int64) x1 hy2) (va_cwS 3 hts (gA_S wl_391 wl_392 wl_5 wl_393) rfl rfl rfl (by decide +kernel) ⟨Nat.le_of_ble_eq_true rfl, Nat.le_of_ble_eq_true rfl⟩) rfl hl.1 rfl (Nat.le_of_ble_eq_true rfl) dX7_sum_9 ⟨Nat.zero_le _, Nat.zero_le _⟩ hK hP hD hS hA (fun H locs hP hD hS => ?_)
  refine lv_if_ne (tgt := 22) hx hb dX7_sum_12 (by decide) (fun c3 => ?_) (fun c3 => ?_)
  · have hf := dq_f hf c3
    clear c3
    refine lv_fconst0 hx hb dX7_sum_22 ?_
    refine lv_fstore_n (lv' := [(2, .float FP.fconst0), (0, .ref (a 0)), (1, .int n0)]) hx hb dX7_sum_23 rfl hl (by decide) rfl (fun ls hl => ?_)
    refine lv_iconst (v := 0) hx hb dX7_sum_24 (by decide) ?_
    refine lv_istore_n (lv' := [(3, .int (0 : Int32)), (2, .float FP.fconst0), (0, .ref (a 0)), (1, .int n0)]) hx hb dX7_sum_25 rfl hl (by decide) rfl (fun ls hl => ?_)
    have J26 : ∀ (m26 : Nat) (x4 : UInt32) (x5 : Int32), f_X7_sum_b26 n0 r_warms r_refusals m26 x4 x5 = some (z0, z1, z2) → ∀ (H : Heap) (locs : List Loc), va_P D vwCl (w_X7 y a r_airs r_sitters r_stepMany r_today r_taken r_isStill (0 : Int32) r_letterMany r_at0 r_isBad r_statements r_stepsMany r_hasImage r_place0 r_isTaking r_keptIn r_turned r_rowMany r_seed r_warms r_shutAt r_kinds0 r_figures r_airAt r_ways r_crowned r_sitsAt r_shawls r_isOn r_stepOf r_stepBy r_refusals r_letters r_placeIn r_letterOf r_numbers r_stepsRead r_stepsBy r_kept r_keptWarms r_i_imaged r_imagedWarms r_turns0 r_turnWarms0 r_turnOf r_turnWarms r_row0 r_gains r_pegSort r_pegMany r_pegHolds r_coats r_coatsMoved) H → va_D A (w_X7 y a r_airs r_sitters r_stepMany r_today r_taken r_isStill (0 : Int32) r_letterMany r_at0 r_isBad r_statements r_stepsMany r_hasImage r_place0 r_isTaking r_keptIn r_turned r_rowMany r_seed r_warms r_shutAt r_kinds0 r_figures r_airAt r_ways r_crowned r_sitsAt r_shawls r_isOn r_stepOf r_stepBy r_refusals r_letters r_placeIn r_letterOf r_numbers r_stepsRead r_stepsBy r_kept r_keptWarms r_i_imaged r_imagedWarms r_turns0 r_turnWarms0 r_turnOf r_turnWarms r_row0 r_gains r_pegSort r_pegMany r_pegHolds r_coats r_coatsMoved) → va_S A s.heap H locs → ∀ ls : Array Slot, lv_has ls 4 [(0, .ref (a 0)), (1, .int n0), (2, .float x4), (3, .int x5)] → W p l e ({ frames := 2, cells := 0, slots := 0, locals := 43 } : Room) s m [.ref (a 0), .int n0].toArray below meth c H locs 0 0 (MQ below (dQ D y (some (.int z0)) s.heap.size (w_X7 y a r_airs r_sitters r_stepMany r_today r_taken r_isStill r_thrown r_letterMany r_at0 r_isBad r_statements r_stepsMany r_hasImage r_place0 r_isTaking r_keptIn r_turned r_rowMany r_seed r_warms r_shutAt r_kinds0 r_figures r_airAt r_ways r_crowned r_sitsAt r_shawls r_isOn r_stepOf r_stepBy r_refusals r_letters r_placeIn r_letterOf r_numbers r_stepsRead r_stepsBy r_kept r_keptWarms r_i_imaged r_imagedWarms r_turns0 r_turnWarms0 r_turnOf r_turnWarms r_row0 r_gains r_pegSort r_pegMany r_pegHolds r_coats r_coatsMoved) (w_X7 y a r_airs r_sitters r_stepMany r_today r_taken r_isStill z1 r_letterMany r_at0 r_isBad r_statements r_stepsMany r_hasImage r_place0 r_isTaking r_keptIn r_turned r_rowMany r_seed r_warms r_shutAt r_kinds0 r_figures r_airAt r_ways r_crowned r_sitsAt r_shawls r_isOn r_stepOf r_stepBy z2 r_letters r_placeIn r_letterOf r_numbers r_stepsRead r_stepsBy r_kept r_keptWarms r_i_imaged r_imagedWarms r_turns0 r_turnWarms0 r_turnOf r_turnWarms r_row0 r_gains r_pegSort r_pegMany r_pegHolds r_coats r_coatsMoved)) [.ref (a 0), .int n0].toArray s 0 0 A) (F0 m 26 ls []) := by
      intro m26
      induction m26 with
      | zero => intro x4 x5 hf; exact absurd hf (by unfold f_X7_sum_b26; exact fun h => by cases h)
      | succ m26 I26 =>
        intro x4 x5 hf H locs hP hD hS ls hl
        unfold f_X7_sum_b26 at hf
        refine lv_iload_n hx hb dX7_sum_26 rfl (lv_at hl 3 rfl) ?_
        refine lv_bipush (v := 36) hx hb dX7_sum_27 (by decide) ?_
        refine lv_icmp_ge (tgt := 47) hx hb dX7_sum_29 (by decide) (fun c6 => ?_) (fun c6 => ?_)
        · have hf := dq_t hf c6
          clear c6
          refine lv_fload_n hx hb dX7_sum_47 rfl (lv_at hl 2 rfl) ?_
          refine lv_ldcwf hx hb hown (hts _ wl_946) dX7_sum_48 ?_
          obtain ⟨h7, hf⟩ := dq_g hf
          refine lv_fdiv hx hb dX7_sum_51 h7 ?_
          refine lv_topf (fun x8 ex8 => ?_)
          have hf := dq_l hf x8 ex8
          clear ex8
          refine lv_fstore_n (lv' := [(3, .float x8), (0, .ref (a 0)), (1, .int n0), (2, .float x4)]) hx hb dX7_sum_52 rfl hl (by decide) rfl (fun ls hl => ?_)
          refine lv_iload_n hx hb dX7_sum_53 rfl (lv_at hl 2 rfl) ?_
          refine lv_if_ne (tgt := 64) hx hb dX7_sum_54 (by decide) (fun c9 => ?_) (fun c9 => ?_)
          · have hf := dq_f hf c9
            clear c9
            refine lv_fload_n hx hb dX7_sum_64 rfl (lv_at hl 0 rfl) ?_
            refine lv_ldcf hx hb hown (hts _ wl_480) dX7_sum_65 ?_
            obtain ⟨h10, hf⟩ := dq_g hf
            refine lv_fmul hx hb dX7_sum_67 h10 ?_
            refine lv_topf (fun x11 ex11 => ?_)
            have hf := dq_l hf x11 ex11
            clear ex11
            refine lv_f2i hx hb dX7_sum_68 ?_
            obtain ⟨rfl, rfl, rfl⟩ := dq_r3 hf
            exact ct_iret hx hb hr hlocks hAe hP hK hD hS dX7_sum_69
          · have hf := dq_t hf c9
            clear c9
            refine lv_fload_n hx hb dX7_sum_57 rfl (lv_at hl 3 rfl) ?_
            obtain ⟨x12, hy13, hf⟩ := dq_b hf
            refine ct_callS0 (own := RX7) (As := [.float x4]) (rest := []) ⟨hx, hb, hml, hown, hts⟩ (m_Jxf58ca_floatToIntBits_5c35a l D y x4 x12 hy13) (va_cwS 1 hts (gA_S wl_604 wl_605 wl_606 wl_607) rfl rfl rfl (by decide +kernel) ⟨Nat.le_of_ble_eq_true rfl, Nat.le_of_ble_eq_true rfl⟩) rfl hl.1 rfl (Nat.le_of_ble_eq_true rfl) dX7_sum_58 ⟨Nat.zero_le _, Nat.zero_le _⟩ hK hP hD hS hA (fun H locs hP hD hS => ?_)
            refine lv_goto (tgt := 69) hx hb dX7_sum_61 (by decide) ?_
            obtain ⟨rfl, rfl, rfl⟩ := dq_r3 hf
            exact ct_iret hx hb hr hlocks hAe hP hK hD hS dX7_sum_69
        · have hf := dq_f hf c6
          clear c6
          refine lv_fload_n hx hb dX7_sum_32 rfl (lv_at hl 2 rfl) ?_
          refine lv_aload_n hx hb dX7_sum_33 rfl (lv_at hl 0 rfl) ?_
          refine va_get (D := D) (ci := 6) (v := .ref (a 1)) (C := RX7) (T := TX7) (N := 53) hx hb hts iwX7 hown hK hP 0 rfl rfl 0 (by decide) (hts _ wl_81) (fun _ h9 => h9) rfl dX7_sum_34 ?_
          refine lv_iload_n hx hb dX7_sum_37 rfl (lv_at hl 3 rfl) ?_
          obtain ⟨h14, hf⟩ := dq_g hf
          refine va_fald (cA := y 0) (n := 36) (f := r_warms) hx hb hK hP 1 0 rfl rfl h14 dX7_sum_38 ?_
          obtain ⟨h15, hf⟩ := dq_g hf
          refine lv_fadd hx hb dX7_sum_39 h15 ?_
          refine lv_topf (fun x16 ex16 => ?_)
          have hf := dq_l hf x16 ex16
          clear ex16
          refine lv_fstore_n (lv' := [(2, .float x16), (0, .ref (a 0)), (1, .int n0), (3, .int x5)]) hx hb dX7_sum_40 rfl hl (by decide) rfl (fun ls hl => ?_)
          obtain ⟨x17, ex17⟩ : ∃ z : Int32, z = (x5 + (1 : Int32)) := ⟨_, rfl⟩
          have hf := dq_l hf x17 ex17
          refine lv_iinc (v := x17) (lv' := [(3, .int x17), (2, .float x16), (0, .ref (a 0)), (1, .int n0)]) hx hb dX7_sum_41 hl (k := 3) rfl (by rw [ex17]; rfl) (by decide) rfl (fun ls hl => ?_)
          clear ex17
          refine lv_goto (tgt := 26) hx hb dX7_sum_44 (by decide) ?_
          exact I26 _ _ hf _ _ hP hD hS _ (lv_sub hl [2, 3, 1, 0] rfl)
    exact J26 4096 _ _ hf _ _ hP hD hS _ (lv_sub hl [2, 3, 1, 0] rfl)
  · have hf := dq_t hf c3
    clear c3
    refine lv_aload_n hx hb dX7_sum_15 rfl (lv_at hl 0 rfl) ?_
    refine lv_bipush (v := -2) hx hb dX7_sum_16 (by decide) ?_
    obtain ⟨x18, r_refusals_19, hy20, hf⟩ := dq_b2 hf
    refine ct_callV0 (ci := 6) (q0 := 0) (own := RX7) (As := [.int (-2 : Int32)]) (rest := []) (ws' := (w_X7 y a r_airs r_sitters r_stepMany r_today r_taken r_isStill (0 : Int32) r_letterMany r_at0 r_isBad r_statements r_stepsMany r_hasImage r_place0 r_isTaking r_keptIn r_turned r_rowMany r_seed r_warms r_shutAt r_kinds0 r_figures r_airAt r_ways r_crowned r_sitsAt r_shawls r_isOn r_stepOf r_stepBy r_refusals_19 r_letters r_placeIn r_letterOf r_numbers r_stepsRead r_stepsBy r_kept r_keptWarms r_i_imaged r_imagedWarms r_turns0 r_turnWarms0 r_turnOf r_turnWarms r_row0 r_gains r_pegSort r_pegMany r_pegHolds r_coats r_coatsMoved)) ⟨hx, hb, hml, hown, hts⟩ (m_X7_refuse l D y a r_airs r_sitters r_stepMany r_today r_taken r_isStill (0 : Int32) r_letterMany r_at0 r_isBad r_statements r_stepsMany r_hasImage r_place0 r_isTaking r_keptIn r_turned r_rowMany r_seed r_warms r_shutAt r_kinds0 r_figures r_airAt r_ways r_crowned r_sitsAt r_shawls r_isOn r_stepOf r_stepBy r_refusals r_letters r_placeIn r_letterOf r_numbers r_stepsRead r_stepsBy r_kept r_keptWarms r_i_imaged r_imagedWarms r_turns0 r_turnWarms0 r_turnOf r_turnWarms r_row0 r_gains r_pegSort r_pegMany r_pegHolds r_coats r_coatsMoved (-2 : Int32) x18 r_refusals_19 hy20) (cwV 1 hts (gA_V wl_133 wl_134 wl_135 wl_5 wl_136) rfl rfl rfl (by decide +kernel) ⟨Nat.le_of_ble_eq_true rfl, Nat.le_of_ble_eq_true rfl⟩) rfl rfl rfl hl.1 rfl (Nat.le_of_ble_eq_true rfl) dX7_sum_18 ⟨Nat.zero_le _, Nat.zero_le _⟩ hK hP hD hS hA (fun H locs hP hD hS => ?_)
    obtain ⟨rfl, rfl, rfl⟩ := dq_r3 hf
    exact ct_iret hx hb hr hlocks hAe hP hK hD hS dX7_sum_21
noncomputable def f_X7_far (n0 : Int32) (n1 : Int32) : Option Int32 := dq_if (n1 ≤ n0) (some (n0 - n1)) (some (n1 - n0))
def wA_X7_far : List Cond := .code yX7_far cX7_far 2 (some .int) :: wsL_law
-- DraughtsTakeModel.far(II)I
set_option maxHeartbeats 4000000 in
set_option maxRecDepth 100000 in
theorem m_X7_far (l : Launch) (D : va_G) (y : Nat → ClassId) (n0 : Int32) (n1 : Int32) (z0 : Int32) (hf : f_X7_far n0 n1 = some z0) : Ct l D y yX7_far wA_X7_far 0 0 [.int n0, .int n1] [] [] (some (.int z0)) := by
  refine ct_head (cc := cX7_far) (n := 2) (ret := (some .int)) (by decide) rfl (Nat.le_of_ble_eq_true rfl) ?_
  intro p e s m below meth c A ls hx hb hr hml hown hlocks hts hA hAe hP hK hD hl
  have hS : va_S A s.heap s.heap [] := va_S.rf
  have hl : lv_has ls 2 [(0, .int n0), (1, .int n1)] := hl
  have hown : s.vm.findClass RX7 = some m.cls := hown
  have hts : ∀ w ∈ wsL_law, w.before [.int n0, .int n1].toArray s = true := fun w h => hts w (List.mem_cons_of_mem _ h)
  unfold f_X7_far at hf
  refine lv_iload_n hx hb dX7_far_0 rfl (lv_at hl 0 rfl) ?_
  refine lv_iload_n hx hb dX7_far_1 rfl (lv_at hl 1 rfl) ?_
  refine lv_icmp_ge (tgt := 11) hx hb dX7_far_2 (by decide) (fun c1 => ?_) (fun c1 => ?_)
  · have hf := dq_t hf c1
    clear c1
    refine lv_iload_n hx hb dX7_far_11 rfl (lv_at hl 0 rfl) ?_
    refine lv_iload_n hx hb dX7_far_12 rfl (lv_at hl 1 rfl) ?_
    refine lv_isub hx hb dX7_far_13 ?_
    obtain rfl := dq_r1 hf
    exact ct_iret hx hb hr hlocks hAe hP hK hD hS dX7_far_14
  · have hf := dq_f hf c1
    clear c1
    refine lv_iload_n hx hb dX7_far_5 rfl (lv_at hl 1 rfl) ?_
    refine lv_iload_n hx hb dX7_far_6 rfl (lv_at hl 0 rfl) ?_
    refine lv_isub hx hb dX7_far_7 ?_
    refine lv_goto (tgt := 14) hx hb dX7_far_8 (by decide) ?_
    obtain rfl := dq_r1 hf
    exact ct_iret hx hb hr hlocks hAe hP hK hD hS dX7_far_14
