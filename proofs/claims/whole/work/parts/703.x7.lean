noncomputable def f_X7_leapsOnce_b121 (n0 : Int32) (r_today : Int32) (r_warms : (Nat → UInt32)) (r_kinds0 : (Nat → Int32)) (r_figures : (Nat → Int32)) (r_airAt : (Nat → Int32)) (r_ways : (Nat → Int32)) (r_shawls : (Nat → Int32)) (r_isOn : (Nat → Int32)) (x7 : Int32) (x12 : Int32) (x14 : Int32) (x21 : Int32)  (x24 : Int32) (x25 : Int32) : Option (Int32 × Int32 × (Nat → UInt32) × (Nat → Int32) × (Nat → Int32) × (Nat → Int32) × (Nat → Int32)) := dq_gd (vp_in x24 6) (dq_let (upd r_isOn x24.toNatClampNeg x25) (fun (r_isOn_27 : (Nat → Int32)) => dq_gd (vp_in x14 6) (dq_bd (f_X7_held ((r_shawls x14.toNatClampNeg) - (1 : Int32)) (9 : Int32)) (fun (x29 : Int32) => dq_gd (vp_in x14 6) (dq_let (upd r_shawls x14.toNatClampNeg x29) (fun (r_shawls_32 : (Nat → Int32)) => dq_bd3 (f_X7_airComes r_today r_warms r_kinds0 r_figures r_airAt r_ways n0 x12 x7) (fun (r_warms_33 : (Nat → UInt32)) (r_airAt_34 : (Nat → Int32)) (r_ways_35 : (Nat → Int32)) => some ((1 : Int32), x21, r_warms_33, r_airAt_34, r_ways_35, r_shawls_32, r_isOn_27))))))))
noncomputable def f_X7_leapsOnce_b68 (n0 : Int32) (r_airs : Int32) (r_sitters : Int32) (r_today : Int32) (r_taken : Int32) (r_warms : (Nat → UInt32)) (r_shutAt : (Nat → Int32)) (r_kinds0 : (Nat → Int32)) (r_figures : (Nat → Int32)) (r_airAt : (Nat → Int32)) (r_ways : (Nat → Int32)) (r_sitsAt : (Nat → Int32)) (r_shawls : (Nat → Int32)) (r_isOn : (Nat → Int32)) (x1 : Int32) (x7 : Int32) (x12 : Int32) (k2 : (Int32 → Option (Int32 × Int32 × (Nat → UInt32) × (Nat → Int32) × (Nat → Int32) × (Nat → Int32) × (Nat → Int32)))) (x14 : Int32) : Option (Int32 × Int32 × (Nat → UInt32) × (Nat → Int32) × (Nat → Int32) × (Nat → Int32) × (Nat → Int32)) := dq_if (x14 < 0) (dq_let (x1 + (1 : Int32)) (fun (x16 : Int32) => k2 x16)) (dq_bd (f_X7_isFree r_airs r_sitters r_shutAt r_airAt r_sitsAt r_isOn x12) (fun (x17 : Int32) => dq_if (x17 = 0) (dq_let (x1 + (1 : Int32)) (fun (x20 : Int32) => k2 x20)) (dq_bd (f_X7_held (r_taken + (1 : Int32)) (9999 : Int32)) (fun (x21 : Int32) => dq_gd (vp_in x14 6) (dq_if ((r_shawls x14.toNatClampNeg) = 0) (f_X7_leapsOnce_b121 n0 r_today r_warms r_kinds0 r_figures r_airAt r_ways r_shawls r_isOn x7 x12 x14 x21 x14 (0 : Int32)) (f_X7_leapsOnce_b121 n0 r_today r_warms r_kinds0 r_figures r_airAt r_ways r_shawls r_isOn x7 x12 x14 x21 x14 (1 : Int32)))))))
noncomputable def f_X7_leapsOnce_b2 (n0 : Int32) (r_airs : Int32) (r_sitters : Int32) (r_today : Int32) (r_taken : Int32) (r_warms : (Nat → UInt32)) (r_shutAt : (Nat → Int32)) (r_kinds0 : (Nat → Int32)) (r_figures : (Nat → Int32)) (r_airAt : (Nat → Int32)) (r_ways : (Nat → Int32)) (r_crowned : (Nat → Int32)) (r_sitsAt : (Nat → Int32)) (r_shawls : (Nat → Int32)) (r_isOn : (Nat → Int32))  : Nat → Int32 → Option (Int32 × Int32 × (Nat → UInt32) × (Nat → Int32) × (Nat → Int32) × (Nat → Int32) × (Nat → Int32))
  | 0, _ => none
  | m2 + 1, x1 => dq_gd (vp_in n0 5) (dq_bd (f_X7_triesOf (r_crowned n0.toNatClampNeg)) (fun (x3 : Int32) => dq_if (x3 ≤ x1) (some ((0 : Int32), r_taken, r_warms, r_airAt, r_ways, r_shawls, r_isOn)) (dq_gd (vp_in n0 5) (dq_let (((r_ways n0.toNatClampNeg) + x1) - ((r_ways n0.toNatClampNeg) + x1) / (4 : Int32) * (4 : Int32)) (fun (x7 : Int32) => dq_gd (vp_in n0 5) (dq_bd (f_X7_awayOf (r_airAt n0.toNatClampNeg) x7 (1 : Int32)) (fun (x9 : Int32) => dq_gd (vp_in n0 5) (dq_bd (f_X7_awayOf (r_airAt n0.toNatClampNeg) x7 (2 : Int32)) (fun (x12 : Int32) => dq_if (0 ≤ x12) (dq_bd (f_X7_sitterOn r_sitters r_sitsAt r_isOn x9) (fun (x39 : Int32) => f_X7_leapsOnce_b68 n0 r_airs r_sitters r_today r_taken r_warms r_shutAt r_kinds0 r_figures r_airAt r_ways r_sitsAt r_shawls r_isOn x1 x7 x12 (f_X7_leapsOnce_b2 n0 r_airs r_sitters r_today r_taken r_warms r_shutAt r_kinds0 r_figures r_airAt r_ways r_crowned r_sitsAt r_shawls r_isOn m2) x39)) (f_X7_leapsOnce_b68 n0 r_airs r_sitters r_today r_taken r_warms r_shutAt r_kinds0 r_figures r_airAt r_ways r_sitsAt r_shawls r_isOn x1 x7 x12 (f_X7_leapsOnce_b2 n0 r_airs r_sitters r_today r_taken r_warms r_shutAt r_kinds0 r_figures r_airAt r_ways r_crowned r_sitsAt r_shawls r_isOn m2) (-9 : Int32)))))))))))
noncomputable def f_X7_leapsOnce (r_airs : Int32) (r_sitters : Int32) (r_today : Int32) (r_taken : Int32) (r_warms : (Nat → UInt32)) (r_shutAt : (Nat → Int32)) (r_kinds0 : (Nat → Int32)) (r_figures : (Nat → Int32)) (r_airAt : (Nat → Int32)) (r_ways : (Nat → Int32)) (r_crowned : (Nat → Int32)) (r_sitsAt : (Nat → Int32)) (r_shawls : (Nat → Int32)) (r_isOn : (Nat → Int32)) (n0 : Int32) : Option (Int32 × Int32 × (Nat → UInt32) × (Nat → Int32) × (Nat → Int32) × (Nat → Int32) × (Nat → Int32)) := f_X7_leapsOnce_b2 n0 r_airs r_sitters r_today r_taken r_warms r_shutAt r_kinds0 r_figures r_airAt r_ways r_crowned r_sitsAt r_shawls r_isOn 4096 (0 : Int32)
def wA_X7_leapsOnce : List Cond := .code yX7_leapsOnce cX7_leapsOnce 7 (some .boolean) :: wsL_law
-- DraughtsTakeModel.leapsOnce(I)Z
set_option maxHeartbeats 4000000 in
set_option maxRecDepth 100000 in
theorem m_X7_leapsOnce (l : Launch) (D : va_G) (y : Nat → ClassId) (a : (Nat → Nat)) (r_airs : Int32) (r_sitters : Int32) (r_stepMany : Int32) (r_today : Int32) (r_taken : Int32) (r_isStill : Int32) (r_thrown : Int32) (r_letterMany : Int32) (r_at0 : Int32) (r_isBad : Int32) (r_statements : Int32) (r_stepsMany : Int32) (r_hasImage : Int32) (r_place0 : Int32) (r_isTaking : Int32) (r_keptIn : Value) (r_turned : Int32) (r_rowMany : Int32) (r_seed : Int32) (r_warms : (Nat → UInt32)) (r_shutAt : (Nat → Int32)) (r_kinds0 : (Nat → Int32)) (r_figures : (Nat → Int32)) (r_airAt : (Nat → Int32)) (r_ways : (Nat → Int32)) (r_crowned : (Nat → Int32)) (r_sitsAt : (Nat → Int32)) (r_shawls : (Nat → Int32)) (r_isOn : (Nat → Int32)) (r_stepOf : (Nat → Int32)) (r_stepBy : (Nat → Int32)) (r_refusals : (Nat → Int32)) (r_letters : (Nat → Int32)) (r_placeIn : (Nat → Int32)) (r_letterOf : (Nat → Int32)) (r_numbers : (Nat → Int32)) (r_stepsRead : (Nat → Int32)) (r_stepsBy : (Nat → Int32)) (r_kept : (Nat → Int32)) (r_keptWarms : (Nat → UInt32)) (r_i_imaged : (Nat → Int32)) (r_imagedWarms : (Nat → UInt32)) (r_turns0 : (Nat → Int32)) (r_turnWarms0 : (Nat → UInt32)) (r_turnOf : (Nat → Int32)) (r_turnWarms : (Nat → UInt32)) (r_row0 : (Nat → Int32)) (r_gains : (Nat → Int32)) (r_pegSort : (Nat → Int32)) (r_pegMany : (Nat → Int32)) (r_pegHolds : (Nat → Int32)) (r_coats : (Nat → Int32)) (r_coatsMoved : (Nat → Int32)) (n0 : Int32) (z0 : Int32) (z1 : Int32) (z2 : (Nat → UInt32)) (z3 : (Nat → Int32)) (z4 : (Nat → Int32)) (z5 : (Nat → Int32)) (z6 : (Nat → Int32)) (hf : f_X7_leapsOnce r_airs r_sitters r_today r_taken r_warms r_shutAt r_kinds0 r_figures r_airAt r_ways r_crowned r_sitsAt r_shawls r_isOn n0 = some (z0, z1, z2, z3, z4, z5, z6)) : Ct l D y yX7_leapsOnce wA_X7_leapsOnce 3 72 [.ref (a 0), .int n0] (w_X7 y a r_airs r_sitters r_stepMany r_today r_taken r_isStill r_thrown r_letterMany r_at0 r_isBad r_statements r_stepsMany r_hasImage r_place0 r_isTaking r_keptIn r_turned r_rowMany r_seed r_warms r_shutAt r_kinds0 r_figures r_airAt r_ways r_crowned r_sitsAt r_shawls r_isOn r_stepOf r_stepBy r_refusals r_letters r_placeIn r_letterOf r_numbers r_stepsRead r_stepsBy r_kept r_keptWarms r_i_imaged r_imagedWarms r_turns0 r_turnWarms0 r_turnOf r_turnWarms r_row0 r_gains r_pegSort r_pegMany r_pegHolds r_coats r_coatsMoved) (w_X7 y a r_airs r_sitters r_stepMany r_today z1 r_isStill r_thrown r_letterMany r_at0 r_isBad r_statements r_stepsMany r_hasImage r_place0 r_isTaking r_keptIn r_turned r_rowMany r_seed z2 r_shutAt r_kinds0 r_figures z3 z4 r_crowned r_sitsAt z5 z6 r_stepOf r_stepBy r_refusals r_letters r_placeIn r_letterOf r_numbers r_stepsRead r_stepsBy r_kept r_keptWarms r_i_imaged r_imagedWarms r_turns0 r_turnWarms0 r_turnOf r_turnWarms r_row0 r_gains r_pegSort r_pegMany r_pegHolds r_coats r_coatsMoved) (some (.int z0)) := by
  refine ct_head (cc := cX7_leapsOnce) (n := 7) (ret := (some .boolean)) (by decide) rfl (Nat.le_of_ble_eq_true rfl) ?_
  intro p e s m below meth c A ls hx hb hr hml hown hlocks hts hA hAe hP hK hD hl
  have hS : va_S A s.heap s.heap [] := va_S.rf
  have hl : lv_has ls 7 [(0, .ref (a 0)), (1, .int n0)] := hl
  have hown : s.vm.findClass RX7 = some m.cls := hown
  have hts : ∀ w ∈ wsL_law, w.before [.ref (a 0), .int n0].toArray s = true := fun w h => hts w (List.mem_cons_of_mem _ h)
  unfold f_X7_leapsOnce at hf
  refine lv_iconst (v := 0) hx hb dX7_leapsOnce_0 (by decide) ?_
  refine lv_istore_n (lv' := [(2, .int (0 : Int32)), (0, .ref (a 0)), (1, .int n0)]) hx hb dX7_leapsOnce_1 rfl hl (by decide) rfl (fun ls hl => ?_)
  have J2 : ∀ (m2 : Nat) (x1 : Int32), f_X7_leapsOnce_b2 n0 r_airs r_sitters r_today r_taken r_warms r_shutAt r_kinds0 r_figures r_airAt r_ways r_crowned r_sitsAt r_shawls r_isOn m2 x1 = some (z0, z1, z2, z3, z4, z5, z6) → ∀ (H : Heap) (locs : List Loc), va_P D vwCl (w_X7 y a r_airs r_sitters r_stepMany r_today r_taken r_isStill r_thrown r_letterMany r_at0 r_isBad r_statements r_stepsMany r_hasImage r_place0 r_isTaking r_keptIn r_turned r_rowMany r_seed r_warms r_shutAt r_kinds0 r_figures r_airAt r_ways r_crowned r_sitsAt r_shawls r_isOn r_stepOf r_stepBy r_refusals r_letters r_placeIn r_letterOf r_numbers r_stepsRead r_stepsBy r_kept r_keptWarms r_i_imaged r_imagedWarms r_turns0 r_turnWarms0 r_turnOf r_turnWarms r_row0 r_gains r_pegSort r_pegMany r_pegHolds r_coats r_coatsMoved) H → va_D A (w_X7 y a r_airs r_sitters r_stepMany r_today r_taken r_isStill r_thrown r_letterMany r_at0 r_isBad r_statements r_stepsMany r_hasImage r_place0 r_isTaking r_keptIn r_turned r_rowMany r_seed r_warms r_shutAt r_kinds0 r_figures r_airAt r_ways r_crowned r_sitsAt r_shawls r_isOn r_stepOf r_stepBy r_refusals r_letters r_placeIn r_letterOf r_numbers r_stepsRead r_stepsBy r_kept r_keptWarms r_i_imaged r_imagedWarms r_turns0 r_turnWarms0 r_turnOf r_turnWarms r_row0 r_gains r_pegSort r_pegMany r_pegHolds r_coats r_coatsMoved) → va_S A s.heap H locs → ∀ ls : Array Slot, lv_has ls 7 [(0, .ref (a 0)), (1, .int n0), (2, .int x1)] → W p l e ({ frames := 3, cells := 0, slots := 0, locals := 72 } : Room) s m [.ref (a 0), .int n0].toArray below meth c H locs 0 0 (MQ below (dQ D y (some (.int z0)) s.heap.size (w_X7 y a r_airs r_sitters r_stepMany r_today r_taken r_isStill r_thrown r_letterMany r_at0 r_isBad r_statements r_stepsMany r_hasImage r_place0 r_isTaking r_keptIn r_turned r_rowMany r_seed r_warms r_shutAt r_kinds0 r_figures r_airAt r_ways r_crowned r_sitsAt r_shawls r_isOn r_stepOf r_stepBy r_refusals r_letters r_placeIn r_letterOf r_numbers r_stepsRead r_stepsBy r_kept r_keptWarms r_i_imaged r_imagedWarms r_turns0 r_turnWarms0 r_turnOf r_turnWarms r_row0 r_gains r_pegSort r_pegMany r_pegHolds r_coats r_coatsMoved) (w_X7 y a r_airs r_sitters r_stepMany r_today z1 r_isStill r_thrown r_letterMany r_at0 r_isBad r_statements r_stepsMany r_hasImage r_place0 r_isTaking r_keptIn r_turned r_rowMany r_seed z2 r_shutAt r_kinds0 r_figures z3 z4 r_crowned r_sitsAt z5 z6 r_stepOf r_stepBy r_refusals r_letters r_placeIn r_letterOf r_numbers r_stepsRead r_stepsBy r_kept r_keptWarms r_i_imaged r_imagedWarms r_turns0 r_turnWarms0 r_turnOf r_turnWarms r_row0 r_gains r_pegSort r_pegMany r_pegHolds r_coats r_coatsMoved)) [.ref (a 0), .int n0].toArray s 0 0 A) (F0 m 2 ls []) := by
    intro m2
    induction m2 with
    | zero => intro x1 hf; exact absurd hf (by unfold f_X7_leapsOnce_b2; exact fun h => by cases h)
    | succ m2 I2 =>
      intro x1 hf H locs hP hD hS ls hl
      unfold f_X7_leapsOnce_b2 at hf
      refine lv_iload_n hx hb dX7_leapsOnce_2 rfl (lv_at hl 2 rfl) ?_
      refine lv_aload_n hx hb dX7_leapsOnce_3 rfl (lv_at hl 0 rfl) ?_
      refine va_get (D := D) (ci := 6) (v := .ref (a 7)) (C := RX7) (T := TX7) (N := 53) hx hb hts iwX7 hown hK hP 0 rfl rfl 7 (by decide) (hts _ wl_87) (fun _ h9 => h9) rfl dX7_leapsOnce_4 ?_
      refine lv_iload_n hx hb dX7_leapsOnce_7 rfl (lv_at hl 1 rfl) ?_
      obtain ⟨h2, hf⟩ := dq_g hf
      refine va_iald (cA := y 1) (n := 5) (f := r_crowned) hx hb hK hP 7 1 rfl rfl h2 dX7_leapsOnce_8 ?_
      obtain ⟨x3, hy4, hf⟩ := dq_b hf
      refine ct_callS0 (own := RX7) (As := [.int (r_crowned n0.toNatClampNeg)]) (rest := [.int x1]) ⟨hx, hb, hml, hown, hts⟩ (m_X7_triesOf l D y (r_crowned n0.toNatClampNeg) x3 hy4) (va_cwS 1 hts (gA_S wl_497 wl_498 wl_5 wl_499) rfl rfl rfl (by decide +kernel) ⟨Nat.le_of_ble_eq_true rfl, Nat.le_of_ble_eq_true rfl⟩) rfl hl.1 rfl (Nat.le_of_ble_eq_true rfl) dX7_leapsOnce_9 ⟨Nat.zero_le _, Nat.zero_le _⟩ hK hP hD hS hA (fun H locs hP hD hS => ?_)
      refine lv_icmp_ge (tgt := 159) hx hb dX7_leapsOnce_12 (by decide) (fun c5 => ?_) (fun c5 => ?_)
      · have hf := dq_t hf c5
        clear c5
        refine lv_iconst (v := 0) hx hb dX7_leapsOnce_159 (by decide) ?_
        obtain ⟨rfl, rfl, rfl, rfl, rfl, rfl, rfl⟩ := dq_r7 hf
        exact ct_zret hx hb hr rfl hlocks hAe hP hK hD hS dX7_leapsOnce_160
      · have hf := dq_f hf c5
        clear c5
        refine lv_aload_n hx hb dX7_leapsOnce_15 rfl (lv_at hl 0 rfl) ?_
        refine va_get (D := D) (ci := 6) (v := .ref (a 6)) (C := RX7) (T := TX7) (N := 53) hx hb hts iwX7 hown hK hP 0 rfl rfl 6 (by decide) (hts _ wl_86) (fun _ h9 => h9) rfl dX7_leapsOnce_16 ?_
        refine lv_iload_n hx hb dX7_leapsOnce_19 rfl (lv_at hl 1 rfl) ?_
        obtain ⟨h6, hf⟩ := dq_g hf
        refine va_iald (cA := y 1) (n := 5) (f := r_ways) hx hb hK hP 6 1 rfl rfl h6 dX7_leapsOnce_20 ?_
        refine lv_iload_n hx hb dX7_leapsOnce_21 rfl (lv_at hl 2 rfl) ?_
        refine lv_iadd hx hb dX7_leapsOnce_22 ?_
        refine lv_iconst (v := 4) hx hb dX7_leapsOnce_23 (by decide) ?_
        refine lv_irem hx hb dX7_leapsOnce_24 (by decide) ?_
        refine lv_topi (fun x7 ex7 => ?_)
        have hf := dq_l hf x7 ex7
        clear ex7
        refine lv_istore_n (lv' := [(3, .int x7), (0, .ref (a 0)), (1, .int n0), (2, .int x1)]) hx hb dX7_leapsOnce_25 rfl hl (by decide) rfl (fun ls hl => ?_)
        refine lv_aload_n hx hb dX7_leapsOnce_26 rfl (lv_at hl 1 rfl) ?_
        refine va_get (D := D) (ci := 6) (v := .ref (a 5)) (C := RX7) (T := TX7) (N := 53) hx hb hts iwX7 hown hK hP 0 rfl rfl 5 (by decide) (hts _ wl_85) (fun _ h9 => h9) rfl dX7_leapsOnce_27 ?_
        refine lv_iload_n hx hb dX7_leapsOnce_30 rfl (lv_at hl 2 rfl) ?_
        obtain ⟨h8, hf⟩ := dq_g hf
        refine va_iald (cA := y 1) (n := 5) (f := r_airAt) hx hb hK hP 5 1 rfl rfl h8 dX7_leapsOnce_31 ?_
        refine lv_iload_n hx hb dX7_leapsOnce_32 rfl (lv_at hl 0 rfl) ?_
        refine lv_iconst (v := 1) hx hb dX7_leapsOnce_33 (by decide) ?_
        obtain ⟨x9, hy10, hf⟩ := dq_b hf
        refine ct_callS0 (own := RX7) (As := [.int (r_airAt n0.toNatClampNeg), .int x7, .int (1 : Int32)]) (rest := []) ⟨hx, hb, hml, hown, hts⟩ (m_X7_awayOf l D y (r_airAt n0.toNatClampNeg) x7 (1 : Int32) x9 hy10) (va_cwS 3 hts (gA_S wl_500 wl_501 wl_5 wl_502) rfl rfl rfl (by decide +kernel) ⟨Nat.le_of_ble_eq_true rfl, Nat.le_of_ble_eq_true rfl⟩) rfl hl.1 rfl (Nat.le_of_ble_eq_true rfl) dX7_leapsOnce_34 ⟨Nat.zero_le _, Nat.zero_le _⟩ hK hP hD hS hA (fun H locs hP hD hS => ?_)
        refine lv_istore (lv' := [(4, .int x9), (3, .int x7), (0, .ref (a 0)), (1, .int n0), (2, .int x1)]) hx hb dX7_leapsOnce_37 hl (by decide) rfl (fun ls hl => ?_)
        refine lv_aload_n hx hb dX7_leapsOnce_39 rfl (lv_at hl 2 rfl) ?_
        refine va_get (D := D) (ci := 6) (v := .ref (a 5)) (C := RX7) (T := TX7) (N := 53) hx hb hts iwX7 hown hK hP 0 rfl rfl 5 (by decide) (hts _ wl_85) (fun _ h9 => h9) rfl dX7_leapsOnce_40 ?_
        refine lv_iload_n hx hb dX7_leapsOnce_43 rfl (lv_at hl 3 rfl) ?_
        obtain ⟨h11, hf⟩ := dq_g hf
        refine va_iald (cA := y 1) (n := 5) (f := r_airAt) hx hb hK hP 5 1 rfl rfl h11 dX7_leapsOnce_44 ?_
        refine lv_iload_n hx hb dX7_leapsOnce_45 rfl (lv_at hl 1 rfl) ?_
        refine lv_iconst (v := 2) hx hb dX7_leapsOnce_46 (by decide) ?_
        obtain ⟨x12, hy13, hf⟩ := dq_b hf
        refine ct_callS0 (own := RX7) (As := [.int (r_airAt n0.toNatClampNeg), .int x7, .int (2 : Int32)]) (rest := []) ⟨hx, hb, hml, hown, hts⟩ (m_X7_awayOf l D y (r_airAt n0.toNatClampNeg) x7 (2 : Int32) x12 hy13) (va_cwS 3 hts (gA_S wl_500 wl_501 wl_5 wl_502) rfl rfl rfl (by decide +kernel) ⟨Nat.le_of_ble_eq_true rfl, Nat.le_of_ble_eq_true rfl⟩) rfl hl.1 rfl (Nat.le_of_ble_eq_true rfl) dX7_leapsOnce_47 ⟨Nat.zero_le _, Nat.zero_le _⟩ hK hP hD hS hA (fun H locs hP hD hS => ?_)
        refine lv_istore (lv' := [(5, .int x12), (4, .int x9), (3, .int x7), (0, .ref (a 0)), (1, .int n0), (2, .int x1)]) hx hb dX7_leapsOnce_50 hl (by decide) rfl (fun ls hl => ?_)
        refine lv_iload hx hb dX7_leapsOnce_52 (lv_at hl 0 rfl) ?_
        have J68 : ∀ (x14 : Int32), f_X7_leapsOnce_b68 n0 r_airs r_sitters r_today r_taken r_warms r_shutAt r_kinds0 r_figures r_airAt r_ways r_sitsAt r_shawls r_isOn x1 x7 x12 (f_X7_leapsOnce_b2 n0 r_airs r_sitters r_today r_taken r_warms r_shutAt r_kinds0 r_figures r_airAt r_ways r_crowned r_sitsAt r_shawls r_isOn m2) x14 = some (z0, z1, z2, z3, z4, z5, z6) → ∀ (H : Heap) (locs : List Loc), va_P D vwCl (w_X7 y a r_airs r_sitters r_stepMany r_today r_taken r_isStill r_thrown r_letterMany r_at0 r_isBad r_statements r_stepsMany r_hasImage r_place0 r_isTaking r_keptIn r_turned r_rowMany r_seed r_warms r_shutAt r_kinds0 r_figures r_airAt r_ways r_crowned r_sitsAt r_shawls r_isOn r_stepOf r_stepBy r_refusals r_letters r_placeIn r_letterOf r_numbers r_stepsRead r_stepsBy r_kept r_keptWarms r_i_imaged r_imagedWarms r_turns0 r_turnWarms0 r_turnOf r_turnWarms r_row0 r_gains r_pegSort r_pegMany r_pegHolds r_coats r_coatsMoved) H → va_D A (w_X7 y a r_airs r_sitters r_stepMany r_today r_taken r_isStill r_thrown r_letterMany r_at0 r_isBad r_statements r_stepsMany r_hasImage r_place0 r_isTaking r_keptIn r_turned r_rowMany r_seed r_warms r_shutAt r_kinds0 r_figures r_airAt r_ways r_crowned r_sitsAt r_shawls r_isOn r_stepOf r_stepBy r_refusals r_letters r_placeIn r_letterOf r_numbers r_stepsRead r_stepsBy r_kept r_keptWarms r_i_imaged r_imagedWarms r_turns0 r_turnWarms0 r_turnOf r_turnWarms r_row0 r_gains r_pegSort r_pegMany r_pegHolds r_coats r_coatsMoved) → va_S A s.heap H locs → ∀ ls : Array Slot, lv_has ls 7 [(0, .ref (a 0)), (1, .int n0), (2, .int x1), (3, .int x7), (5, .int x12)] → W p l e ({ frames := 3, cells := 0, slots := 0, locals := 72 } : Room) s m [.ref (a 0), .int n0].toArray below meth c H locs 0 0 (MQ below (dQ D y (some (.int z0)) s.heap.size (w_X7 y a r_airs r_sitters r_stepMany r_today r_taken r_isStill r_thrown r_letterMany r_at0 r_isBad r_statements r_stepsMany r_hasImage r_place0 r_isTaking r_keptIn r_turned r_rowMany r_seed r_warms r_shutAt r_kinds0 r_figures r_airAt r_ways r_crowned r_sitsAt r_shawls r_isOn r_stepOf r_stepBy r_refusals r_letters r_placeIn r_letterOf r_numbers r_stepsRead r_stepsBy r_kept r_keptWarms r_i_imaged r_imagedWarms r_turns0 r_turnWarms0 r_turnOf r_turnWarms r_row0 r_gains r_pegSort r_pegMany r_pegHolds r_coats r_coatsMoved) (w_X7 y a r_airs r_sitters r_stepMany r_today z1 r_isStill r_thrown r_letterMany r_at0 r_isBad r_statements r_stepsMany r_hasImage r_place0 r_isTaking r_keptIn r_turned r_rowMany r_seed z2 r_shutAt r_kinds0 r_figures z3 z4 r_crowned r_sitsAt z5 z6 r_stepOf r_stepBy r_refusals r_letters r_placeIn r_letterOf r_numbers r_stepsRead r_stepsBy r_kept r_keptWarms r_i_imaged r_imagedWarms r_turns0 r_turnWarms0 r_turnOf r_turnWarms r_row0 r_gains r_pegSort r_pegMany r_pegHolds r_coats r_coatsMoved)) [.ref (a 0), .int n0].toArray s 0 0 A) (F0 m 68 ls [.int x14]) := by
          intro x14 hf H locs hP hD hS ls hl
          unfold f_X7_leapsOnce_b68 at hf
          refine lv_istore (lv' := [(6, .int x14), (0, .ref (a 0)), (1, .int n0), (2, .int x1), (3, .int x7), (5, .int x12)]) hx hb dX7_leapsOnce_68 hl (by decide) rfl (fun ls hl => ?_)
          refine lv_iload hx hb dX7_leapsOnce_70 (lv_at hl 0 rfl) ?_
          refine lv_if_lt (tgt := 153) hx hb dX7_leapsOnce_72 (by decide) (fun c15 => ?_) (fun c15 => ?_)
          · have hf := dq_t hf c15
            clear c15
            obtain ⟨x16, ex16⟩ : ∃ z : Int32, z = (x1 + (1 : Int32)) := ⟨_, rfl⟩
            have hf := dq_l hf x16 ex16
            refine lv_iinc (v := x16) (lv' := [(2, .int x16), (6, .int x14), (0, .ref (a 0)), (1, .int n0), (3, .int x7), (5, .int x12)]) hx hb dX7_leapsOnce_153 hl (k := 3) rfl (by rw [ex16]; rfl) (by decide) rfl (fun ls hl => ?_)
            clear ex16
            refine lv_goto (tgt := 2) hx hb dX7_leapsOnce_156 (by decide) ?_
            exact I2 _ hf _ _ hP hD hS _ (lv_sub hl [2, 3, 0] rfl)
          · have hf := dq_f hf c15
            clear c15
            refine lv_aload_n hx hb dX7_leapsOnce_75 rfl (lv_at hl 1 rfl) ?_
            refine lv_iload hx hb dX7_leapsOnce_76 (lv_at hl 5 rfl) ?_
            obtain ⟨x17, hy18, hf⟩ := dq_b hf
            refine ct_callV0 (ci := 6) (q0 := 0) (own := RX7) (As := [.int x12]) (rest := []) (ws' := (w_X7 y a r_airs r_sitters r_stepMany r_today r_taken r_isStill r_thrown r_letterMany r_at0 r_isBad r_statements r_stepsMany r_hasImage r_place0 r_isTaking r_keptIn r_turned r_rowMany r_seed r_warms r_shutAt r_kinds0 r_figures r_airAt r_ways r_crowned r_sitsAt r_shawls r_isOn r_stepOf r_stepBy r_refusals r_letters r_placeIn r_letterOf r_numbers r_stepsRead r_stepsBy r_kept r_keptWarms r_i_imaged r_imagedWarms r_turns0 r_turnWarms0 r_turnOf r_turnWarms r_row0 r_gains r_pegSort r_pegMany r_pegHolds r_coats r_coatsMoved)) ⟨hx, hb, hml, hown, hts⟩ (m_X7_isFree l D y a r_airs r_sitters r_stepMany r_today r_taken r_isStill r_thrown r_letterMany r_at0 r_isBad r_statements r_stepsMany r_hasImage r_place0 r_isTaking r_keptIn r_turned r_rowMany r_seed r_warms r_shutAt r_kinds0 r_figures r_airAt r_ways r_crowned r_sitsAt r_shawls r_isOn r_stepOf r_stepBy r_refusals r_letters r_placeIn r_letterOf r_numbers r_stepsRead r_stepsBy r_kept r_keptWarms r_i_imaged r_imagedWarms r_turns0 r_turnWarms0 r_turnOf r_turnWarms r_row0 r_gains r_pegSort r_pegMany r_pegHolds r_coats r_coatsMoved x12 x17 hy18) (cwV 1 hts (gA_V wl_426 wl_427 wl_428 wl_5 wl_429) rfl rfl rfl (by decide +kernel) ⟨Nat.le_of_ble_eq_true rfl, Nat.le_of_ble_eq_true rfl⟩) rfl rfl rfl hl.1 rfl (Nat.le_of_ble_eq_true rfl) dX7_leapsOnce_78 ⟨Nat.zero_le _, Nat.zero_le _⟩ hK hP hD hS hA (fun H locs hP hD hS => ?_)
            refine lv_if_eq (tgt := 153) hx hb dX7_leapsOnce_81 (by decide) (fun c19 => ?_) (fun c19 => ?_)
            · have hf := dq_t hf c19
              clear c19
              obtain ⟨x20, ex20⟩ : ∃ z : Int32, z = (x1 + (1 : Int32)) := ⟨_, rfl⟩
              have hf := dq_l hf x20 ex20
              refine lv_iinc (v := x20) (lv' := [(2, .int x20), (6, .int x14), (0, .ref (a 0)), (1, .int n0), (3, .int x7), (5, .int x12)]) hx hb dX7_leapsOnce_153 hl (k := 3) rfl (by rw [ex20]; rfl) (by decide) rfl (fun ls hl => ?_)
              clear ex20
              refine lv_goto (tgt := 2) hx hb dX7_leapsOnce_156 (by decide) ?_
              exact I2 _ hf _ _ hP hD hS _ (lv_sub hl [2, 3, 0] rfl)
            · have hf := dq_f hf c19
              clear c19
              refine lv_aload_n hx hb dX7_leapsOnce_84 rfl (lv_at hl 1 rfl) ?_
              refine lv_aload_n hx hb dX7_leapsOnce_85 rfl (lv_at hl 1 rfl) ?_
              refine va_get (D := D) (ci := 6) (v := .int r_taken) (C := RX7) (T := TX7) (N := 53) hx hb hts iwX7 hown hK hP 0 rfl rfl 16 (by decide) (hts _ wl_409) (fun _ h9 => h9) rfl dX7_leapsOnce_86 ?_
              refine lv_iconst (v := 1) hx hb dX7_leapsOnce_89 (by decide) ?_
              refine lv_iadd hx hb dX7_leapsOnce_90 ?_
              refine lv_sipush (v := 9999) hx hb dX7_leapsOnce_91 (by decide) ?_
              obtain ⟨x21, hy22, hf⟩ := dq_b hf
              refine ct_callS0 (own := RX7) (As := [.int (r_taken + (1 : Int32)), .int (9999 : Int32)]) (rest := [.ref (a 0)]) ⟨hx, hb, hml, hown, hts⟩ (m_X7_held l D y (r_taken + (1 : Int32)) (9999 : Int32) x21 hy22) (va_cwS 2 hts (gA_S wl_490 wl_491 wl_5 wl_492) rfl rfl rfl (by decide +kernel) ⟨Nat.le_of_ble_eq_true rfl, Nat.le_of_ble_eq_true rfl⟩) rfl hl.1 rfl (Nat.le_of_ble_eq_true rfl) dX7_leapsOnce_94 ⟨Nat.zero_le _, Nat.zero_le _⟩ hK hP hD hS hA (fun H locs hP hD hS => ?_)
              refine va_put (D := D) (ci := 6) (v := .int x21) (ty := .int) (C := RX7) (T := TX7) (N := 53) hx hb hts iwX7 tyX7 tyX7_ok nmX7 hown hK hP hD hS 0 rfl rfl 16 (by decide) (hts _ wl_409) (fun _ h9 => h9) rfl (tyX7_ok 16 (by decide)) rfl rfl (Nat.le_of_ble_eq_true rfl) dX7_leapsOnce_97 (fun H locs hP hD hS => ?_)
              have hP : va_P D vwCl (w_X7 y a r_airs r_sitters r_stepMany r_today x21 r_isStill r_thrown r_letterMany r_at0 r_isBad r_statements r_stepsMany r_hasImage r_place0 r_isTaking r_keptIn r_turned r_rowMany r_seed r_warms r_shutAt r_kinds0 r_figures r_airAt r_ways r_crowned r_sitsAt r_shawls r_isOn r_stepOf r_stepBy r_refusals r_letters r_placeIn r_letterOf r_numbers r_stepsRead r_stepsBy r_kept r_keptWarms r_i_imaged r_imagedWarms r_turns0 r_turnWarms0 r_turnOf r_turnWarms r_row0 r_gains r_pegSort r_pegMany r_pegHolds r_coats r_coatsMoved) H := hP
              have hD : va_D A (w_X7 y a r_airs r_sitters r_stepMany r_today x21 r_isStill r_thrown r_letterMany r_at0 r_isBad r_statements r_stepsMany r_hasImage r_place0 r_isTaking r_keptIn r_turned r_rowMany r_seed r_warms r_shutAt r_kinds0 r_figures r_airAt r_ways r_crowned r_sitsAt r_shawls r_isOn r_stepOf r_stepBy r_refusals r_letters r_placeIn r_letterOf r_numbers r_stepsRead r_stepsBy r_kept r_keptWarms r_i_imaged r_imagedWarms r_turns0 r_turnWarms0 r_turnOf r_turnWarms r_row0 r_gains r_pegSort r_pegMany r_pegHolds r_coats r_coatsMoved) := hD
              refine lv_aload_n hx hb dX7_leapsOnce_100 rfl (lv_at hl 1 rfl) ?_
              refine va_get (D := D) (ci := 6) (v := .ref (a 10)) (C := RX7) (T := TX7) (N := 53) hx hb hts iwX7 hown hK hP 0 rfl rfl 11 (by decide) (hts _ wl_90) (fun _ h9 => h9) rfl dX7_leapsOnce_101 ?_
              refine lv_iload hx hb dX7_leapsOnce_104 (lv_at hl 0 rfl) ?_
              refine lv_aload_n hx hb dX7_leapsOnce_106 rfl (lv_at hl 1 rfl) ?_
              refine va_get (D := D) (ci := 6) (v := .ref (a 9)) (C := RX7) (T := TX7) (N := 53) hx hb hts iwX7 hown hK hP 0 rfl rfl 10 (by decide) (hts _ wl_89) (fun _ h9 => h9) rfl dX7_leapsOnce_107 ?_
              refine lv_iload hx hb dX7_leapsOnce_110 (lv_at hl 0 rfl) ?_
              obtain ⟨h23, hf⟩ := dq_g hf
              refine va_iald (cA := y 1) (n := 6) (f := r_shawls) hx hb hK hP 9 1 rfl rfl h23 dX7_leapsOnce_112 ?_
              have J121 : ∀ (x24 : Int32) (x25 : Int32), f_X7_leapsOnce_b121 n0 r_today r_warms r_kinds0 r_figures r_airAt r_ways r_shawls r_isOn x7 x12 x14 x21 x24 x25 = some (z0, z1, z2, z3, z4, z5, z6) → ∀ (H : Heap) (locs : List Loc), va_P D vwCl (w_X7 y a r_airs r_sitters r_stepMany r_today x21 r_isStill r_thrown r_letterMany r_at0 r_isBad r_statements r_stepsMany r_hasImage r_place0 r_isTaking r_keptIn r_turned r_rowMany r_seed r_warms r_shutAt r_kinds0 r_figures r_airAt r_ways r_crowned r_sitsAt r_shawls r_isOn r_stepOf r_stepBy r_refusals r_letters r_placeIn r_letterOf r_numbers r_stepsRead r_stepsBy r_kept r_keptWarms r_i_imaged r_imagedWarms r_turns0 r_turnWarms0 r_turnOf r_turnWarms r_row0 r_gains r_pegSort r_pegMany r_pegHolds r_coats r_coatsMoved) H → va_D A (w_X7 y a r_airs r_sitters r_stepMany r_today x21 r_isStill r_thrown r_letterMany r_at0 r_isBad r_statements r_stepsMany r_hasImage r_place0 r_isTaking r_keptIn r_turned r_rowMany r_seed r_warms r_shutAt r_kinds0 r_figures r_airAt r_ways r_crowned r_sitsAt r_shawls r_isOn r_stepOf r_stepBy r_refusals r_letters r_placeIn r_letterOf r_numbers r_stepsRead r_stepsBy r_kept r_keptWarms r_i_imaged r_imagedWarms r_turns0 r_turnWarms0 r_turnOf r_turnWarms r_row0 r_gains r_pegSort r_pegMany r_pegHolds r_coats r_coatsMoved) → va_S A s.heap H locs → ∀ ls : Array Slot, lv_has ls 7 [(0, .ref (a 0)), (1, .int n0), (3, .int x7), (5, .int x12), (6, .int x14)] → W p l e ({ frames := 3, cells := 0, slots := 0, locals := 72 } : Room) s m [.ref (a 0), .int n0].toArray below meth c H locs 0 0 (MQ below (dQ D y (some (.int z0)) s.heap.size (w_X7 y a r_airs r_sitters r_stepMany r_today r_taken r_isStill r_thrown r_letterMany r_at0 r_isBad r_statements r_stepsMany r_hasImage r_place0 r_isTaking r_keptIn r_turned r_rowMany r_seed r_warms r_shutAt r_kinds0 r_figures r_airAt r_ways r_crowned r_sitsAt r_shawls r_isOn r_stepOf r_stepBy r_refusals r_letters r_placeIn r_letterOf r_numbers r_stepsRead r_stepsBy r_kept r_keptWarms r_i_imaged r_imagedWarms r_turns0 r_turnWarms0 r_turnOf r_turnWarms r_row0 r_gains r_pegSort r_pegMany r_pegHolds r_coats r_coatsMoved) (w_X7 y a r_airs r_sitters r_stepMany r_today z1 r_isStill r_thrown r_letterMany r_at0 r_isBad r_statements r_stepsMany r_hasImage r_place0 r_isTaking r_keptIn r_turned r_rowMany r_seed z2 r_shutAt r_kinds0 r_figures z3 z4 r_crowned r_sitsAt z5 z6 r_stepOf r_stepBy r_refusals r_letters r_placeIn r_letterOf r_numbers r_stepsRead r_stepsBy r_kept r_keptWarms r_i_imaged r_imagedWarms r_turns0 r_turnWarms0 r_turnOf r_turnWarms r_row0 r_gains r_pegSort r_pegMany r_pegHolds r_coats r_coatsMoved)) [.ref (a 0), .int n0].toArray s 0 0 A) (F0 m 121 ls [.int x25, .int x24, .ref (a 10)]) := by
                intro x24 x25 hf H locs hP hD hS ls hl
                unfold f_X7_leapsOnce_b121 at hf
                obtain ⟨h26, hf⟩ := dq_g hf
                refine dq_iast (cA := y 1) (n := 6) (f := r_isOn) hx hb hK hP hD hS 10 1 rfl rfl h26 dX7_leapsOnce_121 (fun r_isOn_27 er_isOn_27 H locs hP hD hS => ?_)
                have hf := dq_l hf r_isOn_27 er_isOn_27
                clear er_isOn_27
                have hP : va_P D vwCl (w_X7 y a r_airs r_sitters r_stepMany r_today x21 r_isStill r_thrown r_letterMany r_at0 r_isBad r_statements r_stepsMany r_hasImage r_place0 r_isTaking r_keptIn r_turned r_rowMany r_seed r_warms r_shutAt r_kinds0 r_figures r_airAt r_ways r_crowned r_sitsAt r_shawls r_isOn_27 r_stepOf r_stepBy r_refusals r_letters r_placeIn r_letterOf r_numbers r_stepsRead r_stepsBy r_kept r_keptWarms r_i_imaged r_imagedWarms r_turns0 r_turnWarms0 r_turnOf r_turnWarms r_row0 r_gains r_pegSort r_pegMany r_pegHolds r_coats r_coatsMoved) H := hP
                have hD : va_D A (w_X7 y a r_airs r_sitters r_stepMany r_today x21 r_isStill r_thrown r_letterMany r_at0 r_isBad r_statements r_stepsMany r_hasImage r_place0 r_isTaking r_keptIn r_turned r_rowMany r_seed r_warms r_shutAt r_kinds0 r_figures r_airAt r_ways r_crowned r_sitsAt r_shawls r_isOn_27 r_stepOf r_stepBy r_refusals r_letters r_placeIn r_letterOf r_numbers r_stepsRead r_stepsBy r_kept r_keptWarms r_i_imaged r_imagedWarms r_turns0 r_turnWarms0 r_turnOf r_turnWarms r_row0 r_gains r_pegSort r_pegMany r_pegHolds r_coats r_coatsMoved) := hD
                refine lv_aload_n hx hb dX7_leapsOnce_122 rfl (lv_at hl 0 rfl) ?_
                refine va_get (D := D) (ci := 6) (v := .ref (a 9)) (C := RX7) (T := TX7) (N := 53) hx hb hts iwX7 hown hK hP 0 rfl rfl 10 (by decide) (hts _ wl_89) (fun _ h9 => h9) rfl dX7_leapsOnce_123 ?_
                refine lv_iload hx hb dX7_leapsOnce_126 (lv_at hl 4 rfl) ?_
                refine lv_aload_n hx hb dX7_leapsOnce_128 rfl (lv_at hl 0 rfl) ?_
                refine va_get (D := D) (ci := 6) (v := .ref (a 9)) (C := RX7) (T := TX7) (N := 53) hx hb hts iwX7 hown hK hP 0 rfl rfl 10 (by decide) (hts _ wl_89) (fun _ h9 => h9) rfl dX7_leapsOnce_129 ?_
                refine lv_iload hx hb dX7_leapsOnce_132 (lv_at hl 4 rfl) ?_
                obtain ⟨h28, hf⟩ := dq_g hf
                refine va_iald (cA := y 1) (n := 6) (f := r_shawls) hx hb hK hP 9 1 rfl rfl h28 dX7_leapsOnce_134 ?_
                refine lv_iconst (v := 1) hx hb dX7_leapsOnce_135 (by decide) ?_
                refine lv_isub hx hb dX7_leapsOnce_136 ?_
                refine lv_bipush (v := 9) hx hb dX7_leapsOnce_137 (by decide) ?_
                obtain ⟨x29, hy30, hf⟩ := dq_b hf
                refine ct_callS0 (own := RX7) (As := [.int ((r_shawls x14.toNatClampNeg) - (1 : Int32)), .int (9 : Int32)]) (rest := [.int x14, .ref (a 9)]) ⟨hx, hb, hml, hown, hts⟩ (m_X7_held l D y ((r_shawls x14.toNatClampNeg) - (1 : Int32)) (9 : Int32) x29 hy30) (va_cwS 2 hts (gA_S wl_490 wl_491 wl_5 wl_492) rfl rfl rfl (by decide +kernel) ⟨Nat.le_of_ble_eq_true rfl, Nat.le_of_ble_eq_true rfl⟩) rfl hl.1 rfl (Nat.le_of_ble_eq_true rfl) dX7_leapsOnce_139 ⟨Nat.zero_le _, Nat.zero_le _⟩ hK hP hD hS hA (fun H locs hP hD hS => ?_)
                obtain ⟨h31, hf⟩ := dq_g hf
                refine dq_iast (cA := y 1) (n := 6) (f := r_shawls) hx hb hK hP hD hS 9 1 rfl rfl h31 dX7_leapsOnce_142 (fun r_shawls_32 er_shawls_32 H locs hP hD hS => ?_)
                have hf := dq_l hf r_shawls_32 er_shawls_32
                clear er_shawls_32
                have hP : va_P D vwCl (w_X7 y a r_airs r_sitters r_stepMany r_today x21 r_isStill r_thrown r_letterMany r_at0 r_isBad r_statements r_stepsMany r_hasImage r_place0 r_isTaking r_keptIn r_turned r_rowMany r_seed r_warms r_shutAt r_kinds0 r_figures r_airAt r_ways r_crowned r_sitsAt r_shawls_32 r_isOn_27 r_stepOf r_stepBy r_refusals r_letters r_placeIn r_letterOf r_numbers r_stepsRead r_stepsBy r_kept r_keptWarms r_i_imaged r_imagedWarms r_turns0 r_turnWarms0 r_turnOf r_turnWarms r_row0 r_gains r_pegSort r_pegMany r_pegHolds r_coats r_coatsMoved) H := hP
                have hD : va_D A (w_X7 y a r_airs r_sitters r_stepMany r_today x21 r_isStill r_thrown r_letterMany r_at0 r_isBad r_statements r_stepsMany r_hasImage r_place0 r_isTaking r_keptIn r_turned r_rowMany r_seed r_warms r_shutAt r_kinds0 r_figures r_airAt r_ways r_crowned r_sitsAt r_shawls_32 r_isOn_27 r_stepOf r_stepBy r_refusals r_letters r_placeIn r_letterOf r_numbers r_stepsRead r_stepsBy r_kept r_keptWarms r_i_imaged r_imagedWarms r_turns0 r_turnWarms0 r_turnOf r_turnWarms r_row0 r_gains r_pegSort r_pegMany r_pegHolds r_coats r_coatsMoved) := hD
                refine lv_aload_n hx hb dX7_leapsOnce_143 rfl (lv_at hl 0 rfl) ?_
                refine lv_iload_n hx hb dX7_leapsOnce_144 rfl (lv_at hl 1 rfl) ?_
                refine lv_iload hx hb dX7_leapsOnce_145 (lv_at hl 3 rfl) ?_
                refine lv_iload_n hx hb dX7_leapsOnce_147 rfl (lv_at hl 2 rfl) ?_
                obtain ⟨r_warms_33, r_airAt_34, r_ways_35, hy36, hf⟩ := dq_b3 hf
                refine ct_callV0 (ci := 6) (q0 := 0) (own := RX7) (As := [.int n0, .int x12, .int x7]) (rest := []) (ws' := (w_X7 y a r_airs r_sitters r_stepMany r_today x21 r_isStill r_thrown r_letterMany r_at0 r_isBad r_statements r_stepsMany r_hasImage r_place0 r_isTaking r_keptIn r_turned r_rowMany r_seed r_warms_33 r_shutAt r_kinds0 r_figures r_airAt_34 r_ways_35 r_crowned r_sitsAt r_shawls_32 r_isOn_27 r_stepOf r_stepBy r_refusals r_letters r_placeIn r_letterOf r_numbers r_stepsRead r_stepsBy r_kept r_keptWarms r_i_imaged r_imagedWarms r_turns0 r_turnWarms0 r_turnOf r_turnWarms r_row0 r_gains r_pegSort r_pegMany r_pegHolds r_coats r_coatsMoved)) ⟨hx, hb, hml, hown, hts⟩ (m_X7_airComes l D y a r_airs r_sitters r_stepMany r_today x21 r_isStill r_thrown r_letterMany r_at0 r_isBad r_statements r_stepsMany r_hasImage r_place0 r_isTaking r_keptIn r_turned r_rowMany r_seed r_warms r_shutAt r_kinds0 r_figures r_airAt r_ways r_crowned r_sitsAt r_shawls_32 r_isOn_27 r_stepOf r_stepBy r_refusals r_letters r_placeIn r_letterOf r_numbers r_stepsRead r_stepsBy r_kept r_keptWarms r_i_imaged r_imagedWarms r_turns0 r_turnWarms0 r_turnOf r_turnWarms r_row0 r_gains r_pegSort r_pegMany r_pegHolds r_coats r_coatsMoved n0 x12 x7 r_warms_33 r_airAt_34 r_ways_35 hy36) (cwV 3 hts (gA_V wl_504 wl_505 wl_506 wl_5 wl_507) rfl rfl rfl (by decide +kernel) ⟨Nat.le_of_ble_eq_true rfl, Nat.le_of_ble_eq_true rfl⟩) rfl rfl rfl hl.1 rfl (Nat.le_of_ble_eq_true rfl) dX7_leapsOnce_148 ⟨Nat.zero_le _, Nat.zero_le _⟩ hK hP hD hS hA (fun H locs hP hD hS => ?_)
                refine lv_iconst (v := 1) hx hb dX7_leapsOnce_151 (by decide) ?_
                obtain ⟨rfl, rfl, rfl, rfl, rfl, rfl, rfl⟩ := dq_r7 hf
                exact ct_zret hx hb hr rfl hlocks hAe hP hK hD hS dX7_leapsOnce_152
              refine lv_if_ne (tgt := 120) hx hb dX7_leapsOnce_113 (by decide) (fun c37 => ?_) (fun c37 => ?_)
              · have hf := dq_f hf c37
                clear c37
                refine lv_iconst (v := 1) hx hb dX7_leapsOnce_120 (by decide) ?_
                exact J121 _ _ hf _ _ hP hD hS _ (lv_sub hl [1, 2, 4, 5, 0] rfl)
              · have hf := dq_t hf c37
                clear c37
                refine lv_iconst (v := 0) hx hb dX7_leapsOnce_116 (by decide) ?_
                refine lv_goto (tgt := 121) hx hb dX7_leapsOnce_117 (by decide) ?_
                exact J121 _ _ hf _ _ hP hD hS _ (lv_sub hl [1, 2, 4, 5, 0] rfl)
        refine lv_if_ge (tgt := 62) hx hb dX7_leapsOnce_54 (by decide) (fun c38 => ?_) (fun c38 => ?_)
        · have hf := dq_t hf c38
          clear c38
          refine lv_aload_n hx hb dX7_leapsOnce_62 rfl (lv_at hl 3 rfl) ?_
          refine lv_iload hx hb dX7_leapsOnce_63 (lv_at hl 1 rfl) ?_
          obtain ⟨x39, hy40, hf⟩ := dq_b hf
          refine ct_callV0 (ci := 6) (q0 := 0) (own := RX7) (As := [.int x9]) (rest := []) (ws' := (w_X7 y a r_airs r_sitters r_stepMany r_today r_taken r_isStill r_thrown r_letterMany r_at0 r_isBad r_statements r_stepsMany r_hasImage r_place0 r_isTaking r_keptIn r_turned r_rowMany r_seed r_warms r_shutAt r_kinds0 r_figures r_airAt r_ways r_crowned r_sitsAt r_shawls r_isOn r_stepOf r_stepBy r_refusals r_letters r_placeIn r_letterOf r_numbers r_stepsRead r_stepsBy r_kept r_keptWarms r_i_imaged r_imagedWarms r_turns0 r_turnWarms0 r_turnOf r_turnWarms r_row0 r_gains r_pegSort r_pegMany r_pegHolds r_coats r_coatsMoved)) ⟨hx, hb, hml, hown, hts⟩ (m_X7_sitterOn l D y a r_airs r_sitters r_stepMany r_today r_taken r_isStill r_thrown r_letterMany r_at0 r_isBad r_statements r_stepsMany r_hasImage r_place0 r_isTaking r_keptIn r_turned r_rowMany r_seed r_warms r_shutAt r_kinds0 r_figures r_airAt r_ways r_crowned r_sitsAt r_shawls r_isOn r_stepOf r_stepBy r_refusals r_letters r_placeIn r_letterOf r_numbers r_stepsRead r_stepsBy r_kept r_keptWarms r_i_imaged r_imagedWarms r_turns0 r_turnWarms0 r_turnOf r_turnWarms r_row0 r_gains r_pegSort r_pegMany r_pegHolds r_coats r_coatsMoved x9 x39 hy40) (cwV 1 hts (gA_V wl_438 wl_439 wl_440 wl_5 wl_441) rfl rfl rfl (by decide +kernel) ⟨Nat.le_of_ble_eq_true rfl, Nat.le_of_ble_eq_true rfl⟩) rfl rfl rfl hl.1 rfl (Nat.le_of_ble_eq_true rfl) dX7_leapsOnce_65 ⟨Nat.zero_le _, Nat.zero_le _⟩ hK hP hD hS hA (fun H locs hP hD hS => ?_)
          exact J68 _ hf _ _ hP hD hS _ (lv_sub hl [3, 4, 5, 2, 0] rfl)
        · have hf := dq_f hf c38
          clear c38
          refine lv_bipush (v := -9) hx hb dX7_leapsOnce_57 (by decide) ?_
          refine lv_goto (tgt := 68) hx hb dX7_leapsOnce_59 (by decide) ?_
          exact J68 _ hf _ _ hP hD hS _ (lv_sub hl [3, 4, 5, 2, 0] rfl)
  exact J2 4096 _ hf _ _ hP hD hS _ (lv_sub hl [1, 2, 0] rfl)
noncomputable def f_X7_walks_b2 (n0 : Int32) (r_airs : Int32) (r_sitters : Int32) (r_today : Int32) (r_warms : (Nat → UInt32)) (r_shutAt : (Nat → Int32)) (r_kinds0 : (Nat → Int32)) (r_figures : (Nat → Int32)) (r_airAt : (Nat → Int32)) (r_ways : (Nat → Int32)) (r_crowned : (Nat → Int32)) (r_sitsAt : (Nat → Int32)) (r_isOn : (Nat → Int32))  : Nat → Int32 → Option ((Nat → UInt32) × (Nat → Int32) × (Nat → Int32))
  | 0, _ => none
  | m2 + 1, x1 => dq_gd (vp_in n0 5) (dq_bd (f_X7_triesOf (r_crowned n0.toNatClampNeg)) (fun (x3 : Int32) => dq_if (x3 ≤ x1) (dq_gd (vp_in n0 5) (dq_gd (vp_in n0 5) (dq_let (upd r_ways n0.toNatClampNeg (((r_ways n0.toNatClampNeg) + (2 : Int32)) - ((r_ways n0.toNatClampNeg) + (2 : Int32)) / (4 : Int32) * (4 : Int32))) (fun (r_ways_8 : (Nat → Int32)) => some (r_warms, r_airAt, r_ways_8))))) (dq_gd (vp_in n0 5) (dq_let (((r_ways n0.toNatClampNeg) + x1) - ((r_ways n0.toNatClampNeg) + x1) / (4 : Int32) * (4 : Int32)) (fun (x10 : Int32) => dq_gd (vp_in n0 5) (dq_bd (f_X7_awayOf (r_airAt n0.toNatClampNeg) x10 (1 : Int32)) (fun (x12 : Int32) => dq_if (x12 < 0) (dq_let (x1 + (1 : Int32)) (fun (x15 : Int32) => (f_X7_walks_b2 n0 r_airs r_sitters r_today r_warms r_shutAt r_kinds0 r_figures r_airAt r_ways r_crowned r_sitsAt r_isOn m2) x15)) (dq_bd (f_X7_isFree r_airs r_sitters r_shutAt r_airAt r_sitsAt r_isOn x12) (fun (x16 : Int32) => dq_if (x16 = 0) (dq_let (x1 + (1 : Int32)) (fun (x19 : Int32) => (f_X7_walks_b2 n0 r_airs r_sitters r_today r_warms r_shutAt r_kinds0 r_figures r_airAt r_ways r_crowned r_sitsAt r_isOn m2) x19)) (dq_bd3 (f_X7_airComes r_today r_warms r_kinds0 r_figures r_airAt r_ways n0 x12 x10) (fun (r_warms_20 : (Nat → UInt32)) (r_airAt_21 : (Nat → Int32)) (r_ways_22 : (Nat → Int32)) => some (r_warms_20, r_airAt_21, r_ways_22))))))))))))
noncomputable def f_X7_walks (r_airs : Int32) (r_sitters : Int32) (r_today : Int32) (r_warms : (Nat → UInt32)) (r_shutAt : (Nat → Int32)) (r_kinds0 : (Nat → Int32)) (r_figures : (Nat → Int32)) (r_airAt : (Nat → Int32)) (r_ways : (Nat → Int32)) (r_crowned : (Nat → Int32)) (r_sitsAt : (Nat → Int32)) (r_isOn : (Nat → Int32)) (n0 : Int32) : Option ((Nat → UInt32) × (Nat → Int32) × (Nat → Int32)) := f_X7_walks_b2 n0 r_airs r_sitters r_today r_warms r_shutAt r_kinds0 r_figures r_airAt r_ways r_crowned r_sitsAt r_isOn 4096 (0 : Int32)
def wA_X7_walks : List Cond := .code yX7_walks cX7_walks 5 none :: wsL_law
-- DraughtsTakeModel.walks(I)V
set_option maxHeartbeats 4000000 in
set_option maxRecDepth 100000 in
theorem m_X7_walks (l : Launch) (D : va_G) (y : Nat → ClassId) (a : (Nat → Nat)) (r_airs : Int32) (r_sitters : Int32) (r_stepMany : Int32) (r_today : Int32) (r_taken : Int32) (r_isStill : Int32) (r_thrown : Int32) (r_letterMany : Int32) (r_at0 : Int32) (r_isBad : Int32) (r_statements : Int32) (r_stepsMany : Int32) (r_hasImage : Int32) (r_place0 : Int32) (r_isTaking : Int32) (r_keptIn : Value) (r_turned : Int32) (r_rowMany : Int32) (r_seed : Int32) (r_warms : (Nat → UInt32)) (r_shutAt : (Nat → Int32)) (r_kinds0 : (Nat → Int32)) (r_figures : (Nat → Int32)) (r_airAt : (Nat → Int32)) (r_ways : (Nat → Int32)) (r_crowned : (Nat → Int32)) (r_sitsAt : (Nat → Int32)) (r_shawls : (Nat → Int32)) (r_isOn : (Nat → Int32)) (r_stepOf : (Nat → Int32)) (r_stepBy : (Nat → Int32)) (r_refusals : (Nat → Int32)) (r_letters : (Nat → Int32)) (r_placeIn : (Nat → Int32)) (r_letterOf : (Nat → Int32)) (r_numbers : (Nat → Int32)) (r_stepsRead : (Nat → Int32)) (r_stepsBy : (Nat → Int32)) (r_kept : (Nat → Int32)) (r_keptWarms : (Nat → UInt32)) (r_i_imaged : (Nat → Int32)) (r_imagedWarms : (Nat → UInt32)) (r_turns0 : (Nat → Int32)) (r_turnWarms0 : (Nat → UInt32)) (r_turnOf : (Nat → Int32)) (r_turnWarms : (Nat → UInt32)) (r_row0 : (Nat → Int32)) (r_gains : (Nat → Int32)) (r_pegSort : (Nat → Int32)) (r_pegMany : (Nat → Int32)) (r_pegHolds : (Nat → Int32)) (r_coats : (Nat → Int32)) (r_coatsMoved : (Nat → Int32)) (n0 : Int32) (z0 : (Nat → UInt32)) (z1 : (Nat → Int32)) (z2 : (Nat → Int32)) (hf : f_X7_walks r_airs r_sitters r_today r_warms r_shutAt r_kinds0 r_figures r_airAt r_ways r_crowned r_sitsAt r_isOn n0 = some (z0, z1, z2)) : Ct l D y yX7_walks wA_X7_walks 3 72 [.ref (a 0), .int n0] (w_X7 y a r_airs r_sitters r_stepMany r_today r_taken r_isStill r_thrown r_letterMany r_at0 r_isBad r_statements r_stepsMany r_hasImage r_place0 r_isTaking r_keptIn r_turned r_rowMany r_seed r_warms r_shutAt r_kinds0 r_figures r_airAt r_ways r_crowned r_sitsAt r_shawls r_isOn r_stepOf r_stepBy r_refusals r_letters r_placeIn r_letterOf r_numbers r_stepsRead r_stepsBy r_kept r_keptWarms r_i_imaged r_imagedWarms r_turns0 r_turnWarms0 r_turnOf r_turnWarms r_row0 r_gains r_pegSort r_pegMany r_pegHolds r_coats r_coatsMoved) (w_X7 y a r_airs r_sitters r_stepMany r_today r_taken r_isStill r_thrown r_letterMany r_at0 r_isBad r_statements r_stepsMany r_hasImage r_place0 r_isTaking r_keptIn r_turned r_rowMany r_seed z0 r_shutAt r_kinds0 r_figures z1 z2 r_crowned r_sitsAt r_shawls r_isOn r_stepOf r_stepBy r_refusals r_letters r_placeIn r_letterOf r_numbers r_stepsRead r_stepsBy r_kept r_keptWarms r_i_imaged r_imagedWarms r_turns0 r_turnWarms0 r_turnOf r_turnWarms r_row0 r_gains r_pegSort r_pegMany r_pegHolds r_coats r_coatsMoved) none := by
  refine ct_head (cc := cX7_walks) (n := 5) (ret := none) (by decide) rfl (Nat.le_of_ble_eq_true rfl) ?_
  intro p e s m below meth c A ls hx hb hr hml hown hlocks hts hA hAe hP hK hD hl
  have hS : va_S A s.heap s.heap [] := va_S.rf
  have hl : lv_has ls 5 [(0, .ref (a 0)), (1, .int n0)] := hl
  have hown : s.vm.findClass RX7 = some m.cls := hown
  have hts : ∀ w ∈ wsL_law, w.before [.ref (a 0), .int n0].toArray s = true := fun w h => hts w (List.mem_cons_of_mem _ h)
  unfold f_X7_walks at hf
  refine lv_iconst (v := 0) hx hb dX7_walks_0 (by decide) ?_
  refine lv_istore_n (lv' := [(2, .int (0 : Int32)), (0, .ref (a 0)), (1, .int n0)]) hx hb dX7_walks_1 rfl hl (by decide) rfl (fun ls hl => ?_)
  have J2 : ∀ (m2 : Nat) (x1 : Int32), f_X7_walks_b2 n0 r_airs r_sitters r_today r_warms r_shutAt r_kinds0 r_figures r_airAt r_ways r_crowned r_sitsAt r_isOn m2 x1 = some (z0, z1, z2) → ∀ (H : Heap) (locs : List Loc), va_P D vwCl (w_X7 y a r_airs r_sitters r_stepMany r_today r_taken r_isStill r_thrown r_letterMany r_at0 r_isBad r_statements r_stepsMany r_hasImage r_place0 r_isTaking r_keptIn r_turned r_rowMany r_seed r_warms r_shutAt r_kinds0 r_figures r_airAt r_ways r_crowned r_sitsAt r_shawls r_isOn r_stepOf r_stepBy r_refusals r_letters r_placeIn r_letterOf r_numbers r_stepsRead r_stepsBy r_kept r_keptWarms r_i_imaged r_imagedWarms r_turns0 r_turnWarms0 r_turnOf r_turnWarms r_row0 r_gains r_pegSort r_pegMany r_pegHolds r_coats r_coatsMoved) H → va_D A (w_X7 y a r_airs r_sitters r_stepMany r_today r_taken r_isStill r_thrown r_letterMany r_at0 r_isBad r_statements r_stepsMany r_hasImage r_place0 r_isTaking r_keptIn r_turned r_rowMany r_seed r_warms r_shutAt r_kinds0 r_figures r_airAt r_ways r_crowned r_sitsAt r_shawls r_isOn r_stepOf r_stepBy r_refusals r_letters r_placeIn r_letterOf r_numbers r_stepsRead r_stepsBy r_kept r_keptWarms r_i_imaged r_imagedWarms r_turns0 r_turnWarms0 r_turnOf r_turnWarms r_row0 r_gains r_pegSort r_pegMany r_pegHolds r_coats r_coatsMoved) → va_S A s.heap H locs → ∀ ls : Array Slot, lv_has ls 5 [(0, .ref (a 0)), (1, .int n0), (2, .int x1)] → W p l e ({ frames := 3, cells := 0, slots := 0, locals := 72 } : Room) s m [.ref (a 0), .int n0].toArray below meth c H locs 0 0 (MQ below (dQ D y none s.heap.size (w_X7 y a r_airs r_sitters r_stepMany r_today r_taken r_isStill r_thrown r_letterMany r_at0 r_isBad r_statements r_stepsMany r_hasImage r_place0 r_isTaking r_keptIn r_turned r_rowMany r_seed r_warms r_shutAt r_kinds0 r_figures r_airAt r_ways r_crowned r_sitsAt r_shawls r_isOn r_stepOf r_stepBy r_refusals r_letters r_placeIn r_letterOf r_numbers r_stepsRead r_stepsBy r_kept r_keptWarms r_i_imaged r_imagedWarms r_turns0 r_turnWarms0 r_turnOf r_turnWarms r_row0 r_gains r_pegSort r_pegMany r_pegHolds r_coats r_coatsMoved) (w_X7 y a r_airs r_sitters r_stepMany r_today r_taken r_isStill r_thrown r_letterMany r_at0 r_isBad r_statements r_stepsMany r_hasImage r_place0 r_isTaking r_keptIn r_turned r_rowMany r_seed z0 r_shutAt r_kinds0 r_figures z1 z2 r_crowned r_sitsAt r_shawls r_isOn r_stepOf r_stepBy r_refusals r_letters r_placeIn r_letterOf r_numbers r_stepsRead r_stepsBy r_kept r_keptWarms r_i_imaged r_imagedWarms r_turns0 r_turnWarms0 r_turnOf r_turnWarms r_row0 r_gains r_pegSort r_pegMany r_pegHolds r_coats r_coatsMoved)) [.ref (a 0), .int n0].toArray s 0 0 A) (F0 m 2 ls []) := by
    intro m2
    induction m2 with
    | zero => intro x1 hf; exact absurd hf (by unfold f_X7_walks_b2; exact fun h => by cases h)
    | succ m2 I2 =>
      intro x1 hf H locs hP hD hS ls hl
      unfold f_X7_walks_b2 at hf
      refine lv_iload_n hx hb dX7_walks_2 rfl (lv_at hl 2 rfl) ?_
      refine lv_aload_n hx hb dX7_walks_3 rfl (lv_at hl 0 rfl) ?_
      refine va_get (D := D) (ci := 6) (v := .ref (a 7)) (C := RX7) (T := TX7) (N := 53) hx hb hts iwX7 hown hK hP 0 rfl rfl 7 (by decide) (hts _ wl_87) (fun _ h9 => h9) rfl dX7_walks_4 ?_
      refine lv_iload_n hx hb dX7_walks_7 rfl (lv_at hl 1 rfl) ?_
      obtain ⟨h2, hf⟩ := dq_g hf
      refine va_iald (cA := y 1) (n := 5) (f := r_crowned) hx hb hK hP 7 1 rfl rfl h2 dX7_walks_8 ?_
      obtain ⟨x3, hy4, hf⟩ := dq_b hf
      refine ct_callS0 (own := RX7) (As := [.int (r_crowned n0.toNatClampNeg)]) (rest := [.int x1]) ⟨hx, hb, hml, hown, hts⟩ (m_X7_triesOf l D y (r_crowned n0.toNatClampNeg) x3 hy4) (va_cwS 1 hts (gA_S wl_497 wl_498 wl_5 wl_499) rfl rfl rfl (by decide +kernel) ⟨Nat.le_of_ble_eq_true rfl, Nat.le_of_ble_eq_true rfl⟩) rfl hl.1 rfl (Nat.le_of_ble_eq_true rfl) dX7_walks_9 ⟨Nat.zero_le _, Nat.zero_le _⟩ hK hP hD hS hA (fun H locs hP hD hS => ?_)
      refine lv_icmp_ge (tgt := 68) hx hb dX7_walks_12 (by decide) (fun c5 => ?_) (fun c5 => ?_)
      · have hf := dq_t hf c5
        clear c5
        refine lv_aload_n hx hb dX7_walks_68 rfl (lv_at hl 0 rfl) ?_
        refine va_get (D := D) (ci := 6) (v := .ref (a 6)) (C := RX7) (T := TX7) (N := 53) hx hb hts iwX7 hown hK hP 0 rfl rfl 6 (by decide) (hts _ wl_86) (fun _ h9 => h9) rfl dX7_walks_69 ?_
        refine lv_iload_n hx hb dX7_walks_72 rfl (lv_at hl 1 rfl) ?_
        refine lv_aload_n hx hb dX7_walks_73 rfl (lv_at hl 0 rfl) ?_
        refine va_get (D := D) (ci := 6) (v := .ref (a 6)) (C := RX7) (T := TX7) (N := 53) hx hb hts iwX7 hown hK hP 0 rfl rfl 6 (by decide) (hts _ wl_86) (fun _ h9 => h9) rfl dX7_walks_74 ?_
        refine lv_iload_n hx hb dX7_walks_77 rfl (lv_at hl 1 rfl) ?_
        obtain ⟨h6, hf⟩ := dq_g hf
        refine va_iald (cA := y 1) (n := 5) (f := r_ways) hx hb hK hP 6 1 rfl rfl h6 dX7_walks_78 ?_
        refine lv_iconst (v := 2) hx hb dX7_walks_79 (by decide) ?_
        refine lv_iadd hx hb dX7_walks_80 ?_
        refine lv_iconst (v := 4) hx hb dX7_walks_81 (by decide) ?_
        refine lv_irem hx hb dX7_walks_82 (by decide) ?_
        obtain ⟨h7, hf⟩ := dq_g hf
        refine dq_iast (cA := y 1) (n := 5) (f := r_ways) hx hb hK hP hD hS 6 1 rfl rfl h7 dX7_walks_83 (fun r_ways_8 er_ways_8 H locs hP hD hS => ?_)
        have hf := dq_l hf r_ways_8 er_ways_8
        clear er_ways_8
        have hP : va_P D vwCl (w_X7 y a r_airs r_sitters r_stepMany r_today r_taken r_isStill r_thrown r_letterMany r_at0 r_isBad r_statements r_stepsMany r_hasImage r_place0 r_isTaking r_keptIn r_turned r_rowMany r_seed r_warms r_shutAt r_kinds0 r_figures r_airAt r_ways_8 r_crowned r_sitsAt r_shawls r_isOn r_stepOf r_stepBy r_refusals r_letters r_placeIn r_letterOf r_numbers r_stepsRead r_stepsBy r_kept r_keptWarms r_i_imaged r_imagedWarms r_turns0 r_turnWarms0 r_turnOf r_turnWarms r_row0 r_gains r_pegSort r_pegMany r_pegHolds r_coats r_coatsMoved) H := hP
        have hD : va_D A (w_X7 y a r_airs r_sitters r_stepMany r_today r_taken r_isStill r_thrown r_letterMany r_at0 r_isBad r_statements r_stepsMany r_hasImage r_place0 r_isTaking r_keptIn r_turned r_rowMany r_seed r_warms r_shutAt r_kinds0 r_figures r_airAt r_ways_8 r_crowned r_sitsAt r_shawls r_isOn r_stepOf r_stepBy r_refusals r_letters r_placeIn r_letterOf r_numbers r_stepsRead r_stepsBy r_kept r_keptWarms r_i_imaged r_imagedWarms r_turns0 r_turnWarms0 r_turnOf r_turnWarms r_row0 r_gains r_pegSort r_pegMany r_pegHolds r_coats r_coatsMoved) := hD
        obtain ⟨rfl, rfl, rfl⟩ := dq_r3 hf
        exact ct_vret hx hb hr hlocks hAe hP hK hD hS dX7_walks_84
      · have hf := dq_f hf c5
        clear c5
        refine lv_aload_n hx hb dX7_walks_15 rfl (lv_at hl 0 rfl) ?_
        refine va_get (D := D) (ci := 6) (v := .ref (a 6)) (C := RX7) (T := TX7) (N := 53) hx hb hts iwX7 hown hK hP 0 rfl rfl 6 (by decide) (hts _ wl_86) (fun _ h9 => h9) rfl dX7_walks_16 ?_
        refine lv_iload_n hx hb dX7_walks_19 rfl (lv_at hl 1 rfl) ?_
        obtain ⟨h9, hf⟩ := dq_g hf
        refine va_iald (cA := y 1) (n := 5) (f := r_ways) hx hb hK hP 6 1 rfl rfl h9 dX7_walks_20 ?_
        refine lv_iload_n hx hb dX7_walks_21 rfl (lv_at hl 2 rfl) ?_
        refine lv_iadd hx hb dX7_walks_22 ?_
        refine lv_iconst (v := 4) hx hb dX7_walks_23 (by decide) ?_
        refine lv_irem hx hb dX7_walks_24 (by decide) ?_
        refine lv_topi (fun x10 ex10 => ?_)
        have hf := dq_l hf x10 ex10
        clear ex10
        refine lv_istore_n (lv' := [(3, .int x10), (0, .ref (a 0)), (1, .int n0), (2, .int x1)]) hx hb dX7_walks_25 rfl hl (by decide) rfl (fun ls hl => ?_)
        refine lv_aload_n hx hb dX7_walks_26 rfl (lv_at hl 1 rfl) ?_
        refine va_get (D := D) (ci := 6) (v := .ref (a 5)) (C := RX7) (T := TX7) (N := 53) hx hb hts iwX7 hown hK hP 0 rfl rfl 5 (by decide) (hts _ wl_85) (fun _ h9 => h9) rfl dX7_walks_27 ?_
        refine lv_iload_n hx hb dX7_walks_30 rfl (lv_at hl 2 rfl) ?_
        obtain ⟨h11, hf⟩ := dq_g hf
        refine va_iald (cA := y 1) (n := 5) (f := r_airAt) hx hb hK hP 5 1 rfl rfl h11 dX7_walks_31 ?_
        refine lv_iload_n hx hb dX7_walks_32 rfl (lv_at hl 0 rfl) ?_
        refine lv_iconst (v := 1) hx hb dX7_walks_33 (by decide) ?_
        obtain ⟨x12, hy13, hf⟩ := dq_b hf
        refine ct_callS0 (own := RX7) (As := [.int (r_airAt n0.toNatClampNeg), .int x10, .int (1 : Int32)]) (rest := []) ⟨hx, hb, hml, hown, hts⟩ (m_X7_awayOf l D y (r_airAt n0.toNatClampNeg) x10 (1 : Int32) x12 hy13) (va_cwS 3 hts (gA_S wl_500 wl_501 wl_5 wl_502) rfl rfl rfl (by decide +kernel) ⟨Nat.le_of_ble_eq_true rfl, Nat.le_of_ble_eq_true rfl⟩) rfl hl.1 rfl (Nat.le_of_ble_eq_true rfl) dX7_walks_34 ⟨Nat.zero_le _, Nat.zero_le _⟩ hK hP hD hS hA (fun H locs hP hD hS => ?_)
        refine lv_istore (lv' := [(4, .int x12), (3, .int x10), (0, .ref (a 0)), (1, .int n0), (2, .int x1)]) hx hb dX7_walks_37 hl (by decide) rfl (fun ls hl => ?_)
        refine lv_iload hx hb dX7_walks_39 (lv_at hl 0 rfl) ?_
        refine lv_if_lt (tgt := 62) hx hb dX7_walks_41 (by decide) (fun c14 => ?_) (fun c14 => ?_)
        · have hf := dq_t hf c14
          clear c14
          obtain ⟨x15, ex15⟩ : ∃ z : Int32, z = (x1 + (1 : Int32)) := ⟨_, rfl⟩
          have hf := dq_l hf x15 ex15
          refine lv_iinc (v := x15) (lv' := [(2, .int x15), (4, .int x12), (3, .int x10), (0, .ref (a 0)), (1, .int n0)]) hx hb dX7_walks_62 hl (k := 4) rfl (by rw [ex15]; rfl) (by decide) rfl (fun ls hl => ?_)
          clear ex15
          refine lv_goto (tgt := 2) hx hb dX7_walks_65 (by decide) ?_
          exact I2 _ hf _ _ hP hD hS _ (lv_sub hl [3, 4, 0] rfl)
        · have hf := dq_f hf c14
          clear c14
          refine lv_aload_n hx hb dX7_walks_44 rfl (lv_at hl 2 rfl) ?_
          refine lv_iload hx hb dX7_walks_45 (lv_at hl 0 rfl) ?_
          obtain ⟨x16, hy17, hf⟩ := dq_b hf
          refine ct_callV0 (ci := 6) (q0 := 0) (own := RX7) (As := [.int x12]) (rest := []) (ws' := (w_X7 y a r_airs r_sitters r_stepMany r_today r_taken r_isStill r_thrown r_letterMany r_at0 r_isBad r_statements r_stepsMany r_hasImage r_place0 r_isTaking r_keptIn r_turned r_rowMany r_seed r_warms r_shutAt r_kinds0 r_figures r_airAt r_ways r_crowned r_sitsAt r_shawls r_isOn r_stepOf r_stepBy r_refusals r_letters r_placeIn r_letterOf r_numbers r_stepsRead r_stepsBy r_kept r_keptWarms r_i_imaged r_imagedWarms r_turns0 r_turnWarms0 r_turnOf r_turnWarms r_row0 r_gains r_pegSort r_pegMany r_pegHolds r_coats r_coatsMoved)) ⟨hx, hb, hml, hown, hts⟩ (m_X7_isFree l D y a r_airs r_sitters r_stepMany r_today r_taken r_isStill r_thrown r_letterMany r_at0 r_isBad r_statements r_stepsMany r_hasImage r_place0 r_isTaking r_keptIn r_turned r_rowMany r_seed r_warms r_shutAt r_kinds0 r_figures r_airAt r_ways r_crowned r_sitsAt r_shawls r_isOn r_stepOf r_stepBy r_refusals r_letters r_placeIn r_letterOf r_numbers r_stepsRead r_stepsBy r_kept r_keptWarms r_i_imaged r_imagedWarms r_turns0 r_turnWarms0 r_turnOf r_turnWarms r_row0 r_gains r_pegSort r_pegMany r_pegHolds r_coats r_coatsMoved x12 x16 hy17) (cwV 1 hts (gA_V wl_426 wl_427 wl_428 wl_5 wl_429) rfl rfl rfl (by decide +kernel) ⟨Nat.le_of_ble_eq_true rfl, Nat.le_of_ble_eq_true rfl⟩) rfl rfl rfl hl.1 rfl (Nat.le_of_ble_eq_true rfl) dX7_walks_47 ⟨Nat.zero_le _, Nat.zero_le _⟩ hK hP hD hS hA (fun H locs hP hD hS => ?_)
          refine lv_if_eq (tgt := 62) hx hb dX7_walks_50 (by decide) (fun c18 => ?_) (fun c18 => ?_)
          · have hf := dq_t hf c18
            clear c18
            obtain ⟨x19, ex19⟩ : ∃ z : Int32, z = (x1 + (1 : Int32)) := ⟨_, rfl⟩
            have hf := dq_l hf x19 ex19
            refine lv_iinc (v := x19) (lv' := [(2, .int x19), (4, .int x12), (3, .int x10), (0, .ref (a 0)), (1, .int n0)]) hx hb dX7_walks_62 hl (k := 4) rfl (by rw [ex19]; rfl) (by decide) rfl (fun ls hl => ?_)
            clear ex19
            refine lv_goto (tgt := 2) hx hb dX7_walks_65 (by decide) ?_
            exact I2 _ hf _ _ hP hD hS _ (lv_sub hl [3, 4, 0] rfl)
          · have hf := dq_f hf c18
            clear c18
            refine lv_aload_n hx hb dX7_walks_53 rfl (lv_at hl 2 rfl) ?_
            refine lv_iload_n hx hb dX7_walks_54 rfl (lv_at hl 3 rfl) ?_
            refine lv_iload hx hb dX7_walks_55 (lv_at hl 0 rfl) ?_
            refine lv_iload_n hx hb dX7_walks_57 rfl (lv_at hl 1 rfl) ?_
            obtain ⟨r_warms_20, r_airAt_21, r_ways_22, hy23, hf⟩ := dq_b3 hf
            refine ct_callV0 (ci := 6) (q0 := 0) (own := RX7) (As := [.int n0, .int x12, .int x10]) (rest := []) (ws' := (w_X7 y a r_airs r_sitters r_stepMany r_today r_taken r_isStill r_thrown r_letterMany r_at0 r_isBad r_statements r_stepsMany r_hasImage r_place0 r_isTaking r_keptIn r_turned r_rowMany r_seed r_warms_20 r_shutAt r_kinds0 r_figures r_airAt_21 r_ways_22 r_crowned r_sitsAt r_shawls r_isOn r_stepOf r_stepBy r_refusals r_letters r_placeIn r_letterOf r_numbers r_stepsRead r_stepsBy r_kept r_keptWarms r_i_imaged r_imagedWarms r_turns0 r_turnWarms0 r_turnOf r_turnWarms r_row0 r_gains r_pegSort r_pegMany r_pegHolds r_coats r_coatsMoved)) ⟨hx, hb, hml, hown, hts⟩ (m_X7_airComes l D y a r_airs r_sitters r_stepMany r_today r_taken r_isStill r_thrown r_letterMany r_at0 r_isBad r_statements r_stepsMany r_hasImage r_place0 r_isTaking r_keptIn r_turned r_rowMany r_seed r_warms r_shutAt r_kinds0 r_figures r_airAt r_ways r_crowned r_sitsAt r_shawls r_isOn r_stepOf r_stepBy r_refusals r_letters r_placeIn r_letterOf r_numbers r_stepsRead r_stepsBy r_kept r_keptWarms r_i_imaged r_imagedWarms r_turns0 r_turnWarms0 r_turnOf r_turnWarms r_row0 r_gains r_pegSort r_pegMany r_pegHolds r_coats r_coatsMoved n0 x12 x10 r_warms_20 r_airAt_21 r_ways_22 hy23) (cwV 3 hts (gA_V wl_504 wl_505 wl_506 wl_5 wl_507) rfl rfl rfl (by decide +kernel) ⟨Nat.le_of_ble_eq_true rfl, Nat.le_of_ble_eq_true rfl⟩) rfl rfl rfl hl.1 rfl (Nat.le_of_ble_eq_true rfl) dX7_walks_58 ⟨Nat.zero_le _, Nat.zero_le _⟩ hK hP hD hS hA (fun H locs hP hD hS => ?_)
            obtain ⟨rfl, rfl, rfl⟩ := dq_r3 hf
            exact ct_vret hx hb hr hlocks hAe hP hK hD hS dX7_walks_61
  exact J2 4096 _ hf _ _ hP hD hS _ (lv_sub hl [1, 2, 0] rfl)
