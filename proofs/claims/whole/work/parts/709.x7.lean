noncomputable def f_X7_hearthTold_b31 (n0 : Int32) (n1 : Int32) (r_stepsRead : (Nat → Int32)) (r_stepsBy : (Nat → Int32)) (x1 : Int32) (x2 : Int32)  : Nat → Int32 → (Nat → Int32) → (Nat → Int32) → Option (Int32 × Int32 × (Nat → Int32) × (Nat → Int32))
  | 0, _, _, _ => none
  | m31 + 1, x3, r_stepOf_4, r_stepBy_5 => dq_if (x1 = 0) (dq_gd (dq_z x1) (some (x1, x2, r_stepOf_4, r_stepBy_5))) (dq_if (n1 ≤ x3) (dq_gd (dq_z x1) (some (x1, x2, r_stepOf_4, r_stepBy_5))) (dq_gd (vp_in (n0 + x3) 96) (dq_gd (vp_in x3 6) (dq_let (upd r_stepOf_4 x3.toNatClampNeg (r_stepsRead (n0 + x3).toNatClampNeg)) (fun (r_stepOf_12 : (Nat → Int32)) => dq_gd (vp_in (n0 + x3) 96) (dq_gd (vp_in x3 6) (dq_let (upd r_stepBy_5 x3.toNatClampNeg (r_stepsBy (n0 + x3).toNatClampNeg)) (fun (r_stepBy_15 : (Nat → Int32)) => dq_let (x3 + (1 : Int32)) (fun (x16 : Int32) => (f_X7_hearthTold_b31 n0 n1 r_stepsRead r_stepsBy x1 x2 m31) x16 r_stepOf_12 r_stepBy_15)))))))))
noncomputable def f_X7_hearthTold_b25 (n0 : Int32) (n1 : Int32) (r_stepOf : (Nat → Int32)) (r_stepBy : (Nat → Int32)) (r_stepsRead : (Nat → Int32)) (r_stepsBy : (Nat → Int32)) (x1 : Int32)  (x2 : Int32) : Option (Int32 × Int32 × (Nat → Int32) × (Nat → Int32)) := f_X7_hearthTold_b31 n0 n1 r_stepsRead r_stepsBy x1 x2 4096 (0 : Int32) r_stepOf r_stepBy
noncomputable def f_X7_hearthTold_b11 (n0 : Int32) (n1 : Int32) (r_stepMany : Int32) (r_stepOf : (Nat → Int32)) (r_stepBy : (Nat → Int32)) (r_stepsRead : (Nat → Int32)) (r_stepsBy : (Nat → Int32))  (x1 : Int32) : Option (Int32 × Int32 × (Nat → Int32) × (Nat → Int32)) := dq_if (x1 = 0) (f_X7_hearthTold_b25 n0 n1 r_stepOf r_stepBy r_stepsRead r_stepsBy x1 r_stepMany) (f_X7_hearthTold_b25 n0 n1 r_stepOf r_stepBy r_stepsRead r_stepsBy x1 n1)
noncomputable def f_X7_hearthTold (r_stepMany : Int32) (r_stepOf : (Nat → Int32)) (r_stepBy : (Nat → Int32)) (r_stepsRead : (Nat → Int32)) (r_stepsBy : (Nat → Int32)) (n0 : Int32) (n1 : Int32) : Option (Int32 × Int32 × (Nat → Int32) × (Nat → Int32)) := dq_if ((6 : Int32) < n1) (f_X7_hearthTold_b11 n0 n1 r_stepMany r_stepOf r_stepBy r_stepsRead r_stepsBy (0 : Int32)) (f_X7_hearthTold_b11 n0 n1 r_stepMany r_stepOf r_stepBy r_stepsRead r_stepsBy (1 : Int32))
def wA_X7_hearthTold : List Cond := .code yX7_hearthTold cX7_hearthTold 5 (some .boolean) :: wsL_law
-- DraughtsTakeModel.hearthTold(II)Z
set_option maxHeartbeats 4000000 in
set_option maxRecDepth 100000 in
theorem m_X7_hearthTold (l : Launch) (D : va_G) (y : Nat → ClassId) (a : (Nat → Nat)) (r_airs : Int32) (r_sitters : Int32) (r_stepMany : Int32) (r_today : Int32) (r_taken : Int32) (r_isStill : Int32) (r_thrown : Int32) (r_letterMany : Int32) (r_at0 : Int32) (r_isBad : Int32) (r_statements : Int32) (r_stepsMany : Int32) (r_hasImage : Int32) (r_place0 : Int32) (r_isTaking : Int32) (r_keptIn : Value) (r_turned : Int32) (r_rowMany : Int32) (r_seed : Int32) (r_warms : (Nat → UInt32)) (r_shutAt : (Nat → Int32)) (r_kinds0 : (Nat → Int32)) (r_figures : (Nat → Int32)) (r_airAt : (Nat → Int32)) (r_ways : (Nat → Int32)) (r_crowned : (Nat → Int32)) (r_sitsAt : (Nat → Int32)) (r_shawls : (Nat → Int32)) (r_isOn : (Nat → Int32)) (r_stepOf : (Nat → Int32)) (r_stepBy : (Nat → Int32)) (r_refusals : (Nat → Int32)) (r_letters : (Nat → Int32)) (r_placeIn : (Nat → Int32)) (r_letterOf : (Nat → Int32)) (r_numbers : (Nat → Int32)) (r_stepsRead : (Nat → Int32)) (r_stepsBy : (Nat → Int32)) (r_kept : (Nat → Int32)) (r_keptWarms : (Nat → UInt32)) (r_i_imaged : (Nat → Int32)) (r_imagedWarms : (Nat → UInt32)) (r_turns0 : (Nat → Int32)) (r_turnWarms0 : (Nat → UInt32)) (r_turnOf : (Nat → Int32)) (r_turnWarms : (Nat → UInt32)) (r_row0 : (Nat → Int32)) (r_gains : (Nat → Int32)) (r_pegSort : (Nat → Int32)) (r_pegMany : (Nat → Int32)) (r_pegHolds : (Nat → Int32)) (r_coats : (Nat → Int32)) (r_coatsMoved : (Nat → Int32)) (n0 : Int32) (n1 : Int32) (z0 : Int32) (z1 : Int32) (z2 : (Nat → Int32)) (z3 : (Nat → Int32)) (hf : f_X7_hearthTold r_stepMany r_stepOf r_stepBy r_stepsRead r_stepsBy n0 n1 = some (z0, z1, z2, z3)) : Ct l D y yX7_hearthTold wA_X7_hearthTold 0 0 [.ref (a 0), .int n0, .int n1] (w_X7 y a r_airs r_sitters r_stepMany r_today r_taken r_isStill r_thrown r_letterMany r_at0 r_isBad r_statements r_stepsMany r_hasImage r_place0 r_isTaking r_keptIn r_turned r_rowMany r_seed r_warms r_shutAt r_kinds0 r_figures r_airAt r_ways r_crowned r_sitsAt r_shawls r_isOn r_stepOf r_stepBy r_refusals r_letters r_placeIn r_letterOf r_numbers r_stepsRead r_stepsBy r_kept r_keptWarms r_i_imaged r_imagedWarms r_turns0 r_turnWarms0 r_turnOf r_turnWarms r_row0 r_gains r_pegSort r_pegMany r_pegHolds r_coats r_coatsMoved) (w_X7 y a r_airs r_sitters z1 r_today r_taken r_isStill r_thrown r_letterMany r_at0 r_isBad r_statements r_stepsMany r_hasImage r_place0 r_isTaking r_keptIn r_turned r_rowMany r_seed r_warms r_shutAt r_kinds0 r_figures r_airAt r_ways r_crowned r_sitsAt r_shawls r_isOn z2 z3 r_refusals r_letters r_placeIn r_letterOf r_numbers r_stepsRead r_stepsBy r_kept r_keptWarms r_i_imaged r_imagedWarms r_turns0 r_turnWarms0 r_turnOf r_turnWarms r_row0 r_gains r_pegSort r_pegMany r_pegHolds r_coats r_coatsMoved) (some (.int z0)) := by
  refine ct_head (cc := cX7_hearthTold) (n := 5) (ret := (some .boolean)) (by decide) rfl (Nat.le_of_ble_eq_true rfl) ?_
  intro p e s m below meth c A ls hx hb hr hml hown hlocks hts hA hAe hP hK hD hl
  have hS : va_S A s.heap s.heap [] := va_S.rf
  have hl : lv_has ls 5 [(0, .ref (a 0)), (1, .int n0), (2, .int n1)] := hl
  have hown : s.vm.findClass RX7 = some m.cls := hown
  have hts : ∀ w ∈ wsL_law, w.before [.ref (a 0), .int n0, .int n1].toArray s = true := fun w h => hts w (List.mem_cons_of_mem _ h)
  unfold f_X7_hearthTold at hf
  refine lv_iload_n hx hb dX7_hearthTold_0 rfl (lv_at hl 2 rfl) ?_
  refine lv_bipush (v := 6) hx hb dX7_hearthTold_1 (by decide) ?_
  have J11 : ∀ (x1 : Int32), f_X7_hearthTold_b11 n0 n1 r_stepMany r_stepOf r_stepBy r_stepsRead r_stepsBy x1 = some (z0, z1, z2, z3) → ∀ (H : Heap) (locs : List Loc), va_P D vwCl (w_X7 y a r_airs r_sitters r_stepMany r_today r_taken r_isStill r_thrown r_letterMany r_at0 r_isBad r_statements r_stepsMany r_hasImage r_place0 r_isTaking r_keptIn r_turned r_rowMany r_seed r_warms r_shutAt r_kinds0 r_figures r_airAt r_ways r_crowned r_sitsAt r_shawls r_isOn r_stepOf r_stepBy r_refusals r_letters r_placeIn r_letterOf r_numbers r_stepsRead r_stepsBy r_kept r_keptWarms r_i_imaged r_imagedWarms r_turns0 r_turnWarms0 r_turnOf r_turnWarms r_row0 r_gains r_pegSort r_pegMany r_pegHolds r_coats r_coatsMoved) H → va_D A (w_X7 y a r_airs r_sitters r_stepMany r_today r_taken r_isStill r_thrown r_letterMany r_at0 r_isBad r_statements r_stepsMany r_hasImage r_place0 r_isTaking r_keptIn r_turned r_rowMany r_seed r_warms r_shutAt r_kinds0 r_figures r_airAt r_ways r_crowned r_sitsAt r_shawls r_isOn r_stepOf r_stepBy r_refusals r_letters r_placeIn r_letterOf r_numbers r_stepsRead r_stepsBy r_kept r_keptWarms r_i_imaged r_imagedWarms r_turns0 r_turnWarms0 r_turnOf r_turnWarms r_row0 r_gains r_pegSort r_pegMany r_pegHolds r_coats r_coatsMoved) → va_S A s.heap H locs → ∀ ls : Array Slot, lv_has ls 5 [(0, .ref (a 0)), (1, .int n0), (2, .int n1)] → W p l e ({ frames := 0, cells := 0, slots := 0, locals := 0 } : Room) s m [.ref (a 0), .int n0, .int n1].toArray below meth c H locs 0 0 (MQ below (dQ D y (some (.int z0)) s.heap.size (w_X7 y a r_airs r_sitters r_stepMany r_today r_taken r_isStill r_thrown r_letterMany r_at0 r_isBad r_statements r_stepsMany r_hasImage r_place0 r_isTaking r_keptIn r_turned r_rowMany r_seed r_warms r_shutAt r_kinds0 r_figures r_airAt r_ways r_crowned r_sitsAt r_shawls r_isOn r_stepOf r_stepBy r_refusals r_letters r_placeIn r_letterOf r_numbers r_stepsRead r_stepsBy r_kept r_keptWarms r_i_imaged r_imagedWarms r_turns0 r_turnWarms0 r_turnOf r_turnWarms r_row0 r_gains r_pegSort r_pegMany r_pegHolds r_coats r_coatsMoved) (w_X7 y a r_airs r_sitters z1 r_today r_taken r_isStill r_thrown r_letterMany r_at0 r_isBad r_statements r_stepsMany r_hasImage r_place0 r_isTaking r_keptIn r_turned r_rowMany r_seed r_warms r_shutAt r_kinds0 r_figures r_airAt r_ways r_crowned r_sitsAt r_shawls r_isOn z2 z3 r_refusals r_letters r_placeIn r_letterOf r_numbers r_stepsRead r_stepsBy r_kept r_keptWarms r_i_imaged r_imagedWarms r_turns0 r_turnWarms0 r_turnOf r_turnWarms r_row0 r_gains r_pegSort r_pegMany r_pegHolds r_coats r_coatsMoved)) [.ref (a 0), .int n0, .int n1].toArray s 0 0 A) (F0 m 11 ls [.int x1]) := by
    intro x1 hf H locs hP hD hS ls hl
    unfold f_X7_hearthTold_b11 at hf
    refine lv_istore_n (lv' := [(3, .int x1), (0, .ref (a 0)), (1, .int n0), (2, .int n1)]) hx hb dX7_hearthTold_11 rfl hl (by decide) rfl (fun ls hl => ?_)
    refine lv_aload_n hx hb dX7_hearthTold_12 rfl (lv_at hl 1 rfl) ?_
    refine lv_iload_n hx hb dX7_hearthTold_13 rfl (lv_at hl 0 rfl) ?_
    have J25 : ∀ (x2 : Int32), f_X7_hearthTold_b25 n0 n1 r_stepOf r_stepBy r_stepsRead r_stepsBy x1 x2 = some (z0, z1, z2, z3) → ∀ (H : Heap) (locs : List Loc), va_P D vwCl (w_X7 y a r_airs r_sitters r_stepMany r_today r_taken r_isStill r_thrown r_letterMany r_at0 r_isBad r_statements r_stepsMany r_hasImage r_place0 r_isTaking r_keptIn r_turned r_rowMany r_seed r_warms r_shutAt r_kinds0 r_figures r_airAt r_ways r_crowned r_sitsAt r_shawls r_isOn r_stepOf r_stepBy r_refusals r_letters r_placeIn r_letterOf r_numbers r_stepsRead r_stepsBy r_kept r_keptWarms r_i_imaged r_imagedWarms r_turns0 r_turnWarms0 r_turnOf r_turnWarms r_row0 r_gains r_pegSort r_pegMany r_pegHolds r_coats r_coatsMoved) H → va_D A (w_X7 y a r_airs r_sitters r_stepMany r_today r_taken r_isStill r_thrown r_letterMany r_at0 r_isBad r_statements r_stepsMany r_hasImage r_place0 r_isTaking r_keptIn r_turned r_rowMany r_seed r_warms r_shutAt r_kinds0 r_figures r_airAt r_ways r_crowned r_sitsAt r_shawls r_isOn r_stepOf r_stepBy r_refusals r_letters r_placeIn r_letterOf r_numbers r_stepsRead r_stepsBy r_kept r_keptWarms r_i_imaged r_imagedWarms r_turns0 r_turnWarms0 r_turnOf r_turnWarms r_row0 r_gains r_pegSort r_pegMany r_pegHolds r_coats r_coatsMoved) → va_S A s.heap H locs → ∀ ls : Array Slot, lv_has ls 5 [(0, .ref (a 0)), (1, .int n0), (2, .int n1), (3, .int x1)] → W p l e ({ frames := 0, cells := 0, slots := 0, locals := 0 } : Room) s m [.ref (a 0), .int n0, .int n1].toArray below meth c H locs 0 0 (MQ below (dQ D y (some (.int z0)) s.heap.size (w_X7 y a r_airs r_sitters r_stepMany r_today r_taken r_isStill r_thrown r_letterMany r_at0 r_isBad r_statements r_stepsMany r_hasImage r_place0 r_isTaking r_keptIn r_turned r_rowMany r_seed r_warms r_shutAt r_kinds0 r_figures r_airAt r_ways r_crowned r_sitsAt r_shawls r_isOn r_stepOf r_stepBy r_refusals r_letters r_placeIn r_letterOf r_numbers r_stepsRead r_stepsBy r_kept r_keptWarms r_i_imaged r_imagedWarms r_turns0 r_turnWarms0 r_turnOf r_turnWarms r_row0 r_gains r_pegSort r_pegMany r_pegHolds r_coats r_coatsMoved) (w_X7 y a r_airs r_sitters z1 r_today r_taken r_isStill r_thrown r_letterMany r_at0 r_isBad r_statements r_stepsMany r_hasImage r_place0 r_isTaking r_keptIn r_turned r_rowMany r_seed r_warms r_shutAt r_kinds0 r_figures r_airAt r_ways r_crowned r_sitsAt r_shawls r_isOn z2 z3 r_refusals r_letters r_placeIn r_letterOf r_numbers r_stepsRead r_stepsBy r_kept r_keptWarms r_i_imaged r_imagedWarms r_turns0 r_turnWarms0 r_turnOf r_turnWarms r_row0 r_gains r_pegSort r_pegMany r_pegHolds r_coats r_coatsMoved)) [.ref (a 0), .int n0, .int n1].toArray s 0 0 A) (F0 m 25 ls [.int x2, .ref (a 0)]) := by
      intro x2 hf H locs hP hD hS ls hl
      unfold f_X7_hearthTold_b25 at hf
      refine va_put (D := D) (ci := 6) (v := .int x2) (ty := .int) (C := RX7) (T := TX7) (N := 53) hx hb hts iwX7 tyX7 tyX7_ok nmX7 hown hK hP hD hS 0 rfl rfl 12 (by decide) (hts _ wl_407) (fun _ h9 => h9) rfl (tyX7_ok 12 (by decide)) rfl rfl (Nat.le_of_ble_eq_true rfl) dX7_hearthTold_25 (fun H locs hP hD hS => ?_)
      have hP : va_P D vwCl (w_X7 y a r_airs r_sitters x2 r_today r_taken r_isStill r_thrown r_letterMany r_at0 r_isBad r_statements r_stepsMany r_hasImage r_place0 r_isTaking r_keptIn r_turned r_rowMany r_seed r_warms r_shutAt r_kinds0 r_figures r_airAt r_ways r_crowned r_sitsAt r_shawls r_isOn r_stepOf r_stepBy r_refusals r_letters r_placeIn r_letterOf r_numbers r_stepsRead r_stepsBy r_kept r_keptWarms r_i_imaged r_imagedWarms r_turns0 r_turnWarms0 r_turnOf r_turnWarms r_row0 r_gains r_pegSort r_pegMany r_pegHolds r_coats r_coatsMoved) H := hP
      have hD : va_D A (w_X7 y a r_airs r_sitters x2 r_today r_taken r_isStill r_thrown r_letterMany r_at0 r_isBad r_statements r_stepsMany r_hasImage r_place0 r_isTaking r_keptIn r_turned r_rowMany r_seed r_warms r_shutAt r_kinds0 r_figures r_airAt r_ways r_crowned r_sitsAt r_shawls r_isOn r_stepOf r_stepBy r_refusals r_letters r_placeIn r_letterOf r_numbers r_stepsRead r_stepsBy r_kept r_keptWarms r_i_imaged r_imagedWarms r_turns0 r_turnWarms0 r_turnOf r_turnWarms r_row0 r_gains r_pegSort r_pegMany r_pegHolds r_coats r_coatsMoved) := hD
      refine lv_iconst (v := 0) hx hb dX7_hearthTold_28 (by decide) ?_
      refine lv_istore (lv' := [(4, .int (0 : Int32)), (0, .ref (a 0)), (1, .int n0), (2, .int n1), (3, .int x1)]) hx hb dX7_hearthTold_29 hl (by decide) rfl (fun ls hl => ?_)
      have J31 : ∀ (m31 : Nat) (x3 : Int32) (r_stepOf_4 : (Nat → Int32)) (r_stepBy_5 : (Nat → Int32)), f_X7_hearthTold_b31 n0 n1 r_stepsRead r_stepsBy x1 x2 m31 x3 r_stepOf_4 r_stepBy_5 = some (z0, z1, z2, z3) → ∀ (H : Heap) (locs : List Loc), va_P D vwCl (w_X7 y a r_airs r_sitters x2 r_today r_taken r_isStill r_thrown r_letterMany r_at0 r_isBad r_statements r_stepsMany r_hasImage r_place0 r_isTaking r_keptIn r_turned r_rowMany r_seed r_warms r_shutAt r_kinds0 r_figures r_airAt r_ways r_crowned r_sitsAt r_shawls r_isOn r_stepOf_4 r_stepBy_5 r_refusals r_letters r_placeIn r_letterOf r_numbers r_stepsRead r_stepsBy r_kept r_keptWarms r_i_imaged r_imagedWarms r_turns0 r_turnWarms0 r_turnOf r_turnWarms r_row0 r_gains r_pegSort r_pegMany r_pegHolds r_coats r_coatsMoved) H → va_D A (w_X7 y a r_airs r_sitters x2 r_today r_taken r_isStill r_thrown r_letterMany r_at0 r_isBad r_statements r_stepsMany r_hasImage r_place0 r_isTaking r_keptIn r_turned r_rowMany r_seed r_warms r_shutAt r_kinds0 r_figures r_airAt r_ways r_crowned r_sitsAt r_shawls r_isOn r_stepOf_4 r_stepBy_5 r_refusals r_letters r_placeIn r_letterOf r_numbers r_stepsRead r_stepsBy r_kept r_keptWarms r_i_imaged r_imagedWarms r_turns0 r_turnWarms0 r_turnOf r_turnWarms r_row0 r_gains r_pegSort r_pegMany r_pegHolds r_coats r_coatsMoved) → va_S A s.heap H locs → ∀ ls : Array Slot, lv_has ls 5 [(0, .ref (a 0)), (1, .int n0), (2, .int n1), (3, .int x1), (4, .int x3)] → W p l e ({ frames := 0, cells := 0, slots := 0, locals := 0 } : Room) s m [.ref (a 0), .int n0, .int n1].toArray below meth c H locs 0 0 (MQ below (dQ D y (some (.int z0)) s.heap.size (w_X7 y a r_airs r_sitters r_stepMany r_today r_taken r_isStill r_thrown r_letterMany r_at0 r_isBad r_statements r_stepsMany r_hasImage r_place0 r_isTaking r_keptIn r_turned r_rowMany r_seed r_warms r_shutAt r_kinds0 r_figures r_airAt r_ways r_crowned r_sitsAt r_shawls r_isOn r_stepOf r_stepBy r_refusals r_letters r_placeIn r_letterOf r_numbers r_stepsRead r_stepsBy r_kept r_keptWarms r_i_imaged r_imagedWarms r_turns0 r_turnWarms0 r_turnOf r_turnWarms r_row0 r_gains r_pegSort r_pegMany r_pegHolds r_coats r_coatsMoved) (w_X7 y a r_airs r_sitters z1 r_today r_taken r_isStill r_thrown r_letterMany r_at0 r_isBad r_statements r_stepsMany r_hasImage r_place0 r_isTaking r_keptIn r_turned r_rowMany r_seed r_warms r_shutAt r_kinds0 r_figures r_airAt r_ways r_crowned r_sitsAt r_shawls r_isOn z2 z3 r_refusals r_letters r_placeIn r_letterOf r_numbers r_stepsRead r_stepsBy r_kept r_keptWarms r_i_imaged r_imagedWarms r_turns0 r_turnWarms0 r_turnOf r_turnWarms r_row0 r_gains r_pegSort r_pegMany r_pegHolds r_coats r_coatsMoved)) [.ref (a 0), .int n0, .int n1].toArray s 0 0 A) (F0 m 31 ls []) := by
        intro m31
        induction m31 with
        | zero => intro x3 r_stepOf_4 r_stepBy_5 hf; exact absurd hf (by unfold f_X7_hearthTold_b31; exact fun h => by cases h)
        | succ m31 I31 =>
          intro x3 r_stepOf_4 r_stepBy_5 hf H locs hP hD hS ls hl
          unfold f_X7_hearthTold_b31 at hf
          refine lv_iload_n hx hb dX7_hearthTold_31 rfl (lv_at hl 3 rfl) ?_
          refine lv_if_eq (tgt := 79) hx hb dX7_hearthTold_32 (by decide) (fun c6 => ?_) (fun c6 => ?_)
          · have hf := dq_t hf c6
            clear c6
            refine lv_iload_n hx hb dX7_hearthTold_79 rfl (lv_at hl 3 rfl) ?_
            obtain ⟨h7, hf⟩ := dq_g hf
            obtain ⟨rfl, rfl, rfl, rfl⟩ := dq_r4 hf
            exact ct_zret hx hb hr (dq_zn h7) hlocks hAe hP hK hD hS dX7_hearthTold_80
          · have hf := dq_f hf c6
            clear c6
            refine lv_iload hx hb dX7_hearthTold_35 (lv_at hl 4 rfl) ?_
            refine lv_iload_n hx hb dX7_hearthTold_37 rfl (lv_at hl 2 rfl) ?_
            refine lv_icmp_ge (tgt := 79) hx hb dX7_hearthTold_38 (by decide) (fun c8 => ?_) (fun c8 => ?_)
            · have hf := dq_t hf c8
              clear c8
              refine lv_iload_n hx hb dX7_hearthTold_79 rfl (lv_at hl 3 rfl) ?_
              obtain ⟨h9, hf⟩ := dq_g hf
              obtain ⟨rfl, rfl, rfl, rfl⟩ := dq_r4 hf
              exact ct_zret hx hb hr (dq_zn h9) hlocks hAe hP hK hD hS dX7_hearthTold_80
            · have hf := dq_f hf c8
              clear c8
              refine lv_aload_n hx hb dX7_hearthTold_41 rfl (lv_at hl 0 rfl) ?_
              refine va_get (D := D) (ci := 6) (v := .ref (a 11)) (C := RX7) (T := TX7) (N := 53) hx hb hts iwX7 hown hK hP 0 rfl rfl 13 (by decide) (hts _ wl_91) (fun _ h9 => h9) rfl dX7_hearthTold_42 ?_
              refine lv_iload hx hb dX7_hearthTold_45 (lv_at hl 4 rfl) ?_
              refine lv_aload_n hx hb dX7_hearthTold_47 rfl (lv_at hl 0 rfl) ?_
              refine va_get (D := D) (ci := 6) (v := .ref (a 18)) (C := RX7) (T := TX7) (N := 53) hx hb hts iwX7 hown hK hP 0 rfl rfl 28 (by decide) (hts _ wl_98) (fun _ h9 => h9) rfl dX7_hearthTold_48 ?_
              refine lv_iload_n hx hb dX7_hearthTold_51 rfl (lv_at hl 1 rfl) ?_
              refine lv_iload hx hb dX7_hearthTold_52 (lv_at hl 4 rfl) ?_
              refine lv_iadd hx hb dX7_hearthTold_54 ?_
              obtain ⟨h10, hf⟩ := dq_g hf
              refine va_iald (cA := y 1) (n := 96) (f := r_stepsRead) hx hb hK hP 18 1 rfl rfl h10 dX7_hearthTold_55 ?_
              obtain ⟨h11, hf⟩ := dq_g hf
              refine dq_iast (cA := y 1) (n := 6) (f := r_stepOf_4) hx hb hK hP hD hS 11 1 rfl rfl h11 dX7_hearthTold_56 (fun r_stepOf_12 er_stepOf_12 H locs hP hD hS => ?_)
              have hf := dq_l hf r_stepOf_12 er_stepOf_12
              clear er_stepOf_12
              have hP : va_P D vwCl (w_X7 y a r_airs r_sitters x2 r_today r_taken r_isStill r_thrown r_letterMany r_at0 r_isBad r_statements r_stepsMany r_hasImage r_place0 r_isTaking r_keptIn r_turned r_rowMany r_seed r_warms r_shutAt r_kinds0 r_figures r_airAt r_ways r_crowned r_sitsAt r_shawls r_isOn r_stepOf_12 r_stepBy_5 r_refusals r_letters r_placeIn r_letterOf r_numbers r_stepsRead r_stepsBy r_kept r_keptWarms r_i_imaged r_imagedWarms r_turns0 r_turnWarms0 r_turnOf r_turnWarms r_row0 r_gains r_pegSort r_pegMany r_pegHolds r_coats r_coatsMoved) H := hP
              have hD : va_D A (w_X7 y a r_airs r_sitters x2 r_today r_taken r_isStill r_thrown r_letterMany r_at0 r_isBad r_statements r_stepsMany r_hasImage r_place0 r_isTaking r_keptIn r_turned r_rowMany r_seed r_warms r_shutAt r_kinds0 r_figures r_airAt r_ways r_crowned r_sitsAt r_shawls r_isOn r_stepOf_12 r_stepBy_5 r_refusals r_letters r_placeIn r_letterOf r_numbers r_stepsRead r_stepsBy r_kept r_keptWarms r_i_imaged r_imagedWarms r_turns0 r_turnWarms0 r_turnOf r_turnWarms r_row0 r_gains r_pegSort r_pegMany r_pegHolds r_coats r_coatsMoved) := hD
              refine lv_aload_n hx hb dX7_hearthTold_57 rfl (lv_at hl 0 rfl) ?_
              refine va_get (D := D) (ci := 6) (v := .ref (a 12)) (C := RX7) (T := TX7) (N := 53) hx hb hts iwX7 hown hK hP 0 rfl rfl 14 (by decide) (hts _ wl_92) (fun _ h9 => h9) rfl dX7_hearthTold_58 ?_
              refine lv_iload hx hb dX7_hearthTold_61 (lv_at hl 4 rfl) ?_
              refine lv_aload_n hx hb dX7_hearthTold_63 rfl (lv_at hl 0 rfl) ?_
              refine va_get (D := D) (ci := 6) (v := .ref (a 19)) (C := RX7) (T := TX7) (N := 53) hx hb hts iwX7 hown hK hP 0 rfl rfl 29 (by decide) (hts _ wl_99) (fun _ h9 => h9) rfl dX7_hearthTold_64 ?_
              refine lv_iload_n hx hb dX7_hearthTold_67 rfl (lv_at hl 1 rfl) ?_
              refine lv_iload hx hb dX7_hearthTold_68 (lv_at hl 4 rfl) ?_
              refine lv_iadd hx hb dX7_hearthTold_70 ?_
              obtain ⟨h13, hf⟩ := dq_g hf
              refine va_iald (cA := y 1) (n := 96) (f := r_stepsBy) hx hb hK hP 19 1 rfl rfl h13 dX7_hearthTold_71 ?_
              obtain ⟨h14, hf⟩ := dq_g hf
              refine dq_iast (cA := y 1) (n := 6) (f := r_stepBy_5) hx hb hK hP hD hS 12 1 rfl rfl h14 dX7_hearthTold_72 (fun r_stepBy_15 er_stepBy_15 H locs hP hD hS => ?_)
              have hf := dq_l hf r_stepBy_15 er_stepBy_15
              clear er_stepBy_15
              have hP : va_P D vwCl (w_X7 y a r_airs r_sitters x2 r_today r_taken r_isStill r_thrown r_letterMany r_at0 r_isBad r_statements r_stepsMany r_hasImage r_place0 r_isTaking r_keptIn r_turned r_rowMany r_seed r_warms r_shutAt r_kinds0 r_figures r_airAt r_ways r_crowned r_sitsAt r_shawls r_isOn r_stepOf_12 r_stepBy_15 r_refusals r_letters r_placeIn r_letterOf r_numbers r_stepsRead r_stepsBy r_kept r_keptWarms r_i_imaged r_imagedWarms r_turns0 r_turnWarms0 r_turnOf r_turnWarms r_row0 r_gains r_pegSort r_pegMany r_pegHolds r_coats r_coatsMoved) H := hP
              have hD : va_D A (w_X7 y a r_airs r_sitters x2 r_today r_taken r_isStill r_thrown r_letterMany r_at0 r_isBad r_statements r_stepsMany r_hasImage r_place0 r_isTaking r_keptIn r_turned r_rowMany r_seed r_warms r_shutAt r_kinds0 r_figures r_airAt r_ways r_crowned r_sitsAt r_shawls r_isOn r_stepOf_12 r_stepBy_15 r_refusals r_letters r_placeIn r_letterOf r_numbers r_stepsRead r_stepsBy r_kept r_keptWarms r_i_imaged r_imagedWarms r_turns0 r_turnWarms0 r_turnOf r_turnWarms r_row0 r_gains r_pegSort r_pegMany r_pegHolds r_coats r_coatsMoved) := hD
              obtain ⟨x16, ex16⟩ : ∃ z : Int32, z = (x3 + (1 : Int32)) := ⟨_, rfl⟩
              have hf := dq_l hf x16 ex16
              refine lv_iinc (v := x16) (lv' := [(4, .int x16), (0, .ref (a 0)), (1, .int n0), (2, .int n1), (3, .int x1)]) hx hb dX7_hearthTold_73 hl (k := 4) rfl (by rw [ex16]; rfl) (by decide) rfl (fun ls hl => ?_)
              clear ex16
              refine lv_goto (tgt := 31) hx hb dX7_hearthTold_76 (by decide) ?_
              exact I31 _ _ _ hf _ _ hP hD hS _ (lv_sub hl [1, 2, 3, 4, 0] rfl)
      exact J31 4096 _ _ _ hf _ _ hP hD hS _ (lv_sub hl [1, 2, 3, 4, 0] rfl)
    refine lv_if_eq (tgt := 21) hx hb dX7_hearthTold_14 (by decide) (fun c17 => ?_) (fun c17 => ?_)
    · have hf := dq_t hf c17
      clear c17
      refine lv_aload_n hx hb dX7_hearthTold_21 rfl (lv_at hl 1 rfl) ?_
      refine va_get (D := D) (ci := 6) (v := .int r_stepMany) (C := RX7) (T := TX7) (N := 53) hx hb hts iwX7 hown hK hP 0 rfl rfl 12 (by decide) (hts _ wl_407) (fun _ h9 => h9) rfl dX7_hearthTold_22 ?_
      exact J25 _ hf _ _ hP hD hS _ (lv_sub hl [1, 2, 3, 0] rfl)
    · have hf := dq_f hf c17
      clear c17
      refine lv_iload_n hx hb dX7_hearthTold_17 rfl (lv_at hl 3 rfl) ?_
      refine lv_goto (tgt := 25) hx hb dX7_hearthTold_18 (by decide) ?_
      exact J25 _ hf _ _ hP hD hS _ (lv_sub hl [1, 2, 3, 0] rfl)
  refine lv_icmp_gt (tgt := 10) hx hb dX7_hearthTold_3 (by decide) (fun c18 => ?_) (fun c18 => ?_)
  · have hf := dq_t hf c18
    clear c18
    refine lv_iconst (v := 0) hx hb dX7_hearthTold_10 (by decide) ?_
    exact J11 _ hf _ _ hP hD hS _ (lv_sub hl [0, 1, 2] rfl)
  · have hf := dq_f hf c18
    clear c18
    refine lv_iconst (v := 1) hx hb dX7_hearthTold_6 (by decide) ?_
    refine lv_goto (tgt := 11) hx hb dX7_hearthTold_7 (by decide) ?_
    exact J11 _ hf _ _ hP hD hS _ (lv_sub hl [0, 1, 2] rfl)
noncomputable def f_X7_turnsTold_b29 (n0 : Int32) (r_airs : Int32) (r_sitters : Int32) (r_stepMany : Int32) (r_today : Int32) (r_taken : Int32) (r_isStill : Int32) (r_warms : (Nat → UInt32)) (r_shutAt : (Nat → Int32)) (r_kinds0 : (Nat → Int32)) (r_figures : (Nat → Int32)) (r_airAt : (Nat → Int32)) (r_ways : (Nat → Int32)) (r_crowned : (Nat → Int32)) (r_sitsAt : (Nat → Int32)) (r_shawls : (Nat → Int32)) (r_isOn : (Nat → Int32)) (r_stepOf : (Nat → Int32)) (r_stepBy : (Nat → Int32))  (x3 : Int32) : Option (Int32 × Int32 × Int32 × (Nat → UInt32) × (Nat → Int32) × (Nat → Int32) × (Nat → Int32) × (Nat → Int32) × (Nat → Int32)) := dq_if (x3 = 0) (dq_gd (dq_z x3) (some (x3, r_today, r_taken, r_warms, r_airAt, r_ways, r_crowned, r_shawls, r_isOn))) (dq_bd8 (f_X7_goTurns r_airs r_sitters r_stepMany r_today r_taken r_isStill r_warms r_shutAt r_kinds0 r_figures r_airAt r_ways r_crowned r_sitsAt r_shawls r_isOn r_stepOf r_stepBy n0) (fun (r_today_6 : Int32) (r_taken_7 : Int32) (r_warms_8 : (Nat → UInt32)) (r_airAt_9 : (Nat → Int32)) (r_ways_10 : (Nat → Int32)) (r_crowned_11 : (Nat → Int32)) (r_shawls_12 : (Nat → Int32)) (r_isOn_13 : (Nat → Int32)) => dq_gd (dq_z x3) (some (x3, r_today_6, r_taken_7, r_warms_8, r_airAt_9, r_ways_10, r_crowned_11, r_shawls_12, r_isOn_13))))
noncomputable def f_X7_turnsTold (r_airs : Int32) (r_sitters : Int32) (r_stepMany : Int32) (r_today : Int32) (r_taken : Int32) (r_isStill : Int32) (r_warms : (Nat → UInt32)) (r_shutAt : (Nat → Int32)) (r_kinds0 : (Nat → Int32)) (r_figures : (Nat → Int32)) (r_airAt : (Nat → Int32)) (r_ways : (Nat → Int32)) (r_crowned : (Nat → Int32)) (r_sitsAt : (Nat → Int32)) (r_shawls : (Nat → Int32)) (r_isOn : (Nat → Int32)) (r_stepOf : (Nat → Int32)) (r_stepBy : (Nat → Int32)) (n0 : Int32) : Option (Int32 × Int32 × Int32 × (Nat → UInt32) × (Nat → Int32) × (Nat → Int32) × (Nat → Int32) × (Nat → Int32) × (Nat → Int32)) := dq_bd (f_X7_in n0.toInt64 (1 : Int64) (60 : Int64)) (fun (x1 : Int32) => dq_if (x1 = 0) (f_X7_turnsTold_b29 n0 r_airs r_sitters r_stepMany r_today r_taken r_isStill r_warms r_shutAt r_kinds0 r_figures r_airAt r_ways r_crowned r_sitsAt r_shawls r_isOn r_stepOf r_stepBy (0 : Int32)) (dq_if ((999 : Int32) < (r_today + n0)) (f_X7_turnsTold_b29 n0 r_airs r_sitters r_stepMany r_today r_taken r_isStill r_warms r_shutAt r_kinds0 r_figures r_airAt r_ways r_crowned r_sitsAt r_shawls r_isOn r_stepOf r_stepBy (0 : Int32)) (f_X7_turnsTold_b29 n0 r_airs r_sitters r_stepMany r_today r_taken r_isStill r_warms r_shutAt r_kinds0 r_figures r_airAt r_ways r_crowned r_sitsAt r_shawls r_isOn r_stepOf r_stepBy (1 : Int32))))
def wA_X7_turnsTold : List Cond := .code yX7_turnsTold cX7_turnsTold 3 (some .boolean) :: wsL_law
-- DraughtsTakeModel.turnsTold(I)Z
set_option maxHeartbeats 4000000 in
set_option maxRecDepth 100000 in
theorem m_X7_turnsTold (l : Launch) (D : va_G) (y : Nat → ClassId) (a : (Nat → Nat)) (r_airs : Int32) (r_sitters : Int32) (r_stepMany : Int32) (r_today : Int32) (r_taken : Int32) (r_isStill : Int32) (r_thrown : Int32) (r_letterMany : Int32) (r_at0 : Int32) (r_isBad : Int32) (r_statements : Int32) (r_stepsMany : Int32) (r_hasImage : Int32) (r_place0 : Int32) (r_isTaking : Int32) (r_keptIn : Value) (r_turned : Int32) (r_rowMany : Int32) (r_seed : Int32) (r_warms : (Nat → UInt32)) (r_shutAt : (Nat → Int32)) (r_kinds0 : (Nat → Int32)) (r_figures : (Nat → Int32)) (r_airAt : (Nat → Int32)) (r_ways : (Nat → Int32)) (r_crowned : (Nat → Int32)) (r_sitsAt : (Nat → Int32)) (r_shawls : (Nat → Int32)) (r_isOn : (Nat → Int32)) (r_stepOf : (Nat → Int32)) (r_stepBy : (Nat → Int32)) (r_refusals : (Nat → Int32)) (r_letters : (Nat → Int32)) (r_placeIn : (Nat → Int32)) (r_letterOf : (Nat → Int32)) (r_numbers : (Nat → Int32)) (r_stepsRead : (Nat → Int32)) (r_stepsBy : (Nat → Int32)) (r_kept : (Nat → Int32)) (r_keptWarms : (Nat → UInt32)) (r_i_imaged : (Nat → Int32)) (r_imagedWarms : (Nat → UInt32)) (r_turns0 : (Nat → Int32)) (r_turnWarms0 : (Nat → UInt32)) (r_turnOf : (Nat → Int32)) (r_turnWarms : (Nat → UInt32)) (r_row0 : (Nat → Int32)) (r_gains : (Nat → Int32)) (r_pegSort : (Nat → Int32)) (r_pegMany : (Nat → Int32)) (r_pegHolds : (Nat → Int32)) (r_coats : (Nat → Int32)) (r_coatsMoved : (Nat → Int32)) (n0 : Int32) (z0 : Int32) (z1 : Int32) (z2 : Int32) (z3 : (Nat → UInt32)) (z4 : (Nat → Int32)) (z5 : (Nat → Int32)) (z6 : (Nat → Int32)) (z7 : (Nat → Int32)) (z8 : (Nat → Int32)) (hf : f_X7_turnsTold r_airs r_sitters r_stepMany r_today r_taken r_isStill r_warms r_shutAt r_kinds0 r_figures r_airAt r_ways r_crowned r_sitsAt r_shawls r_isOn r_stepOf r_stepBy n0 = some (z0, z1, z2, z3, z4, z5, z6, z7, z8)) : Ct l D y yX7_turnsTold wA_X7_turnsTold 7 167 [.ref (a 0), .int n0] (w_X7 y a r_airs r_sitters r_stepMany r_today r_taken r_isStill r_thrown r_letterMany r_at0 r_isBad r_statements r_stepsMany r_hasImage r_place0 r_isTaking r_keptIn r_turned r_rowMany r_seed r_warms r_shutAt r_kinds0 r_figures r_airAt r_ways r_crowned r_sitsAt r_shawls r_isOn r_stepOf r_stepBy r_refusals r_letters r_placeIn r_letterOf r_numbers r_stepsRead r_stepsBy r_kept r_keptWarms r_i_imaged r_imagedWarms r_turns0 r_turnWarms0 r_turnOf r_turnWarms r_row0 r_gains r_pegSort r_pegMany r_pegHolds r_coats r_coatsMoved) (w_X7 y a r_airs r_sitters r_stepMany z1 z2 r_isStill r_thrown r_letterMany r_at0 r_isBad r_statements r_stepsMany r_hasImage r_place0 r_isTaking r_keptIn r_turned r_rowMany r_seed z3 r_shutAt r_kinds0 r_figures z4 z5 z6 r_sitsAt z7 z8 r_stepOf r_stepBy r_refusals r_letters r_placeIn r_letterOf r_numbers r_stepsRead r_stepsBy r_kept r_keptWarms r_i_imaged r_imagedWarms r_turns0 r_turnWarms0 r_turnOf r_turnWarms r_row0 r_gains r_pegSort r_pegMany r_pegHolds r_coats r_coatsMoved) (some (.int z0)) := by
  refine ct_head (cc := cX7_turnsTold) (n := 3) (ret := (some .boolean)) (by decide) rfl (Nat.le_of_ble_eq_true rfl) ?_
  intro p e s m below meth c A ls hx hb hr hml hown hlocks hts hA hAe hP hK hD hl
  have hS : va_S A s.heap s.heap [] := va_S.rf
  have hl : lv_has ls 3 [(0, .ref (a 0)), (1, .int n0)] := hl
  have hown : s.vm.findClass RX7 = some m.cls := hown
  have hts : ∀ w ∈ wsL_law, w.before [.ref (a 0), .int n0].toArray s = true := fun w h => hts w (List.mem_cons_of_mem _ h)
  unfold f_X7_turnsTold at hf
  refine lv_iload_n hx hb dX7_turnsTold_0 rfl (lv_at hl 1 rfl) ?_
  refine lv_i2l hx hb dX7_turnsTold_1 rfl ?_
  refine lv_lconst (v := 1) hx hb dX7_turnsTold_2 (by decide) ?_
  refine lv_ldc2 hx hb hown (hts _ wl_462) dX7_turnsTold_3 ?_
  obtain ⟨x1, hy2, hf⟩ := dq_b hf
  refine ct_callS0 (own := RX7) (As := [.long n0.toInt64, .long (1 : Int64), .long (60 : Int64)]) (rest := []) ⟨hx, hb, hml, hown, hts⟩ (m_X7_in l D y n0.toInt64 (1 : Int64) (60 : Int64) x1 hy2) (va_cwS 3 hts (gA_S wl_391 wl_392 wl_5 wl_393) rfl rfl rfl (by decide +kernel) ⟨Nat.le_of_ble_eq_true rfl, Nat.le_of_ble_eq_true rfl⟩) rfl hl.1 rfl (Nat.le_of_ble_eq_true rfl) dX7_turnsTold_6 ⟨Nat.zero_le _, Nat.zero_le _⟩ hK hP hD hS hA (fun H locs hP hD hS => ?_)
  have J29 : ∀ (x3 : Int32), f_X7_turnsTold_b29 n0 r_airs r_sitters r_stepMany r_today r_taken r_isStill r_warms r_shutAt r_kinds0 r_figures r_airAt r_ways r_crowned r_sitsAt r_shawls r_isOn r_stepOf r_stepBy x3 = some (z0, z1, z2, z3, z4, z5, z6, z7, z8) → ∀ (H : Heap) (locs : List Loc), va_P D vwCl (w_X7 y a r_airs r_sitters r_stepMany r_today r_taken r_isStill r_thrown r_letterMany r_at0 r_isBad r_statements r_stepsMany r_hasImage r_place0 r_isTaking r_keptIn r_turned r_rowMany r_seed r_warms r_shutAt r_kinds0 r_figures r_airAt r_ways r_crowned r_sitsAt r_shawls r_isOn r_stepOf r_stepBy r_refusals r_letters r_placeIn r_letterOf r_numbers r_stepsRead r_stepsBy r_kept r_keptWarms r_i_imaged r_imagedWarms r_turns0 r_turnWarms0 r_turnOf r_turnWarms r_row0 r_gains r_pegSort r_pegMany r_pegHolds r_coats r_coatsMoved) H → va_D A (w_X7 y a r_airs r_sitters r_stepMany r_today r_taken r_isStill r_thrown r_letterMany r_at0 r_isBad r_statements r_stepsMany r_hasImage r_place0 r_isTaking r_keptIn r_turned r_rowMany r_seed r_warms r_shutAt r_kinds0 r_figures r_airAt r_ways r_crowned r_sitsAt r_shawls r_isOn r_stepOf r_stepBy r_refusals r_letters r_placeIn r_letterOf r_numbers r_stepsRead r_stepsBy r_kept r_keptWarms r_i_imaged r_imagedWarms r_turns0 r_turnWarms0 r_turnOf r_turnWarms r_row0 r_gains r_pegSort r_pegMany r_pegHolds r_coats r_coatsMoved) → va_S A s.heap H locs → ∀ ls : Array Slot, lv_has ls 3 [(0, .ref (a 0)), (1, .int n0)] → W p l e ({ frames := 7, cells := 0, slots := 0, locals := 167 } : Room) s m [.ref (a 0), .int n0].toArray below meth c H locs 0 0 (MQ below (dQ D y (some (.int z0)) s.heap.size (w_X7 y a r_airs r_sitters r_stepMany r_today r_taken r_isStill r_thrown r_letterMany r_at0 r_isBad r_statements r_stepsMany r_hasImage r_place0 r_isTaking r_keptIn r_turned r_rowMany r_seed r_warms r_shutAt r_kinds0 r_figures r_airAt r_ways r_crowned r_sitsAt r_shawls r_isOn r_stepOf r_stepBy r_refusals r_letters r_placeIn r_letterOf r_numbers r_stepsRead r_stepsBy r_kept r_keptWarms r_i_imaged r_imagedWarms r_turns0 r_turnWarms0 r_turnOf r_turnWarms r_row0 r_gains r_pegSort r_pegMany r_pegHolds r_coats r_coatsMoved) (w_X7 y a r_airs r_sitters r_stepMany z1 z2 r_isStill r_thrown r_letterMany r_at0 r_isBad r_statements r_stepsMany r_hasImage r_place0 r_isTaking r_keptIn r_turned r_rowMany r_seed z3 r_shutAt r_kinds0 r_figures z4 z5 z6 r_sitsAt z7 z8 r_stepOf r_stepBy r_refusals r_letters r_placeIn r_letterOf r_numbers r_stepsRead r_stepsBy r_kept r_keptWarms r_i_imaged r_imagedWarms r_turns0 r_turnWarms0 r_turnOf r_turnWarms r_row0 r_gains r_pegSort r_pegMany r_pegHolds r_coats r_coatsMoved)) [.ref (a 0), .int n0].toArray s 0 0 A) (F0 m 29 ls [.int x3]) := by
    intro x3 hf H locs hP hD hS ls hl
    unfold f_X7_turnsTold_b29 at hf
    refine lv_istore_n (lv' := [(2, .int x3), (0, .ref (a 0)), (1, .int n0)]) hx hb dX7_turnsTold_29 rfl hl (by decide) rfl (fun ls hl => ?_)
    refine lv_iload_n hx hb dX7_turnsTold_30 rfl (lv_at hl 0 rfl) ?_
    refine lv_if_eq (tgt := 39) hx hb dX7_turnsTold_31 (by decide) (fun c4 => ?_) (fun c4 => ?_)
    · have hf := dq_t hf c4
      clear c4
      refine lv_iload_n hx hb dX7_turnsTold_39 rfl (lv_at hl 0 rfl) ?_
      obtain ⟨h5, hf⟩ := dq_g hf
      obtain ⟨rfl, rfl, rfl, rfl, rfl, rfl, rfl, rfl, rfl⟩ := dq_r9 hf
      exact ct_zret hx hb hr (dq_zn h5) hlocks hAe hP hK hD hS dX7_turnsTold_40
    · have hf := dq_f hf c4
      clear c4
      refine lv_aload_n hx hb dX7_turnsTold_34 rfl (lv_at hl 1 rfl) ?_
      refine lv_iload_n hx hb dX7_turnsTold_35 rfl (lv_at hl 2 rfl) ?_
      obtain ⟨r_today_6, r_taken_7, r_warms_8, r_airAt_9, r_ways_10, r_crowned_11, r_shawls_12, r_isOn_13, hy14, hf⟩ := dq_b8 hf
      refine ct_callV0 (ci := 6) (q0 := 0) (own := RX7) (As := [.int n0]) (rest := []) (ws' := (w_X7 y a r_airs r_sitters r_stepMany r_today_6 r_taken_7 r_isStill r_thrown r_letterMany r_at0 r_isBad r_statements r_stepsMany r_hasImage r_place0 r_isTaking r_keptIn r_turned r_rowMany r_seed r_warms_8 r_shutAt r_kinds0 r_figures r_airAt_9 r_ways_10 r_crowned_11 r_sitsAt r_shawls_12 r_isOn_13 r_stepOf r_stepBy r_refusals r_letters r_placeIn r_letterOf r_numbers r_stepsRead r_stepsBy r_kept r_keptWarms r_i_imaged r_imagedWarms r_turns0 r_turnWarms0 r_turnOf r_turnWarms r_row0 r_gains r_pegSort r_pegMany r_pegHolds r_coats r_coatsMoved)) ⟨hx, hb, hml, hown, hts⟩ (m_X7_goTurns l D y a r_airs r_sitters r_stepMany r_today r_taken r_isStill r_thrown r_letterMany r_at0 r_isBad r_statements r_stepsMany r_hasImage r_place0 r_isTaking r_keptIn r_turned r_rowMany r_seed r_warms r_shutAt r_kinds0 r_figures r_airAt r_ways r_crowned r_sitsAt r_shawls r_isOn r_stepOf r_stepBy r_refusals r_letters r_placeIn r_letterOf r_numbers r_stepsRead r_stepsBy r_kept r_keptWarms r_i_imaged r_imagedWarms r_turns0 r_turnWarms0 r_turnOf r_turnWarms r_row0 r_gains r_pegSort r_pegMany r_pegHolds r_coats r_coatsMoved n0 r_today_6 r_taken_7 r_warms_8 r_airAt_9 r_ways_10 r_crowned_11 r_shawls_12 r_isOn_13 hy14) (cwV 1 hts (gA_V wl_463 wl_464 wl_465 wl_5 wl_466) rfl rfl rfl (by decide +kernel) ⟨Nat.le_of_ble_eq_true rfl, Nat.le_of_ble_eq_true rfl⟩) rfl rfl rfl hl.1 rfl (Nat.le_of_ble_eq_true rfl) dX7_turnsTold_36 ⟨Nat.zero_le _, Nat.zero_le _⟩ hK hP hD hS hA (fun H locs hP hD hS => ?_)
      refine lv_iload_n hx hb dX7_turnsTold_39 rfl (lv_at hl 0 rfl) ?_
      obtain ⟨h15, hf⟩ := dq_g hf
      obtain ⟨rfl, rfl, rfl, rfl, rfl, rfl, rfl, rfl, rfl⟩ := dq_r9 hf
      exact ct_zret hx hb hr (dq_zn h15) hlocks hAe hP hK hD hS dX7_turnsTold_40
  refine lv_if_eq (tgt := 28) hx hb dX7_turnsTold_9 (by decide) (fun c16 => ?_) (fun c16 => ?_)
  · have hf := dq_t hf c16
    clear c16
    refine lv_iconst (v := 0) hx hb dX7_turnsTold_28 (by decide) ?_
    exact J29 _ hf _ _ hP hD hS _ (lv_sub hl [0, 1] rfl)
  · have hf := dq_f hf c16
    clear c16
    refine lv_aload_n hx hb dX7_turnsTold_12 rfl (lv_at hl 0 rfl) ?_
    refine va_get (D := D) (ci := 6) (v := .int r_today) (C := RX7) (T := TX7) (N := 53) hx hb hts iwX7 hown hK hP 0 rfl rfl 15 (by decide) (hts _ wl_408) (fun _ h9 => h9) rfl dX7_turnsTold_13 ?_
    refine lv_iload_n hx hb dX7_turnsTold_16 rfl (lv_at hl 1 rfl) ?_
    refine lv_iadd hx hb dX7_turnsTold_17 ?_
    refine lv_sipush (v := 999) hx hb dX7_turnsTold_18 (by decide) ?_
    refine lv_icmp_gt (tgt := 28) hx hb dX7_turnsTold_21 (by decide) (fun c17 => ?_) (fun c17 => ?_)
    · have hf := dq_t hf c17
      clear c17
      refine lv_iconst (v := 0) hx hb dX7_turnsTold_28 (by decide) ?_
      exact J29 _ hf _ _ hP hD hS _ (lv_sub hl [0, 1] rfl)
    · have hf := dq_f hf c17
      clear c17
      refine lv_iconst (v := 1) hx hb dX7_turnsTold_24 (by decide) ?_
      refine lv_goto (tgt := 29) hx hb dX7_turnsTold_25 (by decide) ?_
      exact J29 _ hf _ _ hP hD hS _ (lv_sub hl [0, 1] rfl)
noncomputable def f_X7_comesTold (r_airs : Int32) (r_sitters : Int32) (r_stepMany : Int32) (r_today : Int32) (r_taken : Int32) (r_isStill : Int32) (r_warms : (Nat → UInt32)) (r_shutAt : (Nat → Int32)) (r_kinds0 : (Nat → Int32)) (r_figures : (Nat → Int32)) (r_airAt : (Nat → Int32)) (r_ways : (Nat → Int32)) (r_crowned : (Nat → Int32)) (r_sitsAt : (Nat → Int32)) (r_shawls : (Nat → Int32)) (r_isOn : (Nat → Int32)) (r_stepOf : (Nat → Int32)) (r_stepBy : (Nat → Int32)) (r_letterOf : (Nat → Int32)) (r_numbers : (Nat → Int32)) (r_stepsRead : (Nat → Int32)) (r_stepsBy : (Nat → Int32)) (n0 : Int32) : Option (Int32 × Int32 × Int32 × Int32 × Int32 × Int32 × (Nat → UInt32) × (Nat → Int32) × (Nat → Int32) × (Nat → Int32) × (Nat → Int32) × (Nat → Int32) × (Nat → Int32) × (Nat → Int32) × (Nat → Int32) × (Nat → Int32) × (Nat → Int32) × (Nat → Int32)) := dq_gd (vp_in ((4 : Int32) * n0) 196) (dq_let (r_numbers ((4 : Int32) * n0).toNatClampNeg) (fun (x2 : Int32) => dq_gd (vp_in (((4 : Int32) * n0) + (1 : Int32)) 196) (dq_let (r_numbers (((4 : Int32) * n0) + (1 : Int32)).toNatClampNeg) (fun (x4 : Int32) => dq_gd (vp_in n0 49) (dq_let (r_letterOf n0.toNatClampNeg) (fun (x6 : Int32) => dq_if (x6 = 97) (dq_gd (vp_in (((4 : Int32) * n0) + (2 : Int32)) 196) (dq_gd (vp_in (((4 : Int32) * n0) + (3 : Int32)) 196) (dq_bd7 (f_X7_airComesNew r_airs r_sitters r_shutAt r_kinds0 r_figures r_airAt r_ways r_crowned r_sitsAt r_isOn x2 x4 (r_numbers (((4 : Int32) * n0) + (2 : Int32)).toNatClampNeg) (r_numbers (((4 : Int32) * n0) + (3 : Int32)).toNatClampNeg)) (fun (x10 : Int32) (r_airs_11 : Int32) (r_kinds0_12 : (Nat → Int32)) (r_figures_13 : (Nat → Int32)) (r_airAt_14 : (Nat → Int32)) (r_ways_15 : (Nat → Int32)) (r_crowned_16 : (Nat → Int32)) => dq_gd (dq_z x10) (some (x10, r_airs_11, r_sitters, r_stepMany, r_today, r_taken, r_warms, r_shutAt, r_kinds0_12, r_figures_13, r_airAt_14, r_ways_15, r_crowned_16, r_sitsAt, r_shawls, r_isOn, r_stepOf, r_stepBy)))))) (dq_if (x6 = 100) (dq_bd2 (f_X7_shutTold r_airs r_sitters r_shutAt r_airAt r_sitsAt r_isOn x2) (fun (x20 : Int32) (r_shutAt_21 : (Nat → Int32)) => dq_gd (dq_z x20) (some (x20, r_airs, r_sitters, r_stepMany, r_today, r_taken, r_warms, r_shutAt_21, r_kinds0, r_figures, r_airAt, r_ways, r_crowned, r_sitsAt, r_shawls, r_isOn, r_stepOf, r_stepBy)))) (dq_if (x6 = 108) (dq_bd4 (f_X7_hearthTold r_stepMany r_stepOf r_stepBy r_stepsRead r_stepsBy x2 x4) (fun (x25 : Int32) (r_stepMany_26 : Int32) (r_stepOf_27 : (Nat → Int32)) (r_stepBy_28 : (Nat → Int32)) => dq_gd (dq_z x25) (some (x25, r_airs, r_sitters, r_stepMany_26, r_today, r_taken, r_warms, r_shutAt, r_kinds0, r_figures, r_airAt, r_ways, r_crowned, r_sitsAt, r_shawls, r_isOn, r_stepOf_27, r_stepBy_28)))) (dq_if (x6 = 112) (dq_bd5 (f_X7_sitterComes r_airs r_sitters r_shutAt r_airAt r_sitsAt r_shawls r_isOn x2 x4) (fun (x32 : Int32) (r_sitters_33 : Int32) (r_sitsAt_34 : (Nat → Int32)) (r_shawls_35 : (Nat → Int32)) (r_isOn_36 : (Nat → Int32)) => dq_gd (dq_z x32) (some (x32, r_airs, r_sitters_33, r_stepMany, r_today, r_taken, r_warms, r_shutAt, r_kinds0, r_figures, r_airAt, r_ways, r_crowned, r_sitsAt_34, r_shawls_35, r_isOn_36, r_stepOf, r_stepBy)))) (dq_if (x6 = 119) (dq_bd2 (f_X7_warmTold r_warms x2 x4) (fun (x40 : Int32) (r_warms_41 : (Nat → UInt32)) => dq_gd (dq_z x40) (some (x40, r_airs, r_sitters, r_stepMany, r_today, r_taken, r_warms_41, r_shutAt, r_kinds0, r_figures, r_airAt, r_ways, r_crowned, r_sitsAt, r_shawls, r_isOn, r_stepOf, r_stepBy)))) (dq_bd9 (f_X7_turnsTold r_airs r_sitters r_stepMany r_today r_taken r_isStill r_warms r_shutAt r_kinds0 r_figures r_airAt r_ways r_crowned r_sitsAt r_shawls r_isOn r_stepOf r_stepBy x2) (fun (x44 : Int32) (r_today_45 : Int32) (r_taken_46 : Int32) (r_warms_47 : (Nat → UInt32)) (r_airAt_48 : (Nat → Int32)) (r_ways_49 : (Nat → Int32)) (r_crowned_50 : (Nat → Int32)) (r_shawls_51 : (Nat → Int32)) (r_isOn_52 : (Nat → Int32)) => dq_gd (dq_z x44) (some (x44, r_airs, r_sitters, r_stepMany, r_today_45, r_taken_46, r_warms_47, r_shutAt, r_kinds0, r_figures, r_airAt_48, r_ways_49, r_crowned_50, r_sitsAt, r_shawls_51, r_isOn_52, r_stepOf, r_stepBy))))))))))))))
def wA_X7_comesTold : List Cond := .code yX7_comesTold cX7_comesTold 4 (some .boolean) :: wsL_law
-- DraughtsTakeModel.comesTold(I)Z
set_option maxHeartbeats 4000000 in
set_option maxRecDepth 100000 in
theorem m_X7_comesTold (l : Launch) (D : va_G) (y : Nat → ClassId) (a : (Nat → Nat)) (r_airs : Int32) (r_sitters : Int32) (r_stepMany : Int32) (r_today : Int32) (r_taken : Int32) (r_isStill : Int32) (r_thrown : Int32) (r_letterMany : Int32) (r_at0 : Int32) (r_isBad : Int32) (r_statements : Int32) (r_stepsMany : Int32) (r_hasImage : Int32) (r_place0 : Int32) (r_isTaking : Int32) (r_keptIn : Value) (r_turned : Int32) (r_rowMany : Int32) (r_seed : Int32) (r_warms : (Nat → UInt32)) (r_shutAt : (Nat → Int32)) (r_kinds0 : (Nat → Int32)) (r_figures : (Nat → Int32)) (r_airAt : (Nat → Int32)) (r_ways : (Nat → Int32)) (r_crowned : (Nat → Int32)) (r_sitsAt : (Nat → Int32)) (r_shawls : (Nat → Int32)) (r_isOn : (Nat → Int32)) (r_stepOf : (Nat → Int32)) (r_stepBy : (Nat → Int32)) (r_refusals : (Nat → Int32)) (r_letters : (Nat → Int32)) (r_placeIn : (Nat → Int32)) (r_letterOf : (Nat → Int32)) (r_numbers : (Nat → Int32)) (r_stepsRead : (Nat → Int32)) (r_stepsBy : (Nat → Int32)) (r_kept : (Nat → Int32)) (r_keptWarms : (Nat → UInt32)) (r_i_imaged : (Nat → Int32)) (r_imagedWarms : (Nat → UInt32)) (r_turns0 : (Nat → Int32)) (r_turnWarms0 : (Nat → UInt32)) (r_turnOf : (Nat → Int32)) (r_turnWarms : (Nat → UInt32)) (r_row0 : (Nat → Int32)) (r_gains : (Nat → Int32)) (r_pegSort : (Nat → Int32)) (r_pegMany : (Nat → Int32)) (r_pegHolds : (Nat → Int32)) (r_coats : (Nat → Int32)) (r_coatsMoved : (Nat → Int32)) (n0 : Int32) (z0 : Int32) (z1 : Int32) (z2 : Int32) (z3 : Int32) (z4 : Int32) (z5 : Int32) (z6 : (Nat → UInt32)) (z7 : (Nat → Int32)) (z8 : (Nat → Int32)) (z9 : (Nat → Int32)) (z10 : (Nat → Int32)) (z11 : (Nat → Int32)) (z12 : (Nat → Int32)) (z13 : (Nat → Int32)) (z14 : (Nat → Int32)) (z15 : (Nat → Int32)) (z16 : (Nat → Int32)) (z17 : (Nat → Int32)) (hf : f_X7_comesTold r_airs r_sitters r_stepMany r_today r_taken r_isStill r_warms r_shutAt r_kinds0 r_figures r_airAt r_ways r_crowned r_sitsAt r_shawls r_isOn r_stepOf r_stepBy r_letterOf r_numbers r_stepsRead r_stepsBy n0 = some (z0, z1, z2, z3, z4, z5, z6, z7, z8, z9, z10, z11, z12, z13, z14, z15, z16, z17)) : Ct l D y yX7_comesTold wA_X7_comesTold 8 189 [.ref (a 0), .int n0] (w_X7 y a r_airs r_sitters r_stepMany r_today r_taken r_isStill r_thrown r_letterMany r_at0 r_isBad r_statements r_stepsMany r_hasImage r_place0 r_isTaking r_keptIn r_turned r_rowMany r_seed r_warms r_shutAt r_kinds0 r_figures r_airAt r_ways r_crowned r_sitsAt r_shawls r_isOn r_stepOf r_stepBy r_refusals r_letters r_placeIn r_letterOf r_numbers r_stepsRead r_stepsBy r_kept r_keptWarms r_i_imaged r_imagedWarms r_turns0 r_turnWarms0 r_turnOf r_turnWarms r_row0 r_gains r_pegSort r_pegMany r_pegHolds r_coats r_coatsMoved) (w_X7 y a z1 z2 z3 z4 z5 r_isStill r_thrown r_letterMany r_at0 r_isBad r_statements r_stepsMany r_hasImage r_place0 r_isTaking r_keptIn r_turned r_rowMany r_seed z6 z7 z8 z9 z10 z11 z12 z13 z14 z15 z16 z17 r_refusals r_letters r_placeIn r_letterOf r_numbers r_stepsRead r_stepsBy r_kept r_keptWarms r_i_imaged r_imagedWarms r_turns0 r_turnWarms0 r_turnOf r_turnWarms r_row0 r_gains r_pegSort r_pegMany r_pegHolds r_coats r_coatsMoved) (some (.int z0)) := by
  refine ct_head (cc := cX7_comesTold) (n := 4) (ret := (some .boolean)) (by decide) rfl (Nat.le_of_ble_eq_true rfl) ?_
  intro p e s m below meth c A ls hx hb hr hml hown hlocks hts hA hAe hP hK hD hl
  have hS : va_S A s.heap s.heap [] := va_S.rf
  have hl : lv_has ls 4 [(0, .ref (a 0)), (1, .int n0)] := hl
  have hown : s.vm.findClass RX7 = some m.cls := hown
  have hts : ∀ w ∈ wsL_law, w.before [.ref (a 0), .int n0].toArray s = true := fun w h => hts w (List.mem_cons_of_mem _ h)
  unfold f_X7_comesTold at hf
  refine lv_aload_n hx hb dX7_comesTold_0 rfl (lv_at hl 0 rfl) ?_
  refine va_get (D := D) (ci := 6) (v := .ref (a 17)) (C := RX7) (T := TX7) (N := 53) hx hb hts iwX7 hown hK hP 0 rfl rfl 27 (by decide) (hts _ wl_97) (fun _ h9 => h9) rfl dX7_comesTold_1 ?_
  refine lv_iconst (v := 4) hx hb dX7_comesTold_4 (by decide) ?_
  refine lv_iload_n hx hb dX7_comesTold_5 rfl (lv_at hl 1 rfl) ?_
  refine lv_imul hx hb dX7_comesTold_6 ?_
  obtain ⟨h1, hf⟩ := dq_g hf
  refine va_iald (cA := y 1) (n := 196) (f := r_numbers) hx hb hK hP 17 1 rfl rfl h1 dX7_comesTold_7 ?_
  refine lv_topi (fun x2 ex2 => ?_)
  have hf := dq_l hf x2 ex2
  clear ex2
  refine lv_istore_n (lv' := [(2, .int x2), (0, .ref (a 0)), (1, .int n0)]) hx hb dX7_comesTold_8 rfl hl (by decide) rfl (fun ls hl => ?_)
  refine lv_aload_n hx hb dX7_comesTold_9 rfl (lv_at hl 1 rfl) ?_
  refine va_get (D := D) (ci := 6) (v := .ref (a 17)) (C := RX7) (T := TX7) (N := 53) hx hb hts iwX7 hown hK hP 0 rfl rfl 27 (by decide) (hts _ wl_97) (fun _ h9 => h9) rfl dX7_comesTold_10 ?_
  refine lv_iconst (v := 4) hx hb dX7_comesTold_13 (by decide) ?_
  refine lv_iload_n hx hb dX7_comesTold_14 rfl (lv_at hl 2 rfl) ?_
  refine lv_imul hx hb dX7_comesTold_15 ?_
  refine lv_iconst (v := 1) hx hb dX7_comesTold_16 (by decide) ?_
  refine lv_iadd hx hb dX7_comesTold_17 ?_
  obtain ⟨h3, hf⟩ := dq_g hf
  refine va_iald (cA := y 1) (n := 196) (f := r_numbers) hx hb hK hP 17 1 rfl rfl h3 dX7_comesTold_18 ?_
  refine lv_topi (fun x4 ex4 => ?_)
  have hf := dq_l hf x4 ex4
  clear ex4
  refine lv_istore_n (lv' := [(3, .int x4), (2, .int x2), (0, .ref (a 0)), (1, .int n0)]) hx hb dX7_comesTold_19 rfl hl (by decide) rfl (fun ls hl => ?_)
  refine lv_aload_n hx hb dX7_comesTold_20 rfl (lv_at hl 2 rfl) ?_
  refine va_get (D := D) (ci := 6) (v := .ref (a 16)) (C := RX7) (T := TX7) (N := 53) hx hb hts iwX7 hown hK hP 0 rfl rfl 26 (by decide) (hts _ wl_96) (fun _ h9 => h9) rfl dX7_comesTold_21 ?_
  refine lv_iload_n hx hb dX7_comesTold_24 rfl (lv_at hl 3 rfl) ?_
  obtain ⟨h5, hf⟩ := dq_g hf
  refine va_iald (cA := y 1) (n := 49) (f := r_letterOf) hx hb hK hP 16 1 rfl rfl h5 dX7_comesTold_25 ?_
  refine lv_topi (fun x6 ex6 => ?_)
  have hf := dq_l hf x6 ex6
  clear ex6
  by_cases c7 : x6 = (97 : Int32)
  · have hf := dq_t hf c7
    refine lv_lookup (tgt := 76) (off := 50) hx hb dX7_comesTold_26 (by decide) (by rw [c7]; decide) (by decide) ?_
    clear c7
    refine lv_aload_n hx hb dX7_comesTold_76 rfl (lv_at hl 2 rfl) ?_
    refine lv_iload_n hx hb dX7_comesTold_77 rfl (lv_at hl 1 rfl) ?_
    refine lv_iload_n hx hb dX7_comesTold_78 rfl (lv_at hl 0 rfl) ?_
    refine lv_aload_n hx hb dX7_comesTold_79 rfl (lv_at hl 2 rfl) ?_
    refine va_get (D := D) (ci := 6) (v := .ref (a 17)) (C := RX7) (T := TX7) (N := 53) hx hb hts iwX7 hown hK hP 0 rfl rfl 27 (by decide) (hts _ wl_97) (fun _ h9 => h9) rfl dX7_comesTold_80 ?_
    refine lv_iconst (v := 4) hx hb dX7_comesTold_83 (by decide) ?_
    refine lv_iload_n hx hb dX7_comesTold_84 rfl (lv_at hl 3 rfl) ?_
    refine lv_imul hx hb dX7_comesTold_85 ?_
    refine lv_iconst (v := 2) hx hb dX7_comesTold_86 (by decide) ?_
    refine lv_iadd hx hb dX7_comesTold_87 ?_
    obtain ⟨h8, hf⟩ := dq_g hf
    refine va_iald (cA := y 1) (n := 196) (f := r_numbers) hx hb hK hP 17 1 rfl rfl h8 dX7_comesTold_88 ?_
    refine lv_aload_n hx hb dX7_comesTold_89 rfl (lv_at hl 2 rfl) ?_
    refine va_get (D := D) (ci := 6) (v := .ref (a 17)) (C := RX7) (T := TX7) (N := 53) hx hb hts iwX7 hown hK hP 0 rfl rfl 27 (by decide) (hts _ wl_97) (fun _ h9 => h9) rfl dX7_comesTold_90 ?_
    refine lv_iconst (v := 4) hx hb dX7_comesTold_93 (by decide) ?_
    refine lv_iload_n hx hb dX7_comesTold_94 rfl (lv_at hl 3 rfl) ?_
    refine lv_imul hx hb dX7_comesTold_95 ?_
    refine lv_iconst (v := 3) hx hb dX7_comesTold_96 (by decide) ?_
    refine lv_iadd hx hb dX7_comesTold_97 ?_
    obtain ⟨h9, hf⟩ := dq_g hf
    refine va_iald (cA := y 1) (n := 196) (f := r_numbers) hx hb hK hP 17 1 rfl rfl h9 dX7_comesTold_98 ?_
    obtain ⟨x10, r_airs_11, r_kinds0_12, r_figures_13, r_airAt_14, r_ways_15, r_crowned_16, hy17, hf⟩ := dq_b7 hf
    refine ct_callV0 (ci := 6) (q0 := 0) (own := RX7) (As := [.int x2, .int x4, .int (r_numbers (((4 : Int32) * n0) + (2 : Int32)).toNatClampNeg), .int (r_numbers (((4 : Int32) * n0) + (3 : Int32)).toNatClampNeg)]) (rest := []) (ws' := (w_X7 y a r_airs_11 r_sitters r_stepMany r_today r_taken r_isStill r_thrown r_letterMany r_at0 r_isBad r_statements r_stepsMany r_hasImage r_place0 r_isTaking r_keptIn r_turned r_rowMany r_seed r_warms r_shutAt r_kinds0_12 r_figures_13 r_airAt_14 r_ways_15 r_crowned_16 r_sitsAt r_shawls r_isOn r_stepOf r_stepBy r_refusals r_letters r_placeIn r_letterOf r_numbers r_stepsRead r_stepsBy r_kept r_keptWarms r_i_imaged r_imagedWarms r_turns0 r_turnWarms0 r_turnOf r_turnWarms r_row0 r_gains r_pegSort r_pegMany r_pegHolds r_coats r_coatsMoved)) ⟨hx, hb, hml, hown, hts⟩ (m_X7_airComesNew l D y a r_airs r_sitters r_stepMany r_today r_taken r_isStill r_thrown r_letterMany r_at0 r_isBad r_statements r_stepsMany r_hasImage r_place0 r_isTaking r_keptIn r_turned r_rowMany r_seed r_warms r_shutAt r_kinds0 r_figures r_airAt r_ways r_crowned r_sitsAt r_shawls r_isOn r_stepOf r_stepBy r_refusals r_letters r_placeIn r_letterOf r_numbers r_stepsRead r_stepsBy r_kept r_keptWarms r_i_imaged r_imagedWarms r_turns0 r_turnWarms0 r_turnOf r_turnWarms r_row0 r_gains r_pegSort r_pegMany r_pegHolds r_coats r_coatsMoved x2 x4 (r_numbers (((4 : Int32) * n0) + (2 : Int32)).toNatClampNeg) (r_numbers (((4 : Int32) * n0) + (3 : Int32)).toNatClampNeg) x10 r_airs_11 r_kinds0_12 r_figures_13 r_airAt_14 r_ways_15 r_crowned_16 hy17) (cwV 4 hts (gA_V wl_418 wl_419 wl_420 wl_5 wl_421) rfl rfl rfl (by decide +kernel) ⟨Nat.le_of_ble_eq_true rfl, Nat.le_of_ble_eq_true rfl⟩) rfl rfl rfl hl.1 rfl (Nat.le_of_ble_eq_true rfl) dX7_comesTold_99 ⟨Nat.zero_le _, Nat.zero_le _⟩ hK hP hD hS hA (fun H locs hP hD hS => ?_)
    obtain ⟨h18, hf⟩ := dq_g hf
    obtain ⟨rfl, rfl, rfl, rfl, rfl, rfl, rfl, rfl, rfl, rfl, rfl, rfl, rfl, rfl, rfl, rfl, rfl, rfl⟩ := dq_r18 hf
    exact ct_zret hx hb hr (dq_zn h18) hlocks hAe hP hK hD hS dX7_comesTold_102
  have hf := dq_f hf c7
  by_cases c19 : x6 = (100 : Int32)
  · have hf := dq_t hf c19
    refine lv_lookup (tgt := 110) (off := 84) hx hb dX7_comesTold_26 (by decide) (by rw [c19]; decide) (by decide) ?_
    clear c7 c19
    refine lv_aload_n hx hb dX7_comesTold_110 rfl (lv_at hl 2 rfl) ?_
    refine lv_iload_n hx hb dX7_comesTold_111 rfl (lv_at hl 1 rfl) ?_
    obtain ⟨x20, r_shutAt_21, hy22, hf⟩ := dq_b2 hf
    refine ct_callV0 (ci := 6) (q0 := 0) (own := RX7) (As := [.int x2]) (rest := []) (ws' := (w_X7 y a r_airs r_sitters r_stepMany r_today r_taken r_isStill r_thrown r_letterMany r_at0 r_isBad r_statements r_stepsMany r_hasImage r_place0 r_isTaking r_keptIn r_turned r_rowMany r_seed r_warms r_shutAt_21 r_kinds0 r_figures r_airAt r_ways r_crowned r_sitsAt r_shawls r_isOn r_stepOf r_stepBy r_refusals r_letters r_placeIn r_letterOf r_numbers r_stepsRead r_stepsBy r_kept r_keptWarms r_i_imaged r_imagedWarms r_turns0 r_turnWarms0 r_turnOf r_turnWarms r_row0 r_gains r_pegSort r_pegMany r_pegHolds r_coats r_coatsMoved)) ⟨hx, hb, hml, hown, hts⟩ (m_X7_shutTold l D y a r_airs r_sitters r_stepMany r_today r_taken r_isStill r_thrown r_letterMany r_at0 r_isBad r_statements r_stepsMany r_hasImage r_place0 r_isTaking r_keptIn r_turned r_rowMany r_seed r_warms r_shutAt r_kinds0 r_figures r_airAt r_ways r_crowned r_sitsAt r_shawls r_isOn r_stepOf r_stepBy r_refusals r_letters r_placeIn r_letterOf r_numbers r_stepsRead r_stepsBy r_kept r_keptWarms r_i_imaged r_imagedWarms r_turns0 r_turnWarms0 r_turnOf r_turnWarms r_row0 r_gains r_pegSort r_pegMany r_pegHolds r_coats r_coatsMoved x2 x20 r_shutAt_21 hy22) (cwV 1 hts (gA_V wl_446 wl_447 wl_448 wl_5 wl_449) rfl rfl rfl (by decide +kernel) ⟨Nat.le_of_ble_eq_true rfl, Nat.le_of_ble_eq_true rfl⟩) rfl rfl rfl hl.1 rfl (Nat.le_of_ble_eq_true rfl) dX7_comesTold_112 ⟨Nat.zero_le _, Nat.zero_le _⟩ hK hP hD hS hA (fun H locs hP hD hS => ?_)
    obtain ⟨h23, hf⟩ := dq_g hf
    obtain ⟨rfl, rfl, rfl, rfl, rfl, rfl, rfl, rfl, rfl, rfl, rfl, rfl, rfl, rfl, rfl, rfl, rfl, rfl⟩ := dq_r18 hf
    exact ct_zret hx hb hr (dq_zn h23) hlocks hAe hP hK hD hS dX7_comesTold_115
  have hf := dq_f hf c19
  by_cases c24 : x6 = (108 : Int32)
  · have hf := dq_t hf c24
    refine lv_lookup (tgt := 123) (off := 97) hx hb dX7_comesTold_26 (by decide) (by rw [c24]; decide) (by decide) ?_
    clear c7 c19 c24
    refine lv_aload_n hx hb dX7_comesTold_123 rfl (lv_at hl 2 rfl) ?_
    refine lv_iload_n hx hb dX7_comesTold_124 rfl (lv_at hl 1 rfl) ?_
    refine lv_iload_n hx hb dX7_comesTold_125 rfl (lv_at hl 0 rfl) ?_
    obtain ⟨x25, r_stepMany_26, r_stepOf_27, r_stepBy_28, hy29, hf⟩ := dq_b4 hf
    refine ct_callV0 (ci := 6) (q0 := 0) (own := RX7) (As := [.int x2, .int x4]) (rest := []) (ws' := (w_X7 y a r_airs r_sitters r_stepMany_26 r_today r_taken r_isStill r_thrown r_letterMany r_at0 r_isBad r_statements r_stepsMany r_hasImage r_place0 r_isTaking r_keptIn r_turned r_rowMany r_seed r_warms r_shutAt r_kinds0 r_figures r_airAt r_ways r_crowned r_sitsAt r_shawls r_isOn r_stepOf_27 r_stepBy_28 r_refusals r_letters r_placeIn r_letterOf r_numbers r_stepsRead r_stepsBy r_kept r_keptWarms r_i_imaged r_imagedWarms r_turns0 r_turnWarms0 r_turnOf r_turnWarms r_row0 r_gains r_pegSort r_pegMany r_pegHolds r_coats r_coatsMoved)) ⟨hx, hb, hml, hown, hts⟩ (m_X7_hearthTold l D y a r_airs r_sitters r_stepMany r_today r_taken r_isStill r_thrown r_letterMany r_at0 r_isBad r_statements r_stepsMany r_hasImage r_place0 r_isTaking r_keptIn r_turned r_rowMany r_seed r_warms r_shutAt r_kinds0 r_figures r_airAt r_ways r_crowned r_sitsAt r_shawls r_isOn r_stepOf r_stepBy r_refusals r_letters r_placeIn r_letterOf r_numbers r_stepsRead r_stepsBy r_kept r_keptWarms r_i_imaged r_imagedWarms r_turns0 r_turnWarms0 r_turnOf r_turnWarms r_row0 r_gains r_pegSort r_pegMany r_pegHolds r_coats r_coatsMoved x2 x4 x25 r_stepMany_26 r_stepOf_27 r_stepBy_28 hy29) (cwV 2 hts (gA_V wl_454 wl_455 wl_456 wl_5 wl_457) rfl rfl rfl (by decide +kernel) ⟨Nat.le_of_ble_eq_true rfl, Nat.le_of_ble_eq_true rfl⟩) rfl rfl rfl hl.1 rfl (Nat.le_of_ble_eq_true rfl) dX7_comesTold_126 ⟨Nat.zero_le _, Nat.zero_le _⟩ hK hP hD hS hA (fun H locs hP hD hS => ?_)
    obtain ⟨h30, hf⟩ := dq_g hf
    obtain ⟨rfl, rfl, rfl, rfl, rfl, rfl, rfl, rfl, rfl, rfl, rfl, rfl, rfl, rfl, rfl, rfl, rfl, rfl⟩ := dq_r18 hf
    exact ct_zret hx hb hr (dq_zn h30) hlocks hAe hP hK hD hS dX7_comesTold_129
  have hf := dq_f hf c24
  by_cases c31 : x6 = (112 : Int32)
  · have hf := dq_t hf c31
    refine lv_lookup (tgt := 103) (off := 77) hx hb dX7_comesTold_26 (by decide) (by rw [c31]; decide) (by decide) ?_
    clear c7 c19 c24 c31
    refine lv_aload_n hx hb dX7_comesTold_103 rfl (lv_at hl 2 rfl) ?_
    refine lv_iload_n hx hb dX7_comesTold_104 rfl (lv_at hl 1 rfl) ?_
    refine lv_iload_n hx hb dX7_comesTold_105 rfl (lv_at hl 0 rfl) ?_
    obtain ⟨x32, r_sitters_33, r_sitsAt_34, r_shawls_35, r_isOn_36, hy37, hf⟩ := dq_b5 hf
    refine ct_callV0 (ci := 6) (q0 := 0) (own := RX7) (As := [.int x2, .int x4]) (rest := []) (ws' := (w_X7 y a r_airs r_sitters_33 r_stepMany r_today r_taken r_isStill r_thrown r_letterMany r_at0 r_isBad r_statements r_stepsMany r_hasImage r_place0 r_isTaking r_keptIn r_turned r_rowMany r_seed r_warms r_shutAt r_kinds0 r_figures r_airAt r_ways r_crowned r_sitsAt_34 r_shawls_35 r_isOn_36 r_stepOf r_stepBy r_refusals r_letters r_placeIn r_letterOf r_numbers r_stepsRead r_stepsBy r_kept r_keptWarms r_i_imaged r_imagedWarms r_turns0 r_turnWarms0 r_turnOf r_turnWarms r_row0 r_gains r_pegSort r_pegMany r_pegHolds r_coats r_coatsMoved)) ⟨hx, hb, hml, hown, hts⟩ (m_X7_sitterComes l D y a r_airs r_sitters r_stepMany r_today r_taken r_isStill r_thrown r_letterMany r_at0 r_isBad r_statements r_stepsMany r_hasImage r_place0 r_isTaking r_keptIn r_turned r_rowMany r_seed r_warms r_shutAt r_kinds0 r_figures r_airAt r_ways r_crowned r_sitsAt r_shawls r_isOn r_stepOf r_stepBy r_refusals r_letters r_placeIn r_letterOf r_numbers r_stepsRead r_stepsBy r_kept r_keptWarms r_i_imaged r_imagedWarms r_turns0 r_turnWarms0 r_turnOf r_turnWarms r_row0 r_gains r_pegSort r_pegMany r_pegHolds r_coats r_coatsMoved x2 x4 x32 r_sitters_33 r_sitsAt_34 r_shawls_35 r_isOn_36 hy37) (cwV 2 hts (gA_V wl_442 wl_443 wl_444 wl_5 wl_445) rfl rfl rfl (by decide +kernel) ⟨Nat.le_of_ble_eq_true rfl, Nat.le_of_ble_eq_true rfl⟩) rfl rfl rfl hl.1 rfl (Nat.le_of_ble_eq_true rfl) dX7_comesTold_106 ⟨Nat.zero_le _, Nat.zero_le _⟩ hK hP hD hS hA (fun H locs hP hD hS => ?_)
    obtain ⟨h38, hf⟩ := dq_g hf
    obtain ⟨rfl, rfl, rfl, rfl, rfl, rfl, rfl, rfl, rfl, rfl, rfl, rfl, rfl, rfl, rfl, rfl, rfl, rfl⟩ := dq_r18 hf
    exact ct_zret hx hb hr (dq_zn h38) hlocks hAe hP hK hD hS dX7_comesTold_109
  have hf := dq_f hf c31
  by_cases c39 : x6 = (119 : Int32)
  · have hf := dq_t hf c39
    refine lv_lookup (tgt := 116) (off := 90) hx hb dX7_comesTold_26 (by decide) (by rw [c39]; decide) (by decide) ?_
    clear c7 c19 c24 c31 c39
    refine lv_aload_n hx hb dX7_comesTold_116 rfl (lv_at hl 2 rfl) ?_
    refine lv_iload_n hx hb dX7_comesTold_117 rfl (lv_at hl 1 rfl) ?_
    refine lv_iload_n hx hb dX7_comesTold_118 rfl (lv_at hl 0 rfl) ?_
    obtain ⟨x40, r_warms_41, hy42, hf⟩ := dq_b2 hf
    refine ct_callV0 (ci := 6) (q0 := 0) (own := RX7) (As := [.int x2, .int x4]) (rest := []) (ws' := (w_X7 y a r_airs r_sitters r_stepMany r_today r_taken r_isStill r_thrown r_letterMany r_at0 r_isBad r_statements r_stepsMany r_hasImage r_place0 r_isTaking r_keptIn r_turned r_rowMany r_seed r_warms_41 r_shutAt r_kinds0 r_figures r_airAt r_ways r_crowned r_sitsAt r_shawls r_isOn r_stepOf r_stepBy r_refusals r_letters r_placeIn r_letterOf r_numbers r_stepsRead r_stepsBy r_kept r_keptWarms r_i_imaged r_imagedWarms r_turns0 r_turnWarms0 r_turnOf r_turnWarms r_row0 r_gains r_pegSort r_pegMany r_pegHolds r_coats r_coatsMoved)) ⟨hx, hb, hml, hown, hts⟩ (m_X7_warmTold l D y a r_airs r_sitters r_stepMany r_today r_taken r_isStill r_thrown r_letterMany r_at0 r_isBad r_statements r_stepsMany r_hasImage r_place0 r_isTaking r_keptIn r_turned r_rowMany r_seed r_warms r_shutAt r_kinds0 r_figures r_airAt r_ways r_crowned r_sitsAt r_shawls r_isOn r_stepOf r_stepBy r_refusals r_letters r_placeIn r_letterOf r_numbers r_stepsRead r_stepsBy r_kept r_keptWarms r_i_imaged r_imagedWarms r_turns0 r_turnWarms0 r_turnOf r_turnWarms r_row0 r_gains r_pegSort r_pegMany r_pegHolds r_coats r_coatsMoved x2 x4 x40 r_warms_41 hy42) (cwV 2 hts (gA_V wl_450 wl_451 wl_452 wl_5 wl_453) rfl rfl rfl (by decide +kernel) ⟨Nat.le_of_ble_eq_true rfl, Nat.le_of_ble_eq_true rfl⟩) rfl rfl rfl hl.1 rfl (Nat.le_of_ble_eq_true rfl) dX7_comesTold_119 ⟨Nat.zero_le _, Nat.zero_le _⟩ hK hP hD hS hA (fun H locs hP hD hS => ?_)
    obtain ⟨h43, hf⟩ := dq_g hf
    obtain ⟨rfl, rfl, rfl, rfl, rfl, rfl, rfl, rfl, rfl, rfl, rfl, rfl, rfl, rfl, rfl, rfl, rfl, rfl⟩ := dq_r18 hf
    exact ct_zret hx hb hr (dq_zn h43) hlocks hAe hP hK hD hS dX7_comesTold_122
  have hf := dq_f hf c39
  refine lv_lookup (tgt := 130) (off := 104) hx hb dX7_comesTold_26 (by decide) (by show Op.lookupswitch.offset [(97, 50), (100, 84), (108, 97), (112, 77), (119, 90)] 104 _ = _; rw [lv_osw c7 (by decide), lv_osw c19 (by decide), lv_osw c24 (by decide), lv_osw c31 (by decide), lv_osw c39 (by decide)]; rfl) (by decide) ?_
  clear c7 c19 c24 c31 c39
  refine lv_aload_n hx hb dX7_comesTold_130 rfl (lv_at hl 2 rfl) ?_
  refine lv_iload_n hx hb dX7_comesTold_131 rfl (lv_at hl 1 rfl) ?_
  obtain ⟨x44, r_today_45, r_taken_46, r_warms_47, r_airAt_48, r_ways_49, r_crowned_50, r_shawls_51, r_isOn_52, hy53, hf⟩ := dq_b9 hf
  refine ct_callV0 (ci := 6) (q0 := 0) (own := RX7) (As := [.int x2]) (rest := []) (ws' := (w_X7 y a r_airs r_sitters r_stepMany r_today_45 r_taken_46 r_isStill r_thrown r_letterMany r_at0 r_isBad r_statements r_stepsMany r_hasImage r_place0 r_isTaking r_keptIn r_turned r_rowMany r_seed r_warms_47 r_shutAt r_kinds0 r_figures r_airAt_48 r_ways_49 r_crowned_50 r_sitsAt r_shawls_51 r_isOn_52 r_stepOf r_stepBy r_refusals r_letters r_placeIn r_letterOf r_numbers r_stepsRead r_stepsBy r_kept r_keptWarms r_i_imaged r_imagedWarms r_turns0 r_turnWarms0 r_turnOf r_turnWarms r_row0 r_gains r_pegSort r_pegMany r_pegHolds r_coats r_coatsMoved)) ⟨hx, hb, hml, hown, hts⟩ (m_X7_turnsTold l D y a r_airs r_sitters r_stepMany r_today r_taken r_isStill r_thrown r_letterMany r_at0 r_isBad r_statements r_stepsMany r_hasImage r_place0 r_isTaking r_keptIn r_turned r_rowMany r_seed r_warms r_shutAt r_kinds0 r_figures r_airAt r_ways r_crowned r_sitsAt r_shawls r_isOn r_stepOf r_stepBy r_refusals r_letters r_placeIn r_letterOf r_numbers r_stepsRead r_stepsBy r_kept r_keptWarms r_i_imaged r_imagedWarms r_turns0 r_turnWarms0 r_turnOf r_turnWarms r_row0 r_gains r_pegSort r_pegMany r_pegHolds r_coats r_coatsMoved x2 x44 r_today_45 r_taken_46 r_warms_47 r_airAt_48 r_ways_49 r_crowned_50 r_shawls_51 r_isOn_52 hy53) (cwV 1 hts (gA_V wl_458 wl_459 wl_460 wl_5 wl_461) rfl rfl rfl (by decide +kernel) ⟨Nat.le_of_ble_eq_true rfl, Nat.le_of_ble_eq_true rfl⟩) rfl rfl rfl hl.1 rfl (Nat.le_of_ble_eq_true rfl) dX7_comesTold_132 ⟨Nat.zero_le _, Nat.zero_le _⟩ hK hP hD hS hA (fun H locs hP hD hS => ?_)
  obtain ⟨h54, hf⟩ := dq_g hf
  obtain ⟨rfl, rfl, rfl, rfl, rfl, rfl, rfl, rfl, rfl, rfl, rfl, rfl, rfl, rfl, rfl, rfl, rfl, rfl⟩ := dq_r18 hf
  exact ct_zret hx hb hr (dq_zn h54) hlocks hAe hP hK hD hS dX7_comesTold_135
def w_X7_carry (y : Nat → ClassId) (a : Nat → Nat) (kq : Nat) (r_airs : Int32) (r_sitters : Int32) (r_stepMany : Int32) (r_today : Int32) (r_taken : Int32) (r_isStill : Int32) (r_thrown : Int32) (r_letterMany : Int32) (r_at0 : Int32) (r_isBad : Int32) (r_statements : Int32) (r_stepsMany : Int32) (r_hasImage : Int32) (r_place0 : Int32) (r_isTaking : Int32) (r_turned : Int32) (r_rowMany : Int32) (r_seed : Int32) (K_v : (Nat → Int32)) : va_W := [((a 0), .inr (6, [.ref (a 1), .ref (a 2), .int r_airs, .ref (a 3), .ref (a 4), .ref (a 5), .ref (a 6), .ref (a 7), .int r_sitters, .ref (a 8), .ref (a 9), .ref (a 10), .int r_stepMany, .ref (a 11), .ref (a 12), .int r_today, .int r_taken, .int r_isStill, .int r_thrown, .ref (a 13), .ref (a 14), .int r_letterMany, .int r_at0, .int r_isBad, .int r_statements, .ref (a 15), .ref (a 16), .ref (a 17), .ref (a 18), .ref (a 19), .int r_stepsMany, .ref (a 20), .ref (a 21), .ref (a 22), .ref (a 23), .int r_hasImage, .int r_place0, .int r_isTaking, .ref kq, .ref (a 24), .ref (a 25), .ref (a 26), .ref (a 27), .int r_turned, .ref (a 28), .int r_rowMany, .ref (a 29), .ref (a 30), .ref (a 31), .ref (a 32), .ref (a 33), .ref (a 34), .int r_seed])), (kq, .inl (y 1, 96, .inl K_v))]
noncomputable def f_X7_carry_b17 (r_place0 : Int32)  (K_v_1 : (Nat → Int32)) : Option (Int32 × Int32 × (Nat → Int32)) := dq_let (r_place0 + (1 : Int32)) (fun (x2 : Int32) => dq_gd (vp_in (x2 - (1 : Int32)) 96) (some ((K_v_1 (x2 - (1 : Int32)).toNatClampNeg), x2, K_v_1)))
noncomputable def f_X7_carry (r_place0 : Int32) (r_isTaking : Int32) (K_v : (Nat → Int32)) (n0 : Int32) : Option (Int32 × Int32 × (Nat → Int32)) := dq_if (r_isTaking = 0) (f_X7_carry_b17 r_place0 K_v) (dq_gd (vp_in r_place0 96) (dq_let (upd K_v r_place0.toNatClampNeg n0) (fun (K_v_6 : (Nat → Int32)) => f_X7_carry_b17 r_place0 K_v_6)))
def wA_X7_carry : List Cond := .code yX7_carry cX7_carry 2 (some .int) :: wsL_law
-- DraughtsTakeModel.carry(I)I
set_option maxHeartbeats 4000000 in
set_option maxRecDepth 100000 in
theorem m_X7_carry (l : Launch) (D : va_G) (y : Nat → ClassId) (a : (Nat → Nat)) (kq : Nat) (r_airs : Int32) (r_sitters : Int32) (r_stepMany : Int32) (r_today : Int32) (r_taken : Int32) (r_isStill : Int32) (r_thrown : Int32) (r_letterMany : Int32) (r_at0 : Int32) (r_isBad : Int32) (r_statements : Int32) (r_stepsMany : Int32) (r_hasImage : Int32) (r_place0 : Int32) (r_isTaking : Int32) (r_turned : Int32) (r_rowMany : Int32) (r_seed : Int32) (K_v : (Nat → Int32)) (n0 : Int32) (z0 : Int32) (z1 : Int32) (z2 : (Nat → Int32)) (hf : f_X7_carry r_place0 r_isTaking K_v n0 = some (z0, z1, z2)) : Ct l D y yX7_carry wA_X7_carry 0 0 [.ref (a 0), .int n0] (w_X7_carry y a kq r_airs r_sitters r_stepMany r_today r_taken r_isStill r_thrown r_letterMany r_at0 r_isBad r_statements r_stepsMany r_hasImage r_place0 r_isTaking r_turned r_rowMany r_seed K_v) (w_X7_carry y a kq r_airs r_sitters r_stepMany r_today r_taken r_isStill r_thrown r_letterMany r_at0 r_isBad r_statements r_stepsMany r_hasImage z1 r_isTaking r_turned r_rowMany r_seed z2) (some (.int z0)) := by
  refine ct_head (cc := cX7_carry) (n := 2) (ret := (some .int)) (by decide) rfl (Nat.le_of_ble_eq_true rfl) ?_
  intro p e s m below meth c A ls hx hb hr hml hown hlocks hts hA hAe hP hK hD hl
  have hS : va_S A s.heap s.heap [] := va_S.rf
  have hl : lv_has ls 2 [(0, .ref (a 0)), (1, .int n0)] := hl
  have hown : s.vm.findClass RX7 = some m.cls := hown
  have hts : ∀ w ∈ wsL_law, w.before [.ref (a 0), .int n0].toArray s = true := fun w h => hts w (List.mem_cons_of_mem _ h)
  unfold f_X7_carry at hf
  refine lv_aload_n hx hb dX7_carry_0 rfl (lv_at hl 0 rfl) ?_
  refine va_get (D := D) (ci := 6) (v := .int r_isTaking) (C := RX7) (T := TX7) (N := 53) hx hb hts iwX7 hown hK hP 0 rfl rfl 37 (by decide) (hts _ wl_403) (fun _ h9 => h9) rfl dX7_carry_1 ?_
  have J17 : ∀ (K_v_1 : (Nat → Int32)), f_X7_carry_b17 r_place0 K_v_1 = some (z0, z1, z2) → ∀ (H : Heap) (locs : List Loc), va_P D vwCl (w_X7_carry y a kq r_airs r_sitters r_stepMany r_today r_taken r_isStill r_thrown r_letterMany r_at0 r_isBad r_statements r_stepsMany r_hasImage r_place0 r_isTaking r_turned r_rowMany r_seed K_v_1) H → va_D A (w_X7_carry y a kq r_airs r_sitters r_stepMany r_today r_taken r_isStill r_thrown r_letterMany r_at0 r_isBad r_statements r_stepsMany r_hasImage r_place0 r_isTaking r_turned r_rowMany r_seed K_v_1) → va_S A s.heap H locs → ∀ ls : Array Slot, lv_has ls 2 [(0, .ref (a 0))] → W p l e ({ frames := 0, cells := 0, slots := 0, locals := 0 } : Room) s m [.ref (a 0), .int n0].toArray below meth c H locs 0 0 (MQ below (dQ D y (some (.int z0)) s.heap.size (w_X7_carry y a kq r_airs r_sitters r_stepMany r_today r_taken r_isStill r_thrown r_letterMany r_at0 r_isBad r_statements r_stepsMany r_hasImage r_place0 r_isTaking r_turned r_rowMany r_seed K_v) (w_X7_carry y a kq r_airs r_sitters r_stepMany r_today r_taken r_isStill r_thrown r_letterMany r_at0 r_isBad r_statements r_stepsMany r_hasImage z1 r_isTaking r_turned r_rowMany r_seed z2)) [.ref (a 0), .int n0].toArray s 0 0 A) (F0 m 17 ls []) := by
    intro K_v_1 hf H locs hP hD hS ls hl
    unfold f_X7_carry_b17 at hf
    refine lv_aload_n hx hb dX7_carry_17 rfl (lv_at hl 0 rfl) ?_
    refine lv_dup hx hb dX7_carry_18 rfl ?_
    refine va_get (D := D) (ci := 6) (v := .int r_place0) (C := RX7) (T := TX7) (N := 53) hx hb hts iwX7 hown hK hP 0 rfl rfl 36 (by decide) (hts _ wl_404) (fun _ h9 => h9) rfl dX7_carry_19 ?_
    refine lv_iconst (v := 1) hx hb dX7_carry_22 (by decide) ?_
    refine lv_iadd hx hb dX7_carry_23 ?_
    refine lv_topi (fun x2 ex2 => ?_)
    have hf := dq_l hf x2 ex2
    clear ex2
    refine va_put (D := D) (ci := 6) (v := .int x2) (ty := .int) (C := RX7) (T := TX7) (N := 53) hx hb hts iwX7 tyX7 tyX7_ok nmX7 hown hK hP hD hS 0 rfl rfl 36 (by decide) (hts _ wl_404) (fun _ h9 => h9) rfl (tyX7_ok 36 (by decide)) rfl rfl (Nat.le_of_ble_eq_true rfl) dX7_carry_24 (fun H locs hP hD hS => ?_)
    have hP : va_P D vwCl (w_X7_carry y a kq r_airs r_sitters r_stepMany r_today r_taken r_isStill r_thrown r_letterMany r_at0 r_isBad r_statements r_stepsMany r_hasImage x2 r_isTaking r_turned r_rowMany r_seed K_v_1) H := hP
    have hD : va_D A (w_X7_carry y a kq r_airs r_sitters r_stepMany r_today r_taken r_isStill r_thrown r_letterMany r_at0 r_isBad r_statements r_stepsMany r_hasImage x2 r_isTaking r_turned r_rowMany r_seed K_v_1) := hD
    refine lv_aload_n hx hb dX7_carry_27 rfl (lv_at hl 0 rfl) ?_
    refine va_get (D := D) (ci := 6) (v := .ref kq) (C := RX7) (T := TX7) (N := 53) hx hb hts iwX7 hown hK hP 0 rfl rfl 38 (by decide) (hts _ wl_402) (fun _ h9 => h9) rfl dX7_carry_28 ?_
    refine lv_aload_n hx hb dX7_carry_31 rfl (lv_at hl 0 rfl) ?_
    refine va_get (D := D) (ci := 6) (v := .int x2) (C := RX7) (T := TX7) (N := 53) hx hb hts iwX7 hown hK hP 0 rfl rfl 36 (by decide) (hts _ wl_404) (fun _ h9 => h9) rfl dX7_carry_32 ?_
    refine lv_iconst (v := 1) hx hb dX7_carry_35 (by decide) ?_
    refine lv_isub hx hb dX7_carry_36 ?_
    obtain ⟨h3, hf⟩ := dq_g hf
    refine va_iald (cA := y 1) (n := 96) (f := K_v_1) hx hb hK hP 1 1 rfl rfl h3 dX7_carry_37 ?_
    obtain ⟨rfl, rfl, rfl⟩ := dq_r3 hf
    exact ct_iret hx hb hr hlocks hAe hP hK hD hS dX7_carry_38
  refine lv_if_eq (tgt := 17) hx hb dX7_carry_4 (by decide) (fun c4 => ?_) (fun c4 => ?_)
  · have hf := dq_t hf c4
    clear c4
    exact J17 _ hf _ _ hP hD hS _ (lv_sub hl [0] rfl)
  · have hf := dq_f hf c4
    clear c4
    refine lv_aload_n hx hb dX7_carry_7 rfl (lv_at hl 0 rfl) ?_
    refine va_get (D := D) (ci := 6) (v := .ref kq) (C := RX7) (T := TX7) (N := 53) hx hb hts iwX7 hown hK hP 0 rfl rfl 38 (by decide) (hts _ wl_402) (fun _ h9 => h9) rfl dX7_carry_8 ?_
    refine lv_aload_n hx hb dX7_carry_11 rfl (lv_at hl 0 rfl) ?_
    refine va_get (D := D) (ci := 6) (v := .int r_place0) (C := RX7) (T := TX7) (N := 53) hx hb hts iwX7 hown hK hP 0 rfl rfl 36 (by decide) (hts _ wl_404) (fun _ h9 => h9) rfl dX7_carry_12 ?_
    refine lv_iload_n hx hb dX7_carry_15 rfl (lv_at hl 1 rfl) ?_
    obtain ⟨h5, hf⟩ := dq_g hf
    refine dq_iast (cA := y 1) (n := 96) (f := K_v) hx hb hK hP hD hS 1 1 rfl rfl h5 dX7_carry_16 (fun K_v_6 eK_v_6 H locs hP hD hS => ?_)
    have hf := dq_l hf K_v_6 eK_v_6
    clear eK_v_6
    have hP : va_P D vwCl (w_X7_carry y a kq r_airs r_sitters r_stepMany r_today r_taken r_isStill r_thrown r_letterMany r_at0 r_isBad r_statements r_stepsMany r_hasImage r_place0 r_isTaking r_turned r_rowMany r_seed K_v_6) H := hP
    have hD : va_D A (w_X7_carry y a kq r_airs r_sitters r_stepMany r_today r_taken r_isStill r_thrown r_letterMany r_at0 r_isBad r_statements r_stepsMany r_hasImage r_place0 r_isTaking r_turned r_rowMany r_seed K_v_6) := hD
    exact J17 _ hf _ _ hP hD hS _ (lv_sub hl [0] rfl)
