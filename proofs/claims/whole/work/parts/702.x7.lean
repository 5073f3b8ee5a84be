noncomputable def f_X7_airOn_b10 (n0 : Int32) (r_airAt : (Nat → Int32))  : Nat → Int32 → Int32 → Option Int32
  | 0, _, _ => none
  | m10 + 1, x2, x3 => dq_if (x3 < 0) (some x2) (dq_gd (vp_in x3 5) (dq_if ((r_airAt x3.toNatClampNeg) = n0) (dq_let (x3 + (-1 : Int32)) (fun (x8 : Int32) => (f_X7_airOn_b10 n0 r_airAt m10) x3 x8)) (dq_let (x3 + (-1 : Int32)) (fun (x7 : Int32) => (f_X7_airOn_b10 n0 r_airAt m10) x2 x7))))
noncomputable def f_X7_airOn (r_airs : Int32) (r_airAt : (Nat → Int32)) (n0 : Int32) : Option Int32 := dq_let (r_airs - (1 : Int32)) (fun (x1 : Int32) => f_X7_airOn_b10 n0 r_airAt 4096 (-9 : Int32) x1)
def wA_X7_airOn : List Cond := .code yX7_airOn cX7_airOn 4 (some .int) :: wsL_law
-- DraughtsTakeModel.airOn(I)I
set_option maxHeartbeats 4000000 in
set_option maxRecDepth 100000 in
theorem m_X7_airOn (l : Launch) (D : va_G) (y : Nat → ClassId) (a : (Nat → Nat)) (r_airs : Int32) (r_sitters : Int32) (r_stepMany : Int32) (r_today : Int32) (r_taken : Int32) (r_isStill : Int32) (r_thrown : Int32) (r_letterMany : Int32) (r_at0 : Int32) (r_isBad : Int32) (r_statements : Int32) (r_stepsMany : Int32) (r_hasImage : Int32) (r_place0 : Int32) (r_isTaking : Int32) (r_keptIn : Value) (r_turned : Int32) (r_rowMany : Int32) (r_seed : Int32) (r_warms : (Nat → UInt32)) (r_shutAt : (Nat → Int32)) (r_kinds0 : (Nat → Int32)) (r_figures : (Nat → Int32)) (r_airAt : (Nat → Int32)) (r_ways : (Nat → Int32)) (r_crowned : (Nat → Int32)) (r_sitsAt : (Nat → Int32)) (r_shawls : (Nat → Int32)) (r_isOn : (Nat → Int32)) (r_stepOf : (Nat → Int32)) (r_stepBy : (Nat → Int32)) (r_refusals : (Nat → Int32)) (r_letters : (Nat → Int32)) (r_placeIn : (Nat → Int32)) (r_letterOf : (Nat → Int32)) (r_numbers : (Nat → Int32)) (r_stepsRead : (Nat → Int32)) (r_stepsBy : (Nat → Int32)) (r_kept : (Nat → Int32)) (r_keptWarms : (Nat → UInt32)) (r_i_imaged : (Nat → Int32)) (r_imagedWarms : (Nat → UInt32)) (r_turns0 : (Nat → Int32)) (r_turnWarms0 : (Nat → UInt32)) (r_turnOf : (Nat → Int32)) (r_turnWarms : (Nat → UInt32)) (r_row0 : (Nat → Int32)) (r_gains : (Nat → Int32)) (r_pegSort : (Nat → Int32)) (r_pegMany : (Nat → Int32)) (r_pegHolds : (Nat → Int32)) (r_coats : (Nat → Int32)) (r_coatsMoved : (Nat → Int32)) (n0 : Int32) (z0 : Int32) (hf : f_X7_airOn r_airs r_airAt n0 = some z0) : Ct l D y yX7_airOn wA_X7_airOn 0 0 [.ref (a 0), .int n0] (w_X7 y a r_airs r_sitters r_stepMany r_today r_taken r_isStill r_thrown r_letterMany r_at0 r_isBad r_statements r_stepsMany r_hasImage r_place0 r_isTaking r_keptIn r_turned r_rowMany r_seed r_warms r_shutAt r_kinds0 r_figures r_airAt r_ways r_crowned r_sitsAt r_shawls r_isOn r_stepOf r_stepBy r_refusals r_letters r_placeIn r_letterOf r_numbers r_stepsRead r_stepsBy r_kept r_keptWarms r_i_imaged r_imagedWarms r_turns0 r_turnWarms0 r_turnOf r_turnWarms r_row0 r_gains r_pegSort r_pegMany r_pegHolds r_coats r_coatsMoved) (w_X7 y a r_airs r_sitters r_stepMany r_today r_taken r_isStill r_thrown r_letterMany r_at0 r_isBad r_statements r_stepsMany r_hasImage r_place0 r_isTaking r_keptIn r_turned r_rowMany r_seed r_warms r_shutAt r_kinds0 r_figures r_airAt r_ways r_crowned r_sitsAt r_shawls r_isOn r_stepOf r_stepBy r_refusals r_letters r_placeIn r_letterOf r_numbers r_stepsRead r_stepsBy r_kept r_keptWarms r_i_imaged r_imagedWarms r_turns0 r_turnWarms0 r_turnOf r_turnWarms r_row0 r_gains r_pegSort r_pegMany r_pegHolds r_coats r_coatsMoved) (some (.int z0)) := by
  refine ct_head (cc := cX7_airOn) (n := 4) (ret := (some .int)) (by decide) rfl (Nat.le_of_ble_eq_true rfl) ?_
  intro p e s m below meth c A ls hx hb hr hml hown hlocks hts hA hAe hP hK hD hl
  have hS : va_S A s.heap s.heap [] := va_S.rf
  have hl : lv_has ls 4 [(0, .ref (a 0)), (1, .int n0)] := hl
  have hown : s.vm.findClass RX7 = some m.cls := hown
  have hts : ∀ w ∈ wsL_law, w.before [.ref (a 0), .int n0].toArray s = true := fun w h => hts w (List.mem_cons_of_mem _ h)
  unfold f_X7_airOn at hf
  refine lv_bipush (v := -9) hx hb dX7_airOn_0 (by decide) ?_
  refine lv_istore_n (lv' := [(2, .int (-9 : Int32)), (0, .ref (a 0)), (1, .int n0)]) hx hb dX7_airOn_2 rfl hl (by decide) rfl (fun ls hl => ?_)
  refine lv_aload_n hx hb dX7_airOn_3 rfl (lv_at hl 1 rfl) ?_
  refine va_get (D := D) (ci := 6) (v := .int r_airs) (C := RX7) (T := TX7) (N := 53) hx hb hts iwX7 hown hK hP 0 rfl rfl 2 (by decide) (hts _ wl_405) (fun _ h9 => h9) rfl dX7_airOn_4 ?_
  refine lv_iconst (v := 1) hx hb dX7_airOn_7 (by decide) ?_
  refine lv_isub hx hb dX7_airOn_8 ?_
  refine lv_topi (fun x1 ex1 => ?_)
  have hf := dq_l hf x1 ex1
  clear ex1
  refine lv_istore_n (lv' := [(3, .int x1), (2, .int (-9 : Int32)), (0, .ref (a 0)), (1, .int n0)]) hx hb dX7_airOn_9 rfl hl (by decide) rfl (fun ls hl => ?_)
  have J10 : ∀ (m10 : Nat) (x2 : Int32) (x3 : Int32), f_X7_airOn_b10 n0 r_airAt m10 x2 x3 = some z0 → ∀ (H : Heap) (locs : List Loc), va_P D vwCl (w_X7 y a r_airs r_sitters r_stepMany r_today r_taken r_isStill r_thrown r_letterMany r_at0 r_isBad r_statements r_stepsMany r_hasImage r_place0 r_isTaking r_keptIn r_turned r_rowMany r_seed r_warms r_shutAt r_kinds0 r_figures r_airAt r_ways r_crowned r_sitsAt r_shawls r_isOn r_stepOf r_stepBy r_refusals r_letters r_placeIn r_letterOf r_numbers r_stepsRead r_stepsBy r_kept r_keptWarms r_i_imaged r_imagedWarms r_turns0 r_turnWarms0 r_turnOf r_turnWarms r_row0 r_gains r_pegSort r_pegMany r_pegHolds r_coats r_coatsMoved) H → va_D A (w_X7 y a r_airs r_sitters r_stepMany r_today r_taken r_isStill r_thrown r_letterMany r_at0 r_isBad r_statements r_stepsMany r_hasImage r_place0 r_isTaking r_keptIn r_turned r_rowMany r_seed r_warms r_shutAt r_kinds0 r_figures r_airAt r_ways r_crowned r_sitsAt r_shawls r_isOn r_stepOf r_stepBy r_refusals r_letters r_placeIn r_letterOf r_numbers r_stepsRead r_stepsBy r_kept r_keptWarms r_i_imaged r_imagedWarms r_turns0 r_turnWarms0 r_turnOf r_turnWarms r_row0 r_gains r_pegSort r_pegMany r_pegHolds r_coats r_coatsMoved) → va_S A s.heap H locs → ∀ ls : Array Slot, lv_has ls 4 [(0, .ref (a 0)), (1, .int n0), (2, .int x2), (3, .int x3)] → W p l e ({ frames := 0, cells := 0, slots := 0, locals := 0 } : Room) s m [.ref (a 0), .int n0].toArray below meth c H locs 0 0 (MQ below (dQ D y (some (.int z0)) s.heap.size (w_X7 y a r_airs r_sitters r_stepMany r_today r_taken r_isStill r_thrown r_letterMany r_at0 r_isBad r_statements r_stepsMany r_hasImage r_place0 r_isTaking r_keptIn r_turned r_rowMany r_seed r_warms r_shutAt r_kinds0 r_figures r_airAt r_ways r_crowned r_sitsAt r_shawls r_isOn r_stepOf r_stepBy r_refusals r_letters r_placeIn r_letterOf r_numbers r_stepsRead r_stepsBy r_kept r_keptWarms r_i_imaged r_imagedWarms r_turns0 r_turnWarms0 r_turnOf r_turnWarms r_row0 r_gains r_pegSort r_pegMany r_pegHolds r_coats r_coatsMoved) (w_X7 y a r_airs r_sitters r_stepMany r_today r_taken r_isStill r_thrown r_letterMany r_at0 r_isBad r_statements r_stepsMany r_hasImage r_place0 r_isTaking r_keptIn r_turned r_rowMany r_seed r_warms r_shutAt r_kinds0 r_figures r_airAt r_ways r_crowned r_sitsAt r_shawls r_isOn r_stepOf r_stepBy r_refusals r_letters r_placeIn r_letterOf r_numbers r_stepsRead r_stepsBy r_kept r_keptWarms r_i_imaged r_imagedWarms r_turns0 r_turnWarms0 r_turnOf r_turnWarms r_row0 r_gains r_pegSort r_pegMany r_pegHolds r_coats r_coatsMoved)) [.ref (a 0), .int n0].toArray s 0 0 A) (F0 m 10 ls []) := by
    intro m10
    induction m10 with
    | zero => intro x2 x3 hf; exact absurd hf (by unfold f_X7_airOn_b10; exact fun h => by cases h)
    | succ m10 I10 =>
      intro x2 x3 hf H locs hP hD hS ls hl
      unfold f_X7_airOn_b10 at hf
      refine lv_iload_n hx hb dX7_airOn_10 rfl (lv_at hl 3 rfl) ?_
      refine lv_if_lt (tgt := 36) hx hb dX7_airOn_11 (by decide) (fun c4 => ?_) (fun c4 => ?_)
      · have hf := dq_t hf c4
        clear c4
        refine lv_iload_n hx hb dX7_airOn_36 rfl (lv_at hl 2 rfl) ?_
        obtain rfl := dq_r1 hf
        exact ct_iret hx hb hr hlocks hAe hP hK hD hS dX7_airOn_37
      · have hf := dq_f hf c4
        clear c4
        refine lv_aload_n hx hb dX7_airOn_14 rfl (lv_at hl 0 rfl) ?_
        refine va_get (D := D) (ci := 6) (v := .ref (a 5)) (C := RX7) (T := TX7) (N := 53) hx hb hts iwX7 hown hK hP 0 rfl rfl 5 (by decide) (hts _ wl_85) (fun _ h9 => h9) rfl dX7_airOn_15 ?_
        refine lv_iload_n hx hb dX7_airOn_18 rfl (lv_at hl 3 rfl) ?_
        obtain ⟨h5, hf⟩ := dq_g hf
        refine va_iald (cA := y 1) (n := 5) (f := r_airAt) hx hb hK hP 5 1 rfl rfl h5 dX7_airOn_19 ?_
        refine lv_iload_n hx hb dX7_airOn_20 rfl (lv_at hl 1 rfl) ?_
        refine lv_icmp_ne (tgt := 28) hx hb dX7_airOn_21 (by decide) (fun c6 => ?_) (fun c6 => ?_)
        · have hf := dq_f hf c6
          clear c6
          refine lv_iload_n hx hb dX7_airOn_28 rfl (lv_at hl 2 rfl) ?_
          refine lv_istore_n (lv' := [(2, .int x2), (0, .ref (a 0)), (1, .int n0), (3, .int x3)]) hx hb dX7_airOn_29 rfl hl (by decide) rfl (fun ls hl => ?_)
          obtain ⟨x7, ex7⟩ : ∃ z : Int32, z = (x3 + (-1 : Int32)) := ⟨_, rfl⟩
          have hf := dq_l hf x7 ex7
          refine lv_iinc (v := x7) (lv' := [(3, .int x7), (2, .int x2), (0, .ref (a 0)), (1, .int n0)]) hx hb dX7_airOn_30 hl (k := 3) rfl (by rw [ex7]; rfl) (by decide) rfl (fun ls hl => ?_)
          clear ex7
          refine lv_goto (tgt := 10) hx hb dX7_airOn_33 (by decide) ?_
          exact I10 _ _ hf _ _ hP hD hS _ (lv_sub hl [2, 3, 1, 0] rfl)
        · have hf := dq_t hf c6
          clear c6
          refine lv_iload_n hx hb dX7_airOn_24 rfl (lv_at hl 3 rfl) ?_
          refine lv_goto (tgt := 29) hx hb dX7_airOn_25 (by decide) ?_
          refine lv_istore_n (lv' := [(2, .int x3), (0, .ref (a 0)), (1, .int n0), (3, .int x3)]) hx hb dX7_airOn_29 rfl hl (by decide) rfl (fun ls hl => ?_)
          obtain ⟨x8, ex8⟩ : ∃ z : Int32, z = (x3 + (-1 : Int32)) := ⟨_, rfl⟩
          have hf := dq_l hf x8 ex8
          refine lv_iinc (v := x8) (lv' := [(3, .int x8), (2, .int x3), (0, .ref (a 0)), (1, .int n0)]) hx hb dX7_airOn_30 hl (k := 3) rfl (by rw [ex8]; rfl) (by decide) rfl (fun ls hl => ?_)
          clear ex8
          refine lv_goto (tgt := 10) hx hb dX7_airOn_33 (by decide) ?_
          exact I10 _ _ hf _ _ hP hD hS _ (lv_sub hl [2, 3, 1, 0] rfl)
  exact J10 4096 _ _ hf _ _ hP hD hS _ (lv_sub hl [2, 3, 1, 0] rfl)
noncomputable def f_X7_sitterOn_b10 (n0 : Int32) (r_sitsAt : (Nat → Int32)) (r_isOn : (Nat → Int32))  : Nat → Int32 → Int32 → Option Int32
  | 0, _, _ => none
  | m10 + 1, x2, x3 => dq_if (x3 < 0) (some x2) (dq_gd (vp_in x3 6) (dq_if ((r_sitsAt x3.toNatClampNeg) = n0) (dq_gd (vp_in x3 6) (dq_if ((r_isOn x3.toNatClampNeg) = (1 : Int32)) (dq_let (x3 + (-1 : Int32)) (fun (x11 : Int32) => (f_X7_sitterOn_b10 n0 r_sitsAt r_isOn m10) x3 x11)) (dq_let (x3 + (-1 : Int32)) (fun (x10 : Int32) => (f_X7_sitterOn_b10 n0 r_sitsAt r_isOn m10) x2 x10)))) (dq_let (x3 + (-1 : Int32)) (fun (x7 : Int32) => (f_X7_sitterOn_b10 n0 r_sitsAt r_isOn m10) x2 x7))))
noncomputable def f_X7_sitterOn (r_sitters : Int32) (r_sitsAt : (Nat → Int32)) (r_isOn : (Nat → Int32)) (n0 : Int32) : Option Int32 := dq_let (r_sitters - (1 : Int32)) (fun (x1 : Int32) => f_X7_sitterOn_b10 n0 r_sitsAt r_isOn 4096 (-9 : Int32) x1)
def wA_X7_sitterOn : List Cond := .code yX7_sitterOn cX7_sitterOn 4 (some .int) :: wsL_law
-- DraughtsTakeModel.sitterOn(I)I
set_option maxHeartbeats 4000000 in
set_option maxRecDepth 100000 in
theorem m_X7_sitterOn (l : Launch) (D : va_G) (y : Nat → ClassId) (a : (Nat → Nat)) (r_airs : Int32) (r_sitters : Int32) (r_stepMany : Int32) (r_today : Int32) (r_taken : Int32) (r_isStill : Int32) (r_thrown : Int32) (r_letterMany : Int32) (r_at0 : Int32) (r_isBad : Int32) (r_statements : Int32) (r_stepsMany : Int32) (r_hasImage : Int32) (r_place0 : Int32) (r_isTaking : Int32) (r_keptIn : Value) (r_turned : Int32) (r_rowMany : Int32) (r_seed : Int32) (r_warms : (Nat → UInt32)) (r_shutAt : (Nat → Int32)) (r_kinds0 : (Nat → Int32)) (r_figures : (Nat → Int32)) (r_airAt : (Nat → Int32)) (r_ways : (Nat → Int32)) (r_crowned : (Nat → Int32)) (r_sitsAt : (Nat → Int32)) (r_shawls : (Nat → Int32)) (r_isOn : (Nat → Int32)) (r_stepOf : (Nat → Int32)) (r_stepBy : (Nat → Int32)) (r_refusals : (Nat → Int32)) (r_letters : (Nat → Int32)) (r_placeIn : (Nat → Int32)) (r_letterOf : (Nat → Int32)) (r_numbers : (Nat → Int32)) (r_stepsRead : (Nat → Int32)) (r_stepsBy : (Nat → Int32)) (r_kept : (Nat → Int32)) (r_keptWarms : (Nat → UInt32)) (r_i_imaged : (Nat → Int32)) (r_imagedWarms : (Nat → UInt32)) (r_turns0 : (Nat → Int32)) (r_turnWarms0 : (Nat → UInt32)) (r_turnOf : (Nat → Int32)) (r_turnWarms : (Nat → UInt32)) (r_row0 : (Nat → Int32)) (r_gains : (Nat → Int32)) (r_pegSort : (Nat → Int32)) (r_pegMany : (Nat → Int32)) (r_pegHolds : (Nat → Int32)) (r_coats : (Nat → Int32)) (r_coatsMoved : (Nat → Int32)) (n0 : Int32) (z0 : Int32) (hf : f_X7_sitterOn r_sitters r_sitsAt r_isOn n0 = some z0) : Ct l D y yX7_sitterOn wA_X7_sitterOn 0 0 [.ref (a 0), .int n0] (w_X7 y a r_airs r_sitters r_stepMany r_today r_taken r_isStill r_thrown r_letterMany r_at0 r_isBad r_statements r_stepsMany r_hasImage r_place0 r_isTaking r_keptIn r_turned r_rowMany r_seed r_warms r_shutAt r_kinds0 r_figures r_airAt r_ways r_crowned r_sitsAt r_shawls r_isOn r_stepOf r_stepBy r_refusals r_letters r_placeIn r_letterOf r_numbers r_stepsRead r_stepsBy r_kept r_keptWarms r_i_imaged r_imagedWarms r_turns0 r_turnWarms0 r_turnOf r_turnWarms r_row0 r_gains r_pegSort r_pegMany r_pegHolds r_coats r_coatsMoved) (w_X7 y a r_airs r_sitters r_stepMany r_today r_taken r_isStill r_thrown r_letterMany r_at0 r_isBad r_statements r_stepsMany r_hasImage r_place0 r_isTaking r_keptIn r_turned r_rowMany r_seed r_warms r_shutAt r_kinds0 r_figures r_airAt r_ways r_crowned r_sitsAt r_shawls r_isOn r_stepOf r_stepBy r_refusals r_letters r_placeIn r_letterOf r_numbers r_stepsRead r_stepsBy r_kept r_keptWarms r_i_imaged r_imagedWarms r_turns0 r_turnWarms0 r_turnOf r_turnWarms r_row0 r_gains r_pegSort r_pegMany r_pegHolds r_coats r_coatsMoved) (some (.int z0)) := by
  refine ct_head (cc := cX7_sitterOn) (n := 4) (ret := (some .int)) (by decide) rfl (Nat.le_of_ble_eq_true rfl) ?_
  intro p e s m below meth c A ls hx hb hr hml hown hlocks hts hA hAe hP hK hD hl
  have hS : va_S A s.heap s.heap [] := va_S.rf
  have hl : lv_has ls 4 [(0, .ref (a 0)), (1, .int n0)] := hl
  have hown : s.vm.findClass RX7 = some m.cls := hown
  have hts : ∀ w ∈ wsL_law, w.before [.ref (a 0), .int n0].toArray s = true := fun w h => hts w (List.mem_cons_of_mem _ h)
  unfold f_X7_sitterOn at hf
  refine lv_bipush (v := -9) hx hb dX7_sitterOn_0 (by decide) ?_
  refine lv_istore_n (lv' := [(2, .int (-9 : Int32)), (0, .ref (a 0)), (1, .int n0)]) hx hb dX7_sitterOn_2 rfl hl (by decide) rfl (fun ls hl => ?_)
  refine lv_aload_n hx hb dX7_sitterOn_3 rfl (lv_at hl 1 rfl) ?_
  refine va_get (D := D) (ci := 6) (v := .int r_sitters) (C := RX7) (T := TX7) (N := 53) hx hb hts iwX7 hown hK hP 0 rfl rfl 8 (by decide) (hts _ wl_406) (fun _ h9 => h9) rfl dX7_sitterOn_4 ?_
  refine lv_iconst (v := 1) hx hb dX7_sitterOn_7 (by decide) ?_
  refine lv_isub hx hb dX7_sitterOn_8 ?_
  refine lv_topi (fun x1 ex1 => ?_)
  have hf := dq_l hf x1 ex1
  clear ex1
  refine lv_istore_n (lv' := [(3, .int x1), (2, .int (-9 : Int32)), (0, .ref (a 0)), (1, .int n0)]) hx hb dX7_sitterOn_9 rfl hl (by decide) rfl (fun ls hl => ?_)
  have J10 : ∀ (m10 : Nat) (x2 : Int32) (x3 : Int32), f_X7_sitterOn_b10 n0 r_sitsAt r_isOn m10 x2 x3 = some z0 → ∀ (H : Heap) (locs : List Loc), va_P D vwCl (w_X7 y a r_airs r_sitters r_stepMany r_today r_taken r_isStill r_thrown r_letterMany r_at0 r_isBad r_statements r_stepsMany r_hasImage r_place0 r_isTaking r_keptIn r_turned r_rowMany r_seed r_warms r_shutAt r_kinds0 r_figures r_airAt r_ways r_crowned r_sitsAt r_shawls r_isOn r_stepOf r_stepBy r_refusals r_letters r_placeIn r_letterOf r_numbers r_stepsRead r_stepsBy r_kept r_keptWarms r_i_imaged r_imagedWarms r_turns0 r_turnWarms0 r_turnOf r_turnWarms r_row0 r_gains r_pegSort r_pegMany r_pegHolds r_coats r_coatsMoved) H → va_D A (w_X7 y a r_airs r_sitters r_stepMany r_today r_taken r_isStill r_thrown r_letterMany r_at0 r_isBad r_statements r_stepsMany r_hasImage r_place0 r_isTaking r_keptIn r_turned r_rowMany r_seed r_warms r_shutAt r_kinds0 r_figures r_airAt r_ways r_crowned r_sitsAt r_shawls r_isOn r_stepOf r_stepBy r_refusals r_letters r_placeIn r_letterOf r_numbers r_stepsRead r_stepsBy r_kept r_keptWarms r_i_imaged r_imagedWarms r_turns0 r_turnWarms0 r_turnOf r_turnWarms r_row0 r_gains r_pegSort r_pegMany r_pegHolds r_coats r_coatsMoved) → va_S A s.heap H locs → ∀ ls : Array Slot, lv_has ls 4 [(0, .ref (a 0)), (1, .int n0), (2, .int x2), (3, .int x3)] → W p l e ({ frames := 0, cells := 0, slots := 0, locals := 0 } : Room) s m [.ref (a 0), .int n0].toArray below meth c H locs 0 0 (MQ below (dQ D y (some (.int z0)) s.heap.size (w_X7 y a r_airs r_sitters r_stepMany r_today r_taken r_isStill r_thrown r_letterMany r_at0 r_isBad r_statements r_stepsMany r_hasImage r_place0 r_isTaking r_keptIn r_turned r_rowMany r_seed r_warms r_shutAt r_kinds0 r_figures r_airAt r_ways r_crowned r_sitsAt r_shawls r_isOn r_stepOf r_stepBy r_refusals r_letters r_placeIn r_letterOf r_numbers r_stepsRead r_stepsBy r_kept r_keptWarms r_i_imaged r_imagedWarms r_turns0 r_turnWarms0 r_turnOf r_turnWarms r_row0 r_gains r_pegSort r_pegMany r_pegHolds r_coats r_coatsMoved) (w_X7 y a r_airs r_sitters r_stepMany r_today r_taken r_isStill r_thrown r_letterMany r_at0 r_isBad r_statements r_stepsMany r_hasImage r_place0 r_isTaking r_keptIn r_turned r_rowMany r_seed r_warms r_shutAt r_kinds0 r_figures r_airAt r_ways r_crowned r_sitsAt r_shawls r_isOn r_stepOf r_stepBy r_refusals r_letters r_placeIn r_letterOf r_numbers r_stepsRead r_stepsBy r_kept r_keptWarms r_i_imaged r_imagedWarms r_turns0 r_turnWarms0 r_turnOf r_turnWarms r_row0 r_gains r_pegSort r_pegMany r_pegHolds r_coats r_coatsMoved)) [.ref (a 0), .int n0].toArray s 0 0 A) (F0 m 10 ls []) := by
    intro m10
    induction m10 with
    | zero => intro x2 x3 hf; exact absurd hf (by unfold f_X7_sitterOn_b10; exact fun h => by cases h)
    | succ m10 I10 =>
      intro x2 x3 hf H locs hP hD hS ls hl
      unfold f_X7_sitterOn_b10 at hf
      refine lv_iload_n hx hb dX7_sitterOn_10 rfl (lv_at hl 3 rfl) ?_
      refine lv_if_lt (tgt := 46) hx hb dX7_sitterOn_11 (by decide) (fun c4 => ?_) (fun c4 => ?_)
      · have hf := dq_t hf c4
        clear c4
        refine lv_iload_n hx hb dX7_sitterOn_46 rfl (lv_at hl 2 rfl) ?_
        obtain rfl := dq_r1 hf
        exact ct_iret hx hb hr hlocks hAe hP hK hD hS dX7_sitterOn_47
      · have hf := dq_f hf c4
        clear c4
        refine lv_aload_n hx hb dX7_sitterOn_14 rfl (lv_at hl 0 rfl) ?_
        refine va_get (D := D) (ci := 6) (v := .ref (a 8)) (C := RX7) (T := TX7) (N := 53) hx hb hts iwX7 hown hK hP 0 rfl rfl 9 (by decide) (hts _ wl_88) (fun _ h9 => h9) rfl dX7_sitterOn_15 ?_
        refine lv_iload_n hx hb dX7_sitterOn_18 rfl (lv_at hl 3 rfl) ?_
        obtain ⟨h5, hf⟩ := dq_g hf
        refine va_iald (cA := y 1) (n := 6) (f := r_sitsAt) hx hb hK hP 8 1 rfl rfl h5 dX7_sitterOn_19 ?_
        refine lv_iload_n hx hb dX7_sitterOn_20 rfl (lv_at hl 1 rfl) ?_
        refine lv_icmp_ne (tgt := 38) hx hb dX7_sitterOn_21 (by decide) (fun c6 => ?_) (fun c6 => ?_)
        · have hf := dq_f hf c6
          clear c6
          refine lv_iload_n hx hb dX7_sitterOn_38 rfl (lv_at hl 2 rfl) ?_
          refine lv_istore_n (lv' := [(2, .int x2), (0, .ref (a 0)), (1, .int n0), (3, .int x3)]) hx hb dX7_sitterOn_39 rfl hl (by decide) rfl (fun ls hl => ?_)
          obtain ⟨x7, ex7⟩ : ∃ z : Int32, z = (x3 + (-1 : Int32)) := ⟨_, rfl⟩
          have hf := dq_l hf x7 ex7
          refine lv_iinc (v := x7) (lv' := [(3, .int x7), (2, .int x2), (0, .ref (a 0)), (1, .int n0)]) hx hb dX7_sitterOn_40 hl (k := 3) rfl (by rw [ex7]; rfl) (by decide) rfl (fun ls hl => ?_)
          clear ex7
          refine lv_goto (tgt := 10) hx hb dX7_sitterOn_43 (by decide) ?_
          exact I10 _ _ hf _ _ hP hD hS _ (lv_sub hl [2, 3, 1, 0] rfl)
        · have hf := dq_t hf c6
          clear c6
          refine lv_aload_n hx hb dX7_sitterOn_24 rfl (lv_at hl 0 rfl) ?_
          refine va_get (D := D) (ci := 6) (v := .ref (a 10)) (C := RX7) (T := TX7) (N := 53) hx hb hts iwX7 hown hK hP 0 rfl rfl 11 (by decide) (hts _ wl_90) (fun _ h9 => h9) rfl dX7_sitterOn_25 ?_
          refine lv_iload_n hx hb dX7_sitterOn_28 rfl (lv_at hl 3 rfl) ?_
          obtain ⟨h8, hf⟩ := dq_g hf
          refine va_iald (cA := y 1) (n := 6) (f := r_isOn) hx hb hK hP 10 1 rfl rfl h8 dX7_sitterOn_29 ?_
          refine lv_iconst (v := 1) hx hb dX7_sitterOn_30 (by decide) ?_
          refine lv_icmp_ne (tgt := 38) hx hb dX7_sitterOn_31 (by decide) (fun c9 => ?_) (fun c9 => ?_)
          · have hf := dq_f hf c9
            clear c9
            refine lv_iload_n hx hb dX7_sitterOn_38 rfl (lv_at hl 2 rfl) ?_
            refine lv_istore_n (lv' := [(2, .int x2), (0, .ref (a 0)), (1, .int n0), (3, .int x3)]) hx hb dX7_sitterOn_39 rfl hl (by decide) rfl (fun ls hl => ?_)
            obtain ⟨x10, ex10⟩ : ∃ z : Int32, z = (x3 + (-1 : Int32)) := ⟨_, rfl⟩
            have hf := dq_l hf x10 ex10
            refine lv_iinc (v := x10) (lv' := [(3, .int x10), (2, .int x2), (0, .ref (a 0)), (1, .int n0)]) hx hb dX7_sitterOn_40 hl (k := 3) rfl (by rw [ex10]; rfl) (by decide) rfl (fun ls hl => ?_)
            clear ex10
            refine lv_goto (tgt := 10) hx hb dX7_sitterOn_43 (by decide) ?_
            exact I10 _ _ hf _ _ hP hD hS _ (lv_sub hl [2, 3, 1, 0] rfl)
          · have hf := dq_t hf c9
            clear c9
            refine lv_iload_n hx hb dX7_sitterOn_34 rfl (lv_at hl 3 rfl) ?_
            refine lv_goto (tgt := 39) hx hb dX7_sitterOn_35 (by decide) ?_
            refine lv_istore_n (lv' := [(2, .int x3), (0, .ref (a 0)), (1, .int n0), (3, .int x3)]) hx hb dX7_sitterOn_39 rfl hl (by decide) rfl (fun ls hl => ?_)
            obtain ⟨x11, ex11⟩ : ∃ z : Int32, z = (x3 + (-1 : Int32)) := ⟨_, rfl⟩
            have hf := dq_l hf x11 ex11
            refine lv_iinc (v := x11) (lv' := [(3, .int x11), (2, .int x3), (0, .ref (a 0)), (1, .int n0)]) hx hb dX7_sitterOn_40 hl (k := 3) rfl (by rw [ex11]; rfl) (by decide) rfl (fun ls hl => ?_)
            clear ex11
            refine lv_goto (tgt := 10) hx hb dX7_sitterOn_43 (by decide) ?_
            exact I10 _ _ hf _ _ hP hD hS _ (lv_sub hl [2, 3, 1, 0] rfl)
  exact J10 4096 _ _ hf _ _ hP hD hS _ (lv_sub hl [2, 3, 1, 0] rfl)
noncomputable def f_X7_isEmpty (r_airs : Int32) (r_sitters : Int32) (r_airAt : (Nat → Int32)) (r_sitsAt : (Nat → Int32)) (r_isOn : (Nat → Int32)) (n0 : Int32) : Option Int32 := dq_bd (f_X7_airOn r_airs r_airAt n0) (fun (x1 : Int32) => dq_if (0 ≤ x1) (some (0 : Int32)) (dq_bd (f_X7_sitterOn r_sitters r_sitsAt r_isOn n0) (fun (x4 : Int32) => dq_if (0 ≤ x4) (some (0 : Int32)) (some (1 : Int32)))))
def wA_X7_isEmpty : List Cond := .code yX7_isEmpty cX7_isEmpty 2 (some .boolean) :: wsL_law
-- DraughtsTakeModel.isEmpty(I)Z
set_option maxHeartbeats 4000000 in
set_option maxRecDepth 100000 in
theorem m_X7_isEmpty (l : Launch) (D : va_G) (y : Nat → ClassId) (a : (Nat → Nat)) (r_airs : Int32) (r_sitters : Int32) (r_stepMany : Int32) (r_today : Int32) (r_taken : Int32) (r_isStill : Int32) (r_thrown : Int32) (r_letterMany : Int32) (r_at0 : Int32) (r_isBad : Int32) (r_statements : Int32) (r_stepsMany : Int32) (r_hasImage : Int32) (r_place0 : Int32) (r_isTaking : Int32) (r_keptIn : Value) (r_turned : Int32) (r_rowMany : Int32) (r_seed : Int32) (r_warms : (Nat → UInt32)) (r_shutAt : (Nat → Int32)) (r_kinds0 : (Nat → Int32)) (r_figures : (Nat → Int32)) (r_airAt : (Nat → Int32)) (r_ways : (Nat → Int32)) (r_crowned : (Nat → Int32)) (r_sitsAt : (Nat → Int32)) (r_shawls : (Nat → Int32)) (r_isOn : (Nat → Int32)) (r_stepOf : (Nat → Int32)) (r_stepBy : (Nat → Int32)) (r_refusals : (Nat → Int32)) (r_letters : (Nat → Int32)) (r_placeIn : (Nat → Int32)) (r_letterOf : (Nat → Int32)) (r_numbers : (Nat → Int32)) (r_stepsRead : (Nat → Int32)) (r_stepsBy : (Nat → Int32)) (r_kept : (Nat → Int32)) (r_keptWarms : (Nat → UInt32)) (r_i_imaged : (Nat → Int32)) (r_imagedWarms : (Nat → UInt32)) (r_turns0 : (Nat → Int32)) (r_turnWarms0 : (Nat → UInt32)) (r_turnOf : (Nat → Int32)) (r_turnWarms : (Nat → UInt32)) (r_row0 : (Nat → Int32)) (r_gains : (Nat → Int32)) (r_pegSort : (Nat → Int32)) (r_pegMany : (Nat → Int32)) (r_pegHolds : (Nat → Int32)) (r_coats : (Nat → Int32)) (r_coatsMoved : (Nat → Int32)) (n0 : Int32) (z0 : Int32) (hf : f_X7_isEmpty r_airs r_sitters r_airAt r_sitsAt r_isOn n0 = some z0) : Ct l D y yX7_isEmpty wA_X7_isEmpty 1 23 [.ref (a 0), .int n0] (w_X7 y a r_airs r_sitters r_stepMany r_today r_taken r_isStill r_thrown r_letterMany r_at0 r_isBad r_statements r_stepsMany r_hasImage r_place0 r_isTaking r_keptIn r_turned r_rowMany r_seed r_warms r_shutAt r_kinds0 r_figures r_airAt r_ways r_crowned r_sitsAt r_shawls r_isOn r_stepOf r_stepBy r_refusals r_letters r_placeIn r_letterOf r_numbers r_stepsRead r_stepsBy r_kept r_keptWarms r_i_imaged r_imagedWarms r_turns0 r_turnWarms0 r_turnOf r_turnWarms r_row0 r_gains r_pegSort r_pegMany r_pegHolds r_coats r_coatsMoved) (w_X7 y a r_airs r_sitters r_stepMany r_today r_taken r_isStill r_thrown r_letterMany r_at0 r_isBad r_statements r_stepsMany r_hasImage r_place0 r_isTaking r_keptIn r_turned r_rowMany r_seed r_warms r_shutAt r_kinds0 r_figures r_airAt r_ways r_crowned r_sitsAt r_shawls r_isOn r_stepOf r_stepBy r_refusals r_letters r_placeIn r_letterOf r_numbers r_stepsRead r_stepsBy r_kept r_keptWarms r_i_imaged r_imagedWarms r_turns0 r_turnWarms0 r_turnOf r_turnWarms r_row0 r_gains r_pegSort r_pegMany r_pegHolds r_coats r_coatsMoved) (some (.int z0)) := by
  refine ct_head (cc := cX7_isEmpty) (n := 2) (ret := (some .boolean)) (by decide) rfl (Nat.le_of_ble_eq_true rfl) ?_
  intro p e s m below meth c A ls hx hb hr hml hown hlocks hts hA hAe hP hK hD hl
  have hS : va_S A s.heap s.heap [] := va_S.rf
  have hl : lv_has ls 2 [(0, .ref (a 0)), (1, .int n0)] := hl
  have hown : s.vm.findClass RX7 = some m.cls := hown
  have hts : ∀ w ∈ wsL_law, w.before [.ref (a 0), .int n0].toArray s = true := fun w h => hts w (List.mem_cons_of_mem _ h)
  unfold f_X7_isEmpty at hf
  refine lv_aload_n hx hb dX7_isEmpty_0 rfl (lv_at hl 0 rfl) ?_
  refine lv_iload_n hx hb dX7_isEmpty_1 rfl (lv_at hl 1 rfl) ?_
  obtain ⟨x1, hy2, hf⟩ := dq_b hf
  refine ct_callV0 (ci := 6) (q0 := 0) (own := RX7) (As := [.int n0]) (rest := []) (ws' := (w_X7 y a r_airs r_sitters r_stepMany r_today r_taken r_isStill r_thrown r_letterMany r_at0 r_isBad r_statements r_stepsMany r_hasImage r_place0 r_isTaking r_keptIn r_turned r_rowMany r_seed r_warms r_shutAt r_kinds0 r_figures r_airAt r_ways r_crowned r_sitsAt r_shawls r_isOn r_stepOf r_stepBy r_refusals r_letters r_placeIn r_letterOf r_numbers r_stepsRead r_stepsBy r_kept r_keptWarms r_i_imaged r_imagedWarms r_turns0 r_turnWarms0 r_turnOf r_turnWarms r_row0 r_gains r_pegSort r_pegMany r_pegHolds r_coats r_coatsMoved)) ⟨hx, hb, hml, hown, hts⟩ (m_X7_airOn l D y a r_airs r_sitters r_stepMany r_today r_taken r_isStill r_thrown r_letterMany r_at0 r_isBad r_statements r_stepsMany r_hasImage r_place0 r_isTaking r_keptIn r_turned r_rowMany r_seed r_warms r_shutAt r_kinds0 r_figures r_airAt r_ways r_crowned r_sitsAt r_shawls r_isOn r_stepOf r_stepBy r_refusals r_letters r_placeIn r_letterOf r_numbers r_stepsRead r_stepsBy r_kept r_keptWarms r_i_imaged r_imagedWarms r_turns0 r_turnWarms0 r_turnOf r_turnWarms r_row0 r_gains r_pegSort r_pegMany r_pegHolds r_coats r_coatsMoved n0 x1 hy2) (cwV 1 hts (gA_V wl_434 wl_435 wl_436 wl_5 wl_437) rfl rfl rfl (by decide +kernel) ⟨Nat.le_of_ble_eq_true rfl, Nat.le_of_ble_eq_true rfl⟩) rfl rfl rfl hl.1 rfl (Nat.le_of_ble_eq_true rfl) dX7_isEmpty_2 ⟨Nat.zero_le _, Nat.zero_le _⟩ hK hP hD hS hA (fun H locs hP hD hS => ?_)
  refine lv_if_ge (tgt := 20) hx hb dX7_isEmpty_5 (by decide) (fun c3 => ?_) (fun c3 => ?_)
  · have hf := dq_t hf c3
    clear c3
    refine lv_iconst (v := 0) hx hb dX7_isEmpty_20 (by decide) ?_
    obtain rfl := dq_r1 hf
    exact ct_zret hx hb hr rfl hlocks hAe hP hK hD hS dX7_isEmpty_21
  · have hf := dq_f hf c3
    clear c3
    refine lv_aload_n hx hb dX7_isEmpty_8 rfl (lv_at hl 0 rfl) ?_
    refine lv_iload_n hx hb dX7_isEmpty_9 rfl (lv_at hl 1 rfl) ?_
    obtain ⟨x4, hy5, hf⟩ := dq_b hf
    refine ct_callV0 (ci := 6) (q0 := 0) (own := RX7) (As := [.int n0]) (rest := []) (ws' := (w_X7 y a r_airs r_sitters r_stepMany r_today r_taken r_isStill r_thrown r_letterMany r_at0 r_isBad r_statements r_stepsMany r_hasImage r_place0 r_isTaking r_keptIn r_turned r_rowMany r_seed r_warms r_shutAt r_kinds0 r_figures r_airAt r_ways r_crowned r_sitsAt r_shawls r_isOn r_stepOf r_stepBy r_refusals r_letters r_placeIn r_letterOf r_numbers r_stepsRead r_stepsBy r_kept r_keptWarms r_i_imaged r_imagedWarms r_turns0 r_turnWarms0 r_turnOf r_turnWarms r_row0 r_gains r_pegSort r_pegMany r_pegHolds r_coats r_coatsMoved)) ⟨hx, hb, hml, hown, hts⟩ (m_X7_sitterOn l D y a r_airs r_sitters r_stepMany r_today r_taken r_isStill r_thrown r_letterMany r_at0 r_isBad r_statements r_stepsMany r_hasImage r_place0 r_isTaking r_keptIn r_turned r_rowMany r_seed r_warms r_shutAt r_kinds0 r_figures r_airAt r_ways r_crowned r_sitsAt r_shawls r_isOn r_stepOf r_stepBy r_refusals r_letters r_placeIn r_letterOf r_numbers r_stepsRead r_stepsBy r_kept r_keptWarms r_i_imaged r_imagedWarms r_turns0 r_turnWarms0 r_turnOf r_turnWarms r_row0 r_gains r_pegSort r_pegMany r_pegHolds r_coats r_coatsMoved n0 x4 hy5) (cwV 1 hts (gA_V wl_438 wl_439 wl_440 wl_5 wl_441) rfl rfl rfl (by decide +kernel) ⟨Nat.le_of_ble_eq_true rfl, Nat.le_of_ble_eq_true rfl⟩) rfl rfl rfl hl.1 rfl (Nat.le_of_ble_eq_true rfl) dX7_isEmpty_10 ⟨Nat.zero_le _, Nat.zero_le _⟩ hK hP hD hS hA (fun H locs hP hD hS => ?_)
    refine lv_if_ge (tgt := 20) hx hb dX7_isEmpty_13 (by decide) (fun c6 => ?_) (fun c6 => ?_)
    · have hf := dq_t hf c6
      clear c6
      refine lv_iconst (v := 0) hx hb dX7_isEmpty_20 (by decide) ?_
      obtain rfl := dq_r1 hf
      exact ct_zret hx hb hr rfl hlocks hAe hP hK hD hS dX7_isEmpty_21
    · have hf := dq_f hf c6
      clear c6
      refine lv_iconst (v := 1) hx hb dX7_isEmpty_16 (by decide) ?_
      refine lv_goto (tgt := 21) hx hb dX7_isEmpty_17 (by decide) ?_
      obtain rfl := dq_r1 hf
      exact ct_zret hx hb hr rfl hlocks hAe hP hK hD hS dX7_isEmpty_21
noncomputable def f_X7_isFree (r_airs : Int32) (r_sitters : Int32) (r_shutAt : (Nat → Int32)) (r_airAt : (Nat → Int32)) (r_sitsAt : (Nat → Int32)) (r_isOn : (Nat → Int32)) (n0 : Int32) : Option Int32 := dq_gd (vp_in n0 36) (dq_if ((r_shutAt n0.toNatClampNeg) = 0) (dq_bd (f_X7_isEmpty r_airs r_sitters r_airAt r_sitsAt r_isOn n0) (fun (x3 : Int32) => dq_if (x3 = 0) (some (0 : Int32)) (some (1 : Int32)))) (some (0 : Int32)))
def wA_X7_isFree : List Cond := .code yX7_isFree cX7_isFree 2 (some .boolean) :: wsL_law
-- DraughtsTakeModel.isFree(I)Z
set_option maxHeartbeats 4000000 in
set_option maxRecDepth 100000 in
theorem m_X7_isFree (l : Launch) (D : va_G) (y : Nat → ClassId) (a : (Nat → Nat)) (r_airs : Int32) (r_sitters : Int32) (r_stepMany : Int32) (r_today : Int32) (r_taken : Int32) (r_isStill : Int32) (r_thrown : Int32) (r_letterMany : Int32) (r_at0 : Int32) (r_isBad : Int32) (r_statements : Int32) (r_stepsMany : Int32) (r_hasImage : Int32) (r_place0 : Int32) (r_isTaking : Int32) (r_keptIn : Value) (r_turned : Int32) (r_rowMany : Int32) (r_seed : Int32) (r_warms : (Nat → UInt32)) (r_shutAt : (Nat → Int32)) (r_kinds0 : (Nat → Int32)) (r_figures : (Nat → Int32)) (r_airAt : (Nat → Int32)) (r_ways : (Nat → Int32)) (r_crowned : (Nat → Int32)) (r_sitsAt : (Nat → Int32)) (r_shawls : (Nat → Int32)) (r_isOn : (Nat → Int32)) (r_stepOf : (Nat → Int32)) (r_stepBy : (Nat → Int32)) (r_refusals : (Nat → Int32)) (r_letters : (Nat → Int32)) (r_placeIn : (Nat → Int32)) (r_letterOf : (Nat → Int32)) (r_numbers : (Nat → Int32)) (r_stepsRead : (Nat → Int32)) (r_stepsBy : (Nat → Int32)) (r_kept : (Nat → Int32)) (r_keptWarms : (Nat → UInt32)) (r_i_imaged : (Nat → Int32)) (r_imagedWarms : (Nat → UInt32)) (r_turns0 : (Nat → Int32)) (r_turnWarms0 : (Nat → UInt32)) (r_turnOf : (Nat → Int32)) (r_turnWarms : (Nat → UInt32)) (r_row0 : (Nat → Int32)) (r_gains : (Nat → Int32)) (r_pegSort : (Nat → Int32)) (r_pegMany : (Nat → Int32)) (r_pegHolds : (Nat → Int32)) (r_coats : (Nat → Int32)) (r_coatsMoved : (Nat → Int32)) (n0 : Int32) (z0 : Int32) (hf : f_X7_isFree r_airs r_sitters r_shutAt r_airAt r_sitsAt r_isOn n0 = some z0) : Ct l D y yX7_isFree wA_X7_isFree 2 44 [.ref (a 0), .int n0] (w_X7 y a r_airs r_sitters r_stepMany r_today r_taken r_isStill r_thrown r_letterMany r_at0 r_isBad r_statements r_stepsMany r_hasImage r_place0 r_isTaking r_keptIn r_turned r_rowMany r_seed r_warms r_shutAt r_kinds0 r_figures r_airAt r_ways r_crowned r_sitsAt r_shawls r_isOn r_stepOf r_stepBy r_refusals r_letters r_placeIn r_letterOf r_numbers r_stepsRead r_stepsBy r_kept r_keptWarms r_i_imaged r_imagedWarms r_turns0 r_turnWarms0 r_turnOf r_turnWarms r_row0 r_gains r_pegSort r_pegMany r_pegHolds r_coats r_coatsMoved) (w_X7 y a r_airs r_sitters r_stepMany r_today r_taken r_isStill r_thrown r_letterMany r_at0 r_isBad r_statements r_stepsMany r_hasImage r_place0 r_isTaking r_keptIn r_turned r_rowMany r_seed r_warms r_shutAt r_kinds0 r_figures r_airAt r_ways r_crowned r_sitsAt r_shawls r_isOn r_stepOf r_stepBy r_refusals r_letters r_placeIn r_letterOf r_numbers r_stepsRead r_stepsBy r_kept r_keptWarms r_i_imaged r_imagedWarms r_turns0 r_turnWarms0 r_turnOf r_turnWarms r_row0 r_gains r_pegSort r_pegMany r_pegHolds r_coats r_coatsMoved) (some (.int z0)) := by
  refine ct_head (cc := cX7_isFree) (n := 2) (ret := (some .boolean)) (by decide) rfl (Nat.le_of_ble_eq_true rfl) ?_
  intro p e s m below meth c A ls hx hb hr hml hown hlocks hts hA hAe hP hK hD hl
  have hS : va_S A s.heap s.heap [] := va_S.rf
  have hl : lv_has ls 2 [(0, .ref (a 0)), (1, .int n0)] := hl
  have hown : s.vm.findClass RX7 = some m.cls := hown
  have hts : ∀ w ∈ wsL_law, w.before [.ref (a 0), .int n0].toArray s = true := fun w h => hts w (List.mem_cons_of_mem _ h)
  unfold f_X7_isFree at hf
  refine lv_aload_n hx hb dX7_isFree_0 rfl (lv_at hl 0 rfl) ?_
  refine va_get (D := D) (ci := 6) (v := .ref (a 2)) (C := RX7) (T := TX7) (N := 53) hx hb hts iwX7 hown hK hP 0 rfl rfl 1 (by decide) (hts _ wl_82) (fun _ h9 => h9) rfl dX7_isFree_1 ?_
  refine lv_iload_n hx hb dX7_isFree_4 rfl (lv_at hl 1 rfl) ?_
  obtain ⟨h1, hf⟩ := dq_g hf
  refine va_iald (cA := y 1) (n := 36) (f := r_shutAt) hx hb hK hP 2 1 rfl rfl h1 dX7_isFree_5 ?_
  refine lv_if_ne (tgt := 21) hx hb dX7_isFree_6 (by decide) (fun c2 => ?_) (fun c2 => ?_)
  · have hf := dq_f hf c2
    clear c2
    refine lv_iconst (v := 0) hx hb dX7_isFree_21 (by decide) ?_
    obtain rfl := dq_r1 hf
    exact ct_zret hx hb hr rfl hlocks hAe hP hK hD hS dX7_isFree_22
  · have hf := dq_t hf c2
    clear c2
    refine lv_aload_n hx hb dX7_isFree_9 rfl (lv_at hl 0 rfl) ?_
    refine lv_iload_n hx hb dX7_isFree_10 rfl (lv_at hl 1 rfl) ?_
    obtain ⟨x3, hy4, hf⟩ := dq_b hf
    refine ct_callV0 (ci := 6) (q0 := 0) (own := RX7) (As := [.int n0]) (rest := []) (ws' := (w_X7 y a r_airs r_sitters r_stepMany r_today r_taken r_isStill r_thrown r_letterMany r_at0 r_isBad r_statements r_stepsMany r_hasImage r_place0 r_isTaking r_keptIn r_turned r_rowMany r_seed r_warms r_shutAt r_kinds0 r_figures r_airAt r_ways r_crowned r_sitsAt r_shawls r_isOn r_stepOf r_stepBy r_refusals r_letters r_placeIn r_letterOf r_numbers r_stepsRead r_stepsBy r_kept r_keptWarms r_i_imaged r_imagedWarms r_turns0 r_turnWarms0 r_turnOf r_turnWarms r_row0 r_gains r_pegSort r_pegMany r_pegHolds r_coats r_coatsMoved)) ⟨hx, hb, hml, hown, hts⟩ (m_X7_isEmpty l D y a r_airs r_sitters r_stepMany r_today r_taken r_isStill r_thrown r_letterMany r_at0 r_isBad r_statements r_stepsMany r_hasImage r_place0 r_isTaking r_keptIn r_turned r_rowMany r_seed r_warms r_shutAt r_kinds0 r_figures r_airAt r_ways r_crowned r_sitsAt r_shawls r_isOn r_stepOf r_stepBy r_refusals r_letters r_placeIn r_letterOf r_numbers r_stepsRead r_stepsBy r_kept r_keptWarms r_i_imaged r_imagedWarms r_turns0 r_turnWarms0 r_turnOf r_turnWarms r_row0 r_gains r_pegSort r_pegMany r_pegHolds r_coats r_coatsMoved n0 x3 hy4) (cwV 1 hts (gA_V wl_430 wl_431 wl_432 wl_5 wl_433) rfl rfl rfl (by decide +kernel) ⟨Nat.le_of_ble_eq_true rfl, Nat.le_of_ble_eq_true rfl⟩) rfl rfl rfl hl.1 rfl (Nat.le_of_ble_eq_true rfl) dX7_isFree_11 ⟨Nat.zero_le _, Nat.zero_le _⟩ hK hP hD hS hA (fun H locs hP hD hS => ?_)
    refine lv_if_eq (tgt := 21) hx hb dX7_isFree_14 (by decide) (fun c5 => ?_) (fun c5 => ?_)
    · have hf := dq_t hf c5
      clear c5
      refine lv_iconst (v := 0) hx hb dX7_isFree_21 (by decide) ?_
      obtain rfl := dq_r1 hf
      exact ct_zret hx hb hr rfl hlocks hAe hP hK hD hS dX7_isFree_22
    · have hf := dq_f hf c5
      clear c5
      refine lv_iconst (v := 1) hx hb dX7_isFree_17 (by decide) ?_
      refine lv_goto (tgt := 22) hx hb dX7_isFree_18 (by decide) ?_
      obtain rfl := dq_r1 hf
      exact ct_zret hx hb hr rfl hlocks hAe hP hK hD hS dX7_isFree_22
noncomputable def f_X7_awayOf_b37 (x3 : Int32)  (x4 : Int32) (x5 : Int32) : Option Int32 := dq_let (x4 + x5) (fun (x6 : Int32) => dq_bd (f_X7_in x3.toInt64 (0 : Int64) (5 : Int64)) (fun (x7 : Int32) => dq_if (x7 = 0) (some (-1 : Int32)) (dq_bd (f_X7_in x6.toInt64 (0 : Int64) (5 : Int64)) (fun (x10 : Int32) => dq_if (x10 = 0) (some (-1 : Int32)) (some (((6 : Int32) * x3) + x6))))))
noncomputable def f_X7_awayOf_b20 (n0 : Int32) (n1 : Int32) (n2 : Int32)  (x1 : Int32) (x2 : Int32) : Option Int32 := dq_let (x1 + x2) (fun (x3 : Int32) => dq_if ((2 : Int32) ≤ n1) (f_X7_awayOf_b37 x3 (n0 - n0 / (6 : Int32) * (6 : Int32)) (-n2)) (f_X7_awayOf_b37 x3 (n0 - n0 / (6 : Int32) * (6 : Int32)) n2))
noncomputable def f_X7_awayOf (n0 : Int32) (n1 : Int32) (n2 : Int32) : Option Int32 := dq_if (n1 = (1 : Int32)) (f_X7_awayOf_b20 n0 n1 n2 (n0 / (6 : Int32)) n2) (dq_if (n1 = (2 : Int32)) (f_X7_awayOf_b20 n0 n1 n2 (n0 / (6 : Int32)) n2) (f_X7_awayOf_b20 n0 n1 n2 (n0 / (6 : Int32)) (-n2)))
def wA_X7_awayOf : List Cond := .code yX7_awayOf cX7_awayOf 5 (some .int) :: wsL_law
-- DraughtsTakeModel.awayOf(III)I
set_option maxHeartbeats 4000000 in
set_option maxRecDepth 100000 in
theorem m_X7_awayOf (l : Launch) (D : va_G) (y : Nat → ClassId) (n0 : Int32) (n1 : Int32) (n2 : Int32) (z0 : Int32) (hf : f_X7_awayOf n0 n1 n2 = some z0) : Ct l D y yX7_awayOf wA_X7_awayOf 1 25 [.int n0, .int n1, .int n2] [] [] (some (.int z0)) := by
  refine ct_head (cc := cX7_awayOf) (n := 5) (ret := (some .int)) (by decide) rfl (Nat.le_of_ble_eq_true rfl) ?_
  intro p e s m below meth c A ls hx hb hr hml hown hlocks hts hA hAe hP hK hD hl
  have hS : va_S A s.heap s.heap [] := va_S.rf
  have hl : lv_has ls 5 [(0, .int n0), (1, .int n1), (2, .int n2)] := hl
  have hown : s.vm.findClass RX7 = some m.cls := hown
  have hts : ∀ w ∈ wsL_law, w.before [.int n0, .int n1, .int n2].toArray s = true := fun w h => hts w (List.mem_cons_of_mem _ h)
  unfold f_X7_awayOf at hf
  refine lv_iload_n hx hb dX7_awayOf_0 rfl (lv_at hl 0 rfl) ?_
  refine lv_bipush (v := 6) hx hb dX7_awayOf_1 (by decide) ?_
  refine lv_idiv hx hb dX7_awayOf_3 (by decide) ?_
  refine lv_iload_n hx hb dX7_awayOf_4 rfl (lv_at hl 1 rfl) ?_
  refine lv_iconst (v := 1) hx hb dX7_awayOf_5 (by decide) ?_
  have J20 : ∀ (x1 : Int32) (x2 : Int32), f_X7_awayOf_b20 n0 n1 n2 x1 x2 = some z0 → ∀ (H : Heap) (locs : List Loc), va_P D vwCl [] H → va_D A [] → va_S A s.heap H locs → ∀ ls : Array Slot, lv_has ls 5 [(0, .int n0), (1, .int n1), (2, .int n2)] → W p l e ({ frames := 1, cells := 0, slots := 0, locals := 25 } : Room) s m [.int n0, .int n1, .int n2].toArray below meth c H locs 0 0 (MQ below (dQ D y (some (.int z0)) s.heap.size [] []) [.int n0, .int n1, .int n2].toArray s 0 0 A) (F0 m 20 ls [.int x2, .int x1]) := by
    intro x1 x2 hf H locs hP hD hS ls hl
    unfold f_X7_awayOf_b20 at hf
    refine lv_iadd hx hb dX7_awayOf_20 ?_
    refine lv_topi (fun x3 ex3 => ?_)
    have hf := dq_l hf x3 ex3
    clear ex3
    refine lv_istore_n (lv' := [(3, .int x3), (0, .int n0), (1, .int n1), (2, .int n2)]) hx hb dX7_awayOf_21 rfl hl (by decide) rfl (fun ls hl => ?_)
    refine lv_iload_n hx hb dX7_awayOf_22 rfl (lv_at hl 1 rfl) ?_
    refine lv_bipush (v := 6) hx hb dX7_awayOf_23 (by decide) ?_
    refine lv_irem hx hb dX7_awayOf_25 (by decide) ?_
    refine lv_iload_n hx hb dX7_awayOf_26 rfl (lv_at hl 2 rfl) ?_
    refine lv_iconst (v := 2) hx hb dX7_awayOf_27 (by decide) ?_
    have J37 : ∀ (x4 : Int32) (x5 : Int32), f_X7_awayOf_b37 x3 x4 x5 = some z0 → ∀ (H : Heap) (locs : List Loc), va_P D vwCl [] H → va_D A [] → va_S A s.heap H locs → ∀ ls : Array Slot, lv_has ls 5 [(3, .int x3)] → W p l e ({ frames := 1, cells := 0, slots := 0, locals := 25 } : Room) s m [.int n0, .int n1, .int n2].toArray below meth c H locs 0 0 (MQ below (dQ D y (some (.int z0)) s.heap.size [] []) [.int n0, .int n1, .int n2].toArray s 0 0 A) (F0 m 37 ls [.int x5, .int x4]) := by
      intro x4 x5 hf H locs hP hD hS ls hl
      unfold f_X7_awayOf_b37 at hf
      refine lv_iadd hx hb dX7_awayOf_37 ?_
      refine lv_topi (fun x6 ex6 => ?_)
      have hf := dq_l hf x6 ex6
      clear ex6
      refine lv_istore (lv' := [(4, .int x6), (3, .int x3)]) hx hb dX7_awayOf_38 hl (by decide) rfl (fun ls hl => ?_)
      refine lv_iload_n hx hb dX7_awayOf_40 rfl (lv_at hl 1 rfl) ?_
      refine lv_i2l hx hb dX7_awayOf_41 rfl ?_
      refine lv_lconst (v := 0) hx hb dX7_awayOf_42 (by decide) ?_
      refine lv_ldc2 hx hb hown (hts _ wl_503) dX7_awayOf_43 ?_
      obtain ⟨x7, hy8, hf⟩ := dq_b hf
      refine ct_callS0 (own := RX7) (As := [.long x3.toInt64, .long (0 : Int64), .long (5 : Int64)]) (rest := []) ⟨hx, hb, hml, hown, hts⟩ (m_X7_in l D y x3.toInt64 (0 : Int64) (5 : Int64) x7 hy8) (va_cwS 3 hts (gA_S wl_391 wl_392 wl_5 wl_393) rfl rfl rfl (by decide +kernel) ⟨Nat.le_of_ble_eq_true rfl, Nat.le_of_ble_eq_true rfl⟩) rfl hl.1 rfl (Nat.le_of_ble_eq_true rfl) dX7_awayOf_46 ⟨Nat.zero_le _, Nat.zero_le _⟩ hK hP hD hS hA (fun H locs hP hD hS => ?_)
      refine lv_if_eq (tgt := 75) hx hb dX7_awayOf_49 (by decide) (fun c9 => ?_) (fun c9 => ?_)
      · have hf := dq_t hf c9
        clear c9
        refine lv_iconst (v := -1) hx hb dX7_awayOf_75 (by decide) ?_
        obtain rfl := dq_r1 hf
        exact ct_iret hx hb hr hlocks hAe hP hK hD hS dX7_awayOf_76
      · have hf := dq_f hf c9
        clear c9
        refine lv_iload hx hb dX7_awayOf_52 (lv_at hl 0 rfl) ?_
        refine lv_i2l hx hb dX7_awayOf_54 rfl ?_
        refine lv_lconst (v := 0) hx hb dX7_awayOf_55 (by decide) ?_
        refine lv_ldc2 hx hb hown (hts _ wl_503) dX7_awayOf_56 ?_
        obtain ⟨x10, hy11, hf⟩ := dq_b hf
        refine ct_callS0 (own := RX7) (As := [.long x6.toInt64, .long (0 : Int64), .long (5 : Int64)]) (rest := []) ⟨hx, hb, hml, hown, hts⟩ (m_X7_in l D y x6.toInt64 (0 : Int64) (5 : Int64) x10 hy11) (va_cwS 3 hts (gA_S wl_391 wl_392 wl_5 wl_393) rfl rfl rfl (by decide +kernel) ⟨Nat.le_of_ble_eq_true rfl, Nat.le_of_ble_eq_true rfl⟩) rfl hl.1 rfl (Nat.le_of_ble_eq_true rfl) dX7_awayOf_59 ⟨Nat.zero_le _, Nat.zero_le _⟩ hK hP hD hS hA (fun H locs hP hD hS => ?_)
        refine lv_if_eq (tgt := 75) hx hb dX7_awayOf_62 (by decide) (fun c12 => ?_) (fun c12 => ?_)
        · have hf := dq_t hf c12
          clear c12
          refine lv_iconst (v := -1) hx hb dX7_awayOf_75 (by decide) ?_
          obtain rfl := dq_r1 hf
          exact ct_iret hx hb hr hlocks hAe hP hK hD hS dX7_awayOf_76
        · have hf := dq_f hf c12
          clear c12
          refine lv_bipush (v := 6) hx hb dX7_awayOf_65 (by decide) ?_
          refine lv_iload_n hx hb dX7_awayOf_67 rfl (lv_at hl 1 rfl) ?_
          refine lv_imul hx hb dX7_awayOf_68 ?_
          refine lv_iload hx hb dX7_awayOf_69 (lv_at hl 0 rfl) ?_
          refine lv_iadd hx hb dX7_awayOf_71 ?_
          refine lv_goto (tgt := 76) hx hb dX7_awayOf_72 (by decide) ?_
          obtain rfl := dq_r1 hf
          exact ct_iret hx hb hr hlocks hAe hP hK hD hS dX7_awayOf_76
    refine lv_icmp_ge (tgt := 35) hx hb dX7_awayOf_28 (by decide) (fun c13 => ?_) (fun c13 => ?_)
    · have hf := dq_t hf c13
      clear c13
      refine lv_iload_n hx hb dX7_awayOf_35 rfl (lv_at hl 3 rfl) ?_
      refine lv_ineg hx hb dX7_awayOf_36 ?_
      exact J37 _ _ hf _ _ hP hD hS _ (lv_sub hl [0] rfl)
    · have hf := dq_f hf c13
      clear c13
      refine lv_iload_n hx hb dX7_awayOf_31 rfl (lv_at hl 3 rfl) ?_
      refine lv_goto (tgt := 37) hx hb dX7_awayOf_32 (by decide) ?_
      exact J37 _ _ hf _ _ hP hD hS _ (lv_sub hl [0] rfl)
  refine lv_icmp_eq (tgt := 14) hx hb dX7_awayOf_6 (by decide) (fun c14 => ?_) (fun c14 => ?_)
  · have hf := dq_t hf c14
    clear c14
    refine lv_iload_n hx hb dX7_awayOf_14 rfl (lv_at hl 2 rfl) ?_
    refine lv_goto (tgt := 20) hx hb dX7_awayOf_15 (by decide) ?_
    exact J20 _ _ hf _ _ hP hD hS _ (lv_sub hl [0, 1, 2] rfl)
  · have hf := dq_f hf c14
    clear c14
    refine lv_iload_n hx hb dX7_awayOf_9 rfl (lv_at hl 1 rfl) ?_
    refine lv_iconst (v := 2) hx hb dX7_awayOf_10 (by decide) ?_
    refine lv_icmp_ne (tgt := 18) hx hb dX7_awayOf_11 (by decide) (fun c15 => ?_) (fun c15 => ?_)
    · have hf := dq_f hf c15
      clear c15
      refine lv_iload_n hx hb dX7_awayOf_18 rfl (lv_at hl 2 rfl) ?_
      refine lv_ineg hx hb dX7_awayOf_19 ?_
      exact J20 _ _ hf _ _ hP hD hS _ (lv_sub hl [0, 1, 2] rfl)
    · have hf := dq_t hf c15
      clear c15
      refine lv_iload_n hx hb dX7_awayOf_14 rfl (lv_at hl 2 rfl) ?_
      refine lv_goto (tgt := 20) hx hb dX7_awayOf_15 (by decide) ?_
      exact J20 _ _ hf _ _ hP hD hS _ (lv_sub hl [0, 1, 2] rfl)
noncomputable def f_X7_onBits_b4 (r_sitters : Int32) (r_isOn : (Nat → Int32))  : Nat → Int32 → Int32 → Option Int32
  | 0, _, _ => none
  | m4 + 1, x1, x2 => dq_if (r_sitters ≤ x2) (some x1) (dq_gd (vp_in x2 6) (dq_let (x1 ||| ((r_isOn x2.toNatClampNeg) <<< (x2 &&& 31))) (fun (x5 : Int32) => dq_let (x2 + (1 : Int32)) (fun (x6 : Int32) => (f_X7_onBits_b4 r_sitters r_isOn m4) x5 x6))))
noncomputable def f_X7_onBits (r_sitters : Int32) (r_isOn : (Nat → Int32)) : Option Int32 := f_X7_onBits_b4 r_sitters r_isOn 4096 (0 : Int32) (0 : Int32)
def wA_X7_onBits : List Cond := .code yX7_onBits cX7_onBits 3 (some .int) :: wsL_law
-- DraughtsTakeModel.onBits()I
set_option maxHeartbeats 4000000 in
set_option maxRecDepth 100000 in
theorem m_X7_onBits (l : Launch) (D : va_G) (y : Nat → ClassId) (a : (Nat → Nat)) (r_airs : Int32) (r_sitters : Int32) (r_stepMany : Int32) (r_today : Int32) (r_taken : Int32) (r_isStill : Int32) (r_thrown : Int32) (r_letterMany : Int32) (r_at0 : Int32) (r_isBad : Int32) (r_statements : Int32) (r_stepsMany : Int32) (r_hasImage : Int32) (r_place0 : Int32) (r_isTaking : Int32) (r_keptIn : Value) (r_turned : Int32) (r_rowMany : Int32) (r_seed : Int32) (r_warms : (Nat → UInt32)) (r_shutAt : (Nat → Int32)) (r_kinds0 : (Nat → Int32)) (r_figures : (Nat → Int32)) (r_airAt : (Nat → Int32)) (r_ways : (Nat → Int32)) (r_crowned : (Nat → Int32)) (r_sitsAt : (Nat → Int32)) (r_shawls : (Nat → Int32)) (r_isOn : (Nat → Int32)) (r_stepOf : (Nat → Int32)) (r_stepBy : (Nat → Int32)) (r_refusals : (Nat → Int32)) (r_letters : (Nat → Int32)) (r_placeIn : (Nat → Int32)) (r_letterOf : (Nat → Int32)) (r_numbers : (Nat → Int32)) (r_stepsRead : (Nat → Int32)) (r_stepsBy : (Nat → Int32)) (r_kept : (Nat → Int32)) (r_keptWarms : (Nat → UInt32)) (r_i_imaged : (Nat → Int32)) (r_imagedWarms : (Nat → UInt32)) (r_turns0 : (Nat → Int32)) (r_turnWarms0 : (Nat → UInt32)) (r_turnOf : (Nat → Int32)) (r_turnWarms : (Nat → UInt32)) (r_row0 : (Nat → Int32)) (r_gains : (Nat → Int32)) (r_pegSort : (Nat → Int32)) (r_pegMany : (Nat → Int32)) (r_pegHolds : (Nat → Int32)) (r_coats : (Nat → Int32)) (r_coatsMoved : (Nat → Int32)) (z0 : Int32) (hf : f_X7_onBits r_sitters r_isOn = some z0) : Ct l D y yX7_onBits wA_X7_onBits 0 0 [.ref (a 0)] (w_X7 y a r_airs r_sitters r_stepMany r_today r_taken r_isStill r_thrown r_letterMany r_at0 r_isBad r_statements r_stepsMany r_hasImage r_place0 r_isTaking r_keptIn r_turned r_rowMany r_seed r_warms r_shutAt r_kinds0 r_figures r_airAt r_ways r_crowned r_sitsAt r_shawls r_isOn r_stepOf r_stepBy r_refusals r_letters r_placeIn r_letterOf r_numbers r_stepsRead r_stepsBy r_kept r_keptWarms r_i_imaged r_imagedWarms r_turns0 r_turnWarms0 r_turnOf r_turnWarms r_row0 r_gains r_pegSort r_pegMany r_pegHolds r_coats r_coatsMoved) (w_X7 y a r_airs r_sitters r_stepMany r_today r_taken r_isStill r_thrown r_letterMany r_at0 r_isBad r_statements r_stepsMany r_hasImage r_place0 r_isTaking r_keptIn r_turned r_rowMany r_seed r_warms r_shutAt r_kinds0 r_figures r_airAt r_ways r_crowned r_sitsAt r_shawls r_isOn r_stepOf r_stepBy r_refusals r_letters r_placeIn r_letterOf r_numbers r_stepsRead r_stepsBy r_kept r_keptWarms r_i_imaged r_imagedWarms r_turns0 r_turnWarms0 r_turnOf r_turnWarms r_row0 r_gains r_pegSort r_pegMany r_pegHolds r_coats r_coatsMoved) (some (.int z0)) := by
  refine ct_head (cc := cX7_onBits) (n := 3) (ret := (some .int)) (by decide) rfl (Nat.le_of_ble_eq_true rfl) ?_
  intro p e s m below meth c A ls hx hb hr hml hown hlocks hts hA hAe hP hK hD hl
  have hS : va_S A s.heap s.heap [] := va_S.rf
  have hl : lv_has ls 3 [(0, .ref (a 0))] := hl
  have hown : s.vm.findClass RX7 = some m.cls := hown
  have hts : ∀ w ∈ wsL_law, w.before [.ref (a 0)].toArray s = true := fun w h => hts w (List.mem_cons_of_mem _ h)
  unfold f_X7_onBits at hf
  refine lv_iconst (v := 0) hx hb dX7_onBits_0 (by decide) ?_
  refine lv_istore_n (lv' := [(1, .int (0 : Int32)), (0, .ref (a 0))]) hx hb dX7_onBits_1 rfl hl (by decide) rfl (fun ls hl => ?_)
  refine lv_iconst (v := 0) hx hb dX7_onBits_2 (by decide) ?_
  refine lv_istore_n (lv' := [(2, .int (0 : Int32)), (1, .int (0 : Int32)), (0, .ref (a 0))]) hx hb dX7_onBits_3 rfl hl (by decide) rfl (fun ls hl => ?_)
  have J4 : ∀ (m4 : Nat) (x1 : Int32) (x2 : Int32), f_X7_onBits_b4 r_sitters r_isOn m4 x1 x2 = some z0 → ∀ (H : Heap) (locs : List Loc), va_P D vwCl (w_X7 y a r_airs r_sitters r_stepMany r_today r_taken r_isStill r_thrown r_letterMany r_at0 r_isBad r_statements r_stepsMany r_hasImage r_place0 r_isTaking r_keptIn r_turned r_rowMany r_seed r_warms r_shutAt r_kinds0 r_figures r_airAt r_ways r_crowned r_sitsAt r_shawls r_isOn r_stepOf r_stepBy r_refusals r_letters r_placeIn r_letterOf r_numbers r_stepsRead r_stepsBy r_kept r_keptWarms r_i_imaged r_imagedWarms r_turns0 r_turnWarms0 r_turnOf r_turnWarms r_row0 r_gains r_pegSort r_pegMany r_pegHolds r_coats r_coatsMoved) H → va_D A (w_X7 y a r_airs r_sitters r_stepMany r_today r_taken r_isStill r_thrown r_letterMany r_at0 r_isBad r_statements r_stepsMany r_hasImage r_place0 r_isTaking r_keptIn r_turned r_rowMany r_seed r_warms r_shutAt r_kinds0 r_figures r_airAt r_ways r_crowned r_sitsAt r_shawls r_isOn r_stepOf r_stepBy r_refusals r_letters r_placeIn r_letterOf r_numbers r_stepsRead r_stepsBy r_kept r_keptWarms r_i_imaged r_imagedWarms r_turns0 r_turnWarms0 r_turnOf r_turnWarms r_row0 r_gains r_pegSort r_pegMany r_pegHolds r_coats r_coatsMoved) → va_S A s.heap H locs → ∀ ls : Array Slot, lv_has ls 3 [(0, .ref (a 0)), (1, .int x1), (2, .int x2)] → W p l e ({ frames := 0, cells := 0, slots := 0, locals := 0 } : Room) s m [.ref (a 0)].toArray below meth c H locs 0 0 (MQ below (dQ D y (some (.int z0)) s.heap.size (w_X7 y a r_airs r_sitters r_stepMany r_today r_taken r_isStill r_thrown r_letterMany r_at0 r_isBad r_statements r_stepsMany r_hasImage r_place0 r_isTaking r_keptIn r_turned r_rowMany r_seed r_warms r_shutAt r_kinds0 r_figures r_airAt r_ways r_crowned r_sitsAt r_shawls r_isOn r_stepOf r_stepBy r_refusals r_letters r_placeIn r_letterOf r_numbers r_stepsRead r_stepsBy r_kept r_keptWarms r_i_imaged r_imagedWarms r_turns0 r_turnWarms0 r_turnOf r_turnWarms r_row0 r_gains r_pegSort r_pegMany r_pegHolds r_coats r_coatsMoved) (w_X7 y a r_airs r_sitters r_stepMany r_today r_taken r_isStill r_thrown r_letterMany r_at0 r_isBad r_statements r_stepsMany r_hasImage r_place0 r_isTaking r_keptIn r_turned r_rowMany r_seed r_warms r_shutAt r_kinds0 r_figures r_airAt r_ways r_crowned r_sitsAt r_shawls r_isOn r_stepOf r_stepBy r_refusals r_letters r_placeIn r_letterOf r_numbers r_stepsRead r_stepsBy r_kept r_keptWarms r_i_imaged r_imagedWarms r_turns0 r_turnWarms0 r_turnOf r_turnWarms r_row0 r_gains r_pegSort r_pegMany r_pegHolds r_coats r_coatsMoved)) [.ref (a 0)].toArray s 0 0 A) (F0 m 4 ls []) := by
    intro m4
    induction m4 with
    | zero => intro x1 x2 hf; exact absurd hf (by unfold f_X7_onBits_b4; exact fun h => by cases h)
    | succ m4 I4 =>
      intro x1 x2 hf H locs hP hD hS ls hl
      unfold f_X7_onBits_b4 at hf
      refine lv_iload_n hx hb dX7_onBits_4 rfl (lv_at hl 2 rfl) ?_
      refine lv_aload_n hx hb dX7_onBits_5 rfl (lv_at hl 0 rfl) ?_
      refine va_get (D := D) (ci := 6) (v := .int r_sitters) (C := RX7) (T := TX7) (N := 53) hx hb hts iwX7 hown hK hP 0 rfl rfl 8 (by decide) (hts _ wl_406) (fun _ h9 => h9) rfl dX7_onBits_6 ?_
      refine lv_icmp_ge (tgt := 29) hx hb dX7_onBits_9 (by decide) (fun c3 => ?_) (fun c3 => ?_)
      · have hf := dq_t hf c3
        clear c3
        refine lv_iload_n hx hb dX7_onBits_29 rfl (lv_at hl 1 rfl) ?_
        obtain rfl := dq_r1 hf
        exact ct_iret hx hb hr hlocks hAe hP hK hD hS dX7_onBits_30
      · have hf := dq_f hf c3
        clear c3
        refine lv_iload_n hx hb dX7_onBits_12 rfl (lv_at hl 1 rfl) ?_
        refine lv_aload_n hx hb dX7_onBits_13 rfl (lv_at hl 0 rfl) ?_
        refine va_get (D := D) (ci := 6) (v := .ref (a 10)) (C := RX7) (T := TX7) (N := 53) hx hb hts iwX7 hown hK hP 0 rfl rfl 11 (by decide) (hts _ wl_90) (fun _ h9 => h9) rfl dX7_onBits_14 ?_
        refine lv_iload_n hx hb dX7_onBits_17 rfl (lv_at hl 2 rfl) ?_
        obtain ⟨h4, hf⟩ := dq_g hf
        refine va_iald (cA := y 1) (n := 6) (f := r_isOn) hx hb hK hP 10 1 rfl rfl h4 dX7_onBits_18 ?_
        refine lv_iload_n hx hb dX7_onBits_19 rfl (lv_at hl 2 rfl) ?_
        refine lv_ishl hx hb dX7_onBits_20 ?_
        refine lv_ior hx hb dX7_onBits_21 ?_
        refine lv_topi (fun x5 ex5 => ?_)
        have hf := dq_l hf x5 ex5
        clear ex5
        refine lv_istore_n (lv' := [(1, .int x5), (0, .ref (a 0)), (2, .int x2)]) hx hb dX7_onBits_22 rfl hl (by decide) rfl (fun ls hl => ?_)
        obtain ⟨x6, ex6⟩ : ∃ z : Int32, z = (x2 + (1 : Int32)) := ⟨_, rfl⟩
        have hf := dq_l hf x6 ex6
        refine lv_iinc (v := x6) (lv' := [(2, .int x6), (1, .int x5), (0, .ref (a 0))]) hx hb dX7_onBits_23 hl (k := 2) rfl (by rw [ex6]; rfl) (by decide) rfl (fun ls hl => ?_)
        clear ex6
        refine lv_goto (tgt := 4) hx hb dX7_onBits_26 (by decide) ?_
        exact I4 _ _ hf _ _ hP hD hS _ (lv_sub hl [2, 1, 0] rfl)
  exact J4 4096 _ _ hf _ _ hP hD hS _ (lv_sub hl [2, 1, 0] rfl)
noncomputable def f_X7_airComes (r_today : Int32) (r_warms : (Nat → UInt32)) (r_kinds0 : (Nat → Int32)) (r_figures : (Nat → Int32)) (r_airAt : (Nat → Int32)) (r_ways : (Nat → Int32)) (n0 : Int32) (n1 : Int32) (n2 : Int32) : Option ((Nat → UInt32) × (Nat → Int32) × (Nat → Int32)) := dq_gd (vp_in n0 5) (dq_let (upd r_airAt n0.toNatClampNeg n1) (fun (r_airAt_2 : (Nat → Int32)) => dq_gd (vp_in n0 5) (dq_let (upd r_ways n0.toNatClampNeg n2) (fun (r_ways_4 : (Nat → Int32)) => dq_gd (vp_in n0 5) (dq_gd (vp_in n0 5) (dq_gd (vp_in n1 36) (dq_bd (f_X7_chilled r_today (r_kinds0 n0.toNatClampNeg) (r_figures n0.toNatClampNeg) (r_warms n1.toNatClampNeg)) (fun (x8 : UInt32) => dq_bd (f_X7_heldWarm x8) (fun (x10 : UInt32) => dq_gd (vp_in n1 36) (dq_let (vf_upd r_warms n1.toNatClampNeg x10) (fun (r_warms_13 : (Nat → UInt32)) => some (r_warms_13, r_airAt_2, r_ways_4))))))))))))
def wA_X7_airComes : List Cond := .code yX7_airComes cX7_airComes 4 none :: wsL_law
-- DraughtsTakeModel.airComes(III)V
set_option maxHeartbeats 4000000 in
set_option maxRecDepth 100000 in
theorem m_X7_airComes (l : Launch) (D : va_G) (y : Nat → ClassId) (a : (Nat → Nat)) (r_airs : Int32) (r_sitters : Int32) (r_stepMany : Int32) (r_today : Int32) (r_taken : Int32) (r_isStill : Int32) (r_thrown : Int32) (r_letterMany : Int32) (r_at0 : Int32) (r_isBad : Int32) (r_statements : Int32) (r_stepsMany : Int32) (r_hasImage : Int32) (r_place0 : Int32) (r_isTaking : Int32) (r_keptIn : Value) (r_turned : Int32) (r_rowMany : Int32) (r_seed : Int32) (r_warms : (Nat → UInt32)) (r_shutAt : (Nat → Int32)) (r_kinds0 : (Nat → Int32)) (r_figures : (Nat → Int32)) (r_airAt : (Nat → Int32)) (r_ways : (Nat → Int32)) (r_crowned : (Nat → Int32)) (r_sitsAt : (Nat → Int32)) (r_shawls : (Nat → Int32)) (r_isOn : (Nat → Int32)) (r_stepOf : (Nat → Int32)) (r_stepBy : (Nat → Int32)) (r_refusals : (Nat → Int32)) (r_letters : (Nat → Int32)) (r_placeIn : (Nat → Int32)) (r_letterOf : (Nat → Int32)) (r_numbers : (Nat → Int32)) (r_stepsRead : (Nat → Int32)) (r_stepsBy : (Nat → Int32)) (r_kept : (Nat → Int32)) (r_keptWarms : (Nat → UInt32)) (r_i_imaged : (Nat → Int32)) (r_imagedWarms : (Nat → UInt32)) (r_turns0 : (Nat → Int32)) (r_turnWarms0 : (Nat → UInt32)) (r_turnOf : (Nat → Int32)) (r_turnWarms : (Nat → UInt32)) (r_row0 : (Nat → Int32)) (r_gains : (Nat → Int32)) (r_pegSort : (Nat → Int32)) (r_pegMany : (Nat → Int32)) (r_pegHolds : (Nat → Int32)) (r_coats : (Nat → Int32)) (r_coatsMoved : (Nat → Int32)) (n0 : Int32) (n1 : Int32) (n2 : Int32) (z0 : (Nat → UInt32)) (z1 : (Nat → Int32)) (z2 : (Nat → Int32)) (hf : f_X7_airComes r_today r_warms r_kinds0 r_figures r_airAt r_ways n0 n1 n2 = some (z0, z1, z2)) : Ct l D y yX7_airComes wA_X7_airComes 2 49 [.ref (a 0), .int n0, .int n1, .int n2] (w_X7 y a r_airs r_sitters r_stepMany r_today r_taken r_isStill r_thrown r_letterMany r_at0 r_isBad r_statements r_stepsMany r_hasImage r_place0 r_isTaking r_keptIn r_turned r_rowMany r_seed r_warms r_shutAt r_kinds0 r_figures r_airAt r_ways r_crowned r_sitsAt r_shawls r_isOn r_stepOf r_stepBy r_refusals r_letters r_placeIn r_letterOf r_numbers r_stepsRead r_stepsBy r_kept r_keptWarms r_i_imaged r_imagedWarms r_turns0 r_turnWarms0 r_turnOf r_turnWarms r_row0 r_gains r_pegSort r_pegMany r_pegHolds r_coats r_coatsMoved) (w_X7 y a r_airs r_sitters r_stepMany r_today r_taken r_isStill r_thrown r_letterMany r_at0 r_isBad r_statements r_stepsMany r_hasImage r_place0 r_isTaking r_keptIn r_turned r_rowMany r_seed z0 r_shutAt r_kinds0 r_figures z1 z2 r_crowned r_sitsAt r_shawls r_isOn r_stepOf r_stepBy r_refusals r_letters r_placeIn r_letterOf r_numbers r_stepsRead r_stepsBy r_kept r_keptWarms r_i_imaged r_imagedWarms r_turns0 r_turnWarms0 r_turnOf r_turnWarms r_row0 r_gains r_pegSort r_pegMany r_pegHolds r_coats r_coatsMoved) none := by
  refine ct_head (cc := cX7_airComes) (n := 4) (ret := none) (by decide) rfl (Nat.le_of_ble_eq_true rfl) ?_
  intro p e s m below meth c A ls hx hb hr hml hown hlocks hts hA hAe hP hK hD hl
  have hS : va_S A s.heap s.heap [] := va_S.rf
  have hl : lv_has ls 4 [(0, .ref (a 0)), (1, .int n0), (2, .int n1), (3, .int n2)] := hl
  have hown : s.vm.findClass RX7 = some m.cls := hown
  have hts : ∀ w ∈ wsL_law, w.before [.ref (a 0), .int n0, .int n1, .int n2].toArray s = true := fun w h => hts w (List.mem_cons_of_mem _ h)
  unfold f_X7_airComes at hf
  refine lv_aload_n hx hb dX7_airComes_0 rfl (lv_at hl 0 rfl) ?_
  refine va_get (D := D) (ci := 6) (v := .ref (a 5)) (C := RX7) (T := TX7) (N := 53) hx hb hts iwX7 hown hK hP 0 rfl rfl 5 (by decide) (hts _ wl_85) (fun _ h9 => h9) rfl dX7_airComes_1 ?_
  refine lv_iload_n hx hb dX7_airComes_4 rfl (lv_at hl 1 rfl) ?_
  refine lv_iload_n hx hb dX7_airComes_5 rfl (lv_at hl 2 rfl) ?_
  obtain ⟨h1, hf⟩ := dq_g hf
  refine dq_iast (cA := y 1) (n := 5) (f := r_airAt) hx hb hK hP hD hS 5 1 rfl rfl h1 dX7_airComes_6 (fun r_airAt_2 er_airAt_2 H locs hP hD hS => ?_)
  have hf := dq_l hf r_airAt_2 er_airAt_2
  clear er_airAt_2
  have hP : va_P D vwCl (w_X7 y a r_airs r_sitters r_stepMany r_today r_taken r_isStill r_thrown r_letterMany r_at0 r_isBad r_statements r_stepsMany r_hasImage r_place0 r_isTaking r_keptIn r_turned r_rowMany r_seed r_warms r_shutAt r_kinds0 r_figures r_airAt_2 r_ways r_crowned r_sitsAt r_shawls r_isOn r_stepOf r_stepBy r_refusals r_letters r_placeIn r_letterOf r_numbers r_stepsRead r_stepsBy r_kept r_keptWarms r_i_imaged r_imagedWarms r_turns0 r_turnWarms0 r_turnOf r_turnWarms r_row0 r_gains r_pegSort r_pegMany r_pegHolds r_coats r_coatsMoved) H := hP
  have hD : va_D A (w_X7 y a r_airs r_sitters r_stepMany r_today r_taken r_isStill r_thrown r_letterMany r_at0 r_isBad r_statements r_stepsMany r_hasImage r_place0 r_isTaking r_keptIn r_turned r_rowMany r_seed r_warms r_shutAt r_kinds0 r_figures r_airAt_2 r_ways r_crowned r_sitsAt r_shawls r_isOn r_stepOf r_stepBy r_refusals r_letters r_placeIn r_letterOf r_numbers r_stepsRead r_stepsBy r_kept r_keptWarms r_i_imaged r_imagedWarms r_turns0 r_turnWarms0 r_turnOf r_turnWarms r_row0 r_gains r_pegSort r_pegMany r_pegHolds r_coats r_coatsMoved) := hD
  refine lv_aload_n hx hb dX7_airComes_7 rfl (lv_at hl 0 rfl) ?_
  refine va_get (D := D) (ci := 6) (v := .ref (a 6)) (C := RX7) (T := TX7) (N := 53) hx hb hts iwX7 hown hK hP 0 rfl rfl 6 (by decide) (hts _ wl_86) (fun _ h9 => h9) rfl dX7_airComes_8 ?_
  refine lv_iload_n hx hb dX7_airComes_11 rfl (lv_at hl 1 rfl) ?_
  refine lv_iload_n hx hb dX7_airComes_12 rfl (lv_at hl 3 rfl) ?_
  obtain ⟨h3, hf⟩ := dq_g hf
  refine dq_iast (cA := y 1) (n := 5) (f := r_ways) hx hb hK hP hD hS 6 1 rfl rfl h3 dX7_airComes_13 (fun r_ways_4 er_ways_4 H locs hP hD hS => ?_)
  have hf := dq_l hf r_ways_4 er_ways_4
  clear er_ways_4
  have hP : va_P D vwCl (w_X7 y a r_airs r_sitters r_stepMany r_today r_taken r_isStill r_thrown r_letterMany r_at0 r_isBad r_statements r_stepsMany r_hasImage r_place0 r_isTaking r_keptIn r_turned r_rowMany r_seed r_warms r_shutAt r_kinds0 r_figures r_airAt_2 r_ways_4 r_crowned r_sitsAt r_shawls r_isOn r_stepOf r_stepBy r_refusals r_letters r_placeIn r_letterOf r_numbers r_stepsRead r_stepsBy r_kept r_keptWarms r_i_imaged r_imagedWarms r_turns0 r_turnWarms0 r_turnOf r_turnWarms r_row0 r_gains r_pegSort r_pegMany r_pegHolds r_coats r_coatsMoved) H := hP
  have hD : va_D A (w_X7 y a r_airs r_sitters r_stepMany r_today r_taken r_isStill r_thrown r_letterMany r_at0 r_isBad r_statements r_stepsMany r_hasImage r_place0 r_isTaking r_keptIn r_turned r_rowMany r_seed r_warms r_shutAt r_kinds0 r_figures r_airAt_2 r_ways_4 r_crowned r_sitsAt r_shawls r_isOn r_stepOf r_stepBy r_refusals r_letters r_placeIn r_letterOf r_numbers r_stepsRead r_stepsBy r_kept r_keptWarms r_i_imaged r_imagedWarms r_turns0 r_turnWarms0 r_turnOf r_turnWarms r_row0 r_gains r_pegSort r_pegMany r_pegHolds r_coats r_coatsMoved) := hD
  refine lv_aload_n hx hb dX7_airComes_14 rfl (lv_at hl 0 rfl) ?_
  refine va_get (D := D) (ci := 6) (v := .ref (a 1)) (C := RX7) (T := TX7) (N := 53) hx hb hts iwX7 hown hK hP 0 rfl rfl 0 (by decide) (hts _ wl_81) (fun _ h9 => h9) rfl dX7_airComes_15 ?_
  refine lv_iload_n hx hb dX7_airComes_18 rfl (lv_at hl 2 rfl) ?_
  refine lv_aload_n hx hb dX7_airComes_19 rfl (lv_at hl 0 rfl) ?_
  refine lv_aload_n hx hb dX7_airComes_20 rfl (lv_at hl 0 rfl) ?_
  refine va_get (D := D) (ci := 6) (v := .ref (a 3)) (C := RX7) (T := TX7) (N := 53) hx hb hts iwX7 hown hK hP 0 rfl rfl 3 (by decide) (hts _ wl_83) (fun _ h9 => h9) rfl dX7_airComes_21 ?_
  refine lv_iload_n hx hb dX7_airComes_24 rfl (lv_at hl 1 rfl) ?_
  obtain ⟨h5, hf⟩ := dq_g hf
  refine va_iald (cA := y 1) (n := 5) (f := r_kinds0) hx hb hK hP 3 1 rfl rfl h5 dX7_airComes_25 ?_
  refine lv_aload_n hx hb dX7_airComes_26 rfl (lv_at hl 0 rfl) ?_
  refine va_get (D := D) (ci := 6) (v := .ref (a 4)) (C := RX7) (T := TX7) (N := 53) hx hb hts iwX7 hown hK hP 0 rfl rfl 4 (by decide) (hts _ wl_84) (fun _ h9 => h9) rfl dX7_airComes_27 ?_
  refine lv_iload_n hx hb dX7_airComes_30 rfl (lv_at hl 1 rfl) ?_
  obtain ⟨h6, hf⟩ := dq_g hf
  refine va_iald (cA := y 1) (n := 5) (f := r_figures) hx hb hK hP 4 1 rfl rfl h6 dX7_airComes_31 ?_
  refine lv_aload_n hx hb dX7_airComes_32 rfl (lv_at hl 0 rfl) ?_
  refine va_get (D := D) (ci := 6) (v := .ref (a 1)) (C := RX7) (T := TX7) (N := 53) hx hb hts iwX7 hown hK hP 0 rfl rfl 0 (by decide) (hts _ wl_81) (fun _ h9 => h9) rfl dX7_airComes_33 ?_
  refine lv_iload_n hx hb dX7_airComes_36 rfl (lv_at hl 2 rfl) ?_
  obtain ⟨h7, hf⟩ := dq_g hf
  refine va_fald (cA := y 0) (n := 36) (f := r_warms) hx hb hK hP 1 0 rfl rfl h7 dX7_airComes_37 ?_
  obtain ⟨x8, hy9, hf⟩ := dq_b hf
  refine ct_callV0 (ci := 6) (q0 := 0) (own := RX7) (As := [.int (r_kinds0 n0.toNatClampNeg), .int (r_figures n0.toNatClampNeg), .float (r_warms n1.toNatClampNeg)]) (rest := [.int n1, .ref (a 1)]) (ws' := (w_X7 y a r_airs r_sitters r_stepMany r_today r_taken r_isStill r_thrown r_letterMany r_at0 r_isBad r_statements r_stepsMany r_hasImage r_place0 r_isTaking r_keptIn r_turned r_rowMany r_seed r_warms r_shutAt r_kinds0 r_figures r_airAt_2 r_ways_4 r_crowned r_sitsAt r_shawls r_isOn r_stepOf r_stepBy r_refusals r_letters r_placeIn r_letterOf r_numbers r_stepsRead r_stepsBy r_kept r_keptWarms r_i_imaged r_imagedWarms r_turns0 r_turnWarms0 r_turnOf r_turnWarms r_row0 r_gains r_pegSort r_pegMany r_pegHolds r_coats r_coatsMoved)) ⟨hx, hb, hml, hown, hts⟩ (m_X7_chilled l D y a r_airs r_sitters r_stepMany r_today r_taken r_isStill r_thrown r_letterMany r_at0 r_isBad r_statements r_stepsMany r_hasImage r_place0 r_isTaking r_keptIn r_turned r_rowMany r_seed r_warms r_shutAt r_kinds0 r_figures r_airAt_2 r_ways_4 r_crowned r_sitsAt r_shawls r_isOn r_stepOf r_stepBy r_refusals r_letters r_placeIn r_letterOf r_numbers r_stepsRead r_stepsBy r_kept r_keptWarms r_i_imaged r_imagedWarms r_turns0 r_turnWarms0 r_turnOf r_turnWarms r_row0 r_gains r_pegSort r_pegMany r_pegHolds r_coats r_coatsMoved (r_kinds0 n0.toNatClampNeg) (r_figures n0.toNatClampNeg) (r_warms n1.toNatClampNeg) x8 hy9) (cwV 3 hts (gA_V wl_508 wl_509 wl_510 wl_5 wl_511) rfl rfl rfl (by decide +kernel) ⟨Nat.le_of_ble_eq_true rfl, Nat.le_of_ble_eq_true rfl⟩) rfl rfl rfl hl.1 rfl (Nat.le_of_ble_eq_true rfl) dX7_airComes_38 ⟨Nat.zero_le _, Nat.zero_le _⟩ hK hP hD hS hA (fun H locs hP hD hS => ?_)
  obtain ⟨x10, hy11, hf⟩ := dq_b hf
  refine ct_callS0 (own := RX7) (As := [.float x8]) (rest := [.int n1, .ref (a 1)]) ⟨hx, hb, hml, hown, hts⟩ (m_X7_heldWarm l D y x8 x10 hy11) (va_cwS 1 hts (gA_S wl_477 wl_478 wl_5 wl_479) rfl rfl rfl (by decide +kernel) ⟨Nat.le_of_ble_eq_true rfl, Nat.le_of_ble_eq_true rfl⟩) rfl hl.1 rfl (Nat.le_of_ble_eq_true rfl) dX7_airComes_41 ⟨Nat.zero_le _, Nat.zero_le _⟩ hK hP hD hS hA (fun H locs hP hD hS => ?_)
  obtain ⟨h12, hf⟩ := dq_g hf
  refine dq_fast (cA := y 0) (n := 36) (f := r_warms) hx hb hK hP hD hS 1 0 rfl rfl h12 dX7_airComes_44 (fun r_warms_13 er_warms_13 H locs hP hD hS => ?_)
  have hf := dq_l hf r_warms_13 er_warms_13
  clear er_warms_13
  have hP : va_P D vwCl (w_X7 y a r_airs r_sitters r_stepMany r_today r_taken r_isStill r_thrown r_letterMany r_at0 r_isBad r_statements r_stepsMany r_hasImage r_place0 r_isTaking r_keptIn r_turned r_rowMany r_seed r_warms_13 r_shutAt r_kinds0 r_figures r_airAt_2 r_ways_4 r_crowned r_sitsAt r_shawls r_isOn r_stepOf r_stepBy r_refusals r_letters r_placeIn r_letterOf r_numbers r_stepsRead r_stepsBy r_kept r_keptWarms r_i_imaged r_imagedWarms r_turns0 r_turnWarms0 r_turnOf r_turnWarms r_row0 r_gains r_pegSort r_pegMany r_pegHolds r_coats r_coatsMoved) H := hP
  have hD : va_D A (w_X7 y a r_airs r_sitters r_stepMany r_today r_taken r_isStill r_thrown r_letterMany r_at0 r_isBad r_statements r_stepsMany r_hasImage r_place0 r_isTaking r_keptIn r_turned r_rowMany r_seed r_warms_13 r_shutAt r_kinds0 r_figures r_airAt_2 r_ways_4 r_crowned r_sitsAt r_shawls r_isOn r_stepOf r_stepBy r_refusals r_letters r_placeIn r_letterOf r_numbers r_stepsRead r_stepsBy r_kept r_keptWarms r_i_imaged r_imagedWarms r_turns0 r_turnWarms0 r_turnOf r_turnWarms r_row0 r_gains r_pegSort r_pegMany r_pegHolds r_coats r_coatsMoved) := hD
  obtain ⟨rfl, rfl, rfl⟩ := dq_r3 hf
  exact ct_vret hx hb hr hlocks hAe hP hK hD hS dX7_airComes_45
noncomputable def f_X7_triesOf (n0 : Int32) : Option Int32 := dq_if (n0 = (1 : Int32)) (some (4 : Int32)) (some (2 : Int32))
def wA_X7_triesOf : List Cond := .code yX7_triesOf cX7_triesOf 1 (some .int) :: wsL_law
-- DraughtsTakeModel.triesOf(I)I
set_option maxHeartbeats 4000000 in
set_option maxRecDepth 100000 in
theorem m_X7_triesOf (l : Launch) (D : va_G) (y : Nat → ClassId) (n0 : Int32) (z0 : Int32) (hf : f_X7_triesOf n0 = some z0) : Ct l D y yX7_triesOf wA_X7_triesOf 0 0 [.int n0] [] [] (some (.int z0)) := by
  refine ct_head (cc := cX7_triesOf) (n := 1) (ret := (some .int)) (by decide) rfl (Nat.le_of_ble_eq_true rfl) ?_
  intro p e s m below meth c A ls hx hb hr hml hown hlocks hts hA hAe hP hK hD hl
  have hS : va_S A s.heap s.heap [] := va_S.rf
  have hl : lv_has ls 1 [(0, .int n0)] := hl
  have hown : s.vm.findClass RX7 = some m.cls := hown
  have hts : ∀ w ∈ wsL_law, w.before [.int n0].toArray s = true := fun w h => hts w (List.mem_cons_of_mem _ h)
  unfold f_X7_triesOf at hf
  refine lv_iload_n hx hb dX7_triesOf_0 rfl (lv_at hl 0 rfl) ?_
  refine lv_iconst (v := 1) hx hb dX7_triesOf_1 (by decide) ?_
  refine lv_icmp_ne (tgt := 9) hx hb dX7_triesOf_2 (by decide) (fun c1 => ?_) (fun c1 => ?_)
  · have hf := dq_f hf c1
    clear c1
    refine lv_iconst (v := 2) hx hb dX7_triesOf_9 (by decide) ?_
    obtain rfl := dq_r1 hf
    exact ct_iret hx hb hr hlocks hAe hP hK hD hS dX7_triesOf_10
  · have hf := dq_t hf c1
    clear c1
    refine lv_iconst (v := 4) hx hb dX7_triesOf_5 (by decide) ?_
    refine lv_goto (tgt := 10) hx hb dX7_triesOf_6 (by decide) ?_
    obtain rfl := dq_r1 hf
    exact ct_iret hx hb hr hlocks hAe hP hK hD hS dX7_triesOf_10
