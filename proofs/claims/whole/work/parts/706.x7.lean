noncomputable def f_X7_here (r_letterMany : Int32) (r_at0 : Int32) (r_letters : (Nat → Int32)) : Option Int32 := dq_if (r_letterMany ≤ r_at0) (some (-1 : Int32)) (dq_gd (vp_in r_at0 96) (some (r_letters r_at0.toNatClampNeg)))
def wA_X7_here : List Cond := .code yX7_here cX7_here 1 (some .int) :: wsL_law
-- DraughtsTakeModel.here()I
set_option maxHeartbeats 4000000 in
set_option maxRecDepth 100000 in
theorem m_X7_here (l : Launch) (D : va_G) (y : Nat → ClassId) (a : (Nat → Nat)) (r_airs : Int32) (r_sitters : Int32) (r_stepMany : Int32) (r_today : Int32) (r_taken : Int32) (r_isStill : Int32) (r_thrown : Int32) (r_letterMany : Int32) (r_at0 : Int32) (r_isBad : Int32) (r_statements : Int32) (r_stepsMany : Int32) (r_hasImage : Int32) (r_place0 : Int32) (r_isTaking : Int32) (r_keptIn : Value) (r_turned : Int32) (r_rowMany : Int32) (r_seed : Int32) (r_warms : (Nat → UInt32)) (r_shutAt : (Nat → Int32)) (r_kinds0 : (Nat → Int32)) (r_figures : (Nat → Int32)) (r_airAt : (Nat → Int32)) (r_ways : (Nat → Int32)) (r_crowned : (Nat → Int32)) (r_sitsAt : (Nat → Int32)) (r_shawls : (Nat → Int32)) (r_isOn : (Nat → Int32)) (r_stepOf : (Nat → Int32)) (r_stepBy : (Nat → Int32)) (r_refusals : (Nat → Int32)) (r_letters : (Nat → Int32)) (r_placeIn : (Nat → Int32)) (r_letterOf : (Nat → Int32)) (r_numbers : (Nat → Int32)) (r_stepsRead : (Nat → Int32)) (r_stepsBy : (Nat → Int32)) (r_kept : (Nat → Int32)) (r_keptWarms : (Nat → UInt32)) (r_i_imaged : (Nat → Int32)) (r_imagedWarms : (Nat → UInt32)) (r_turns0 : (Nat → Int32)) (r_turnWarms0 : (Nat → UInt32)) (r_turnOf : (Nat → Int32)) (r_turnWarms : (Nat → UInt32)) (r_row0 : (Nat → Int32)) (r_gains : (Nat → Int32)) (r_pegSort : (Nat → Int32)) (r_pegMany : (Nat → Int32)) (r_pegHolds : (Nat → Int32)) (r_coats : (Nat → Int32)) (r_coatsMoved : (Nat → Int32)) (z0 : Int32) (hf : f_X7_here r_letterMany r_at0 r_letters = some z0) : Ct l D y yX7_here wA_X7_here 0 0 [.ref (a 0)] (w_X7 y a r_airs r_sitters r_stepMany r_today r_taken r_isStill r_thrown r_letterMany r_at0 r_isBad r_statements r_stepsMany r_hasImage r_place0 r_isTaking r_keptIn r_turned r_rowMany r_seed r_warms r_shutAt r_kinds0 r_figures r_airAt r_ways r_crowned r_sitsAt r_shawls r_isOn r_stepOf r_stepBy r_refusals r_letters r_placeIn r_letterOf r_numbers r_stepsRead r_stepsBy r_kept r_keptWarms r_i_imaged r_imagedWarms r_turns0 r_turnWarms0 r_turnOf r_turnWarms r_row0 r_gains r_pegSort r_pegMany r_pegHolds r_coats r_coatsMoved) (w_X7 y a r_airs r_sitters r_stepMany r_today r_taken r_isStill r_thrown r_letterMany r_at0 r_isBad r_statements r_stepsMany r_hasImage r_place0 r_isTaking r_keptIn r_turned r_rowMany r_seed r_warms r_shutAt r_kinds0 r_figures r_airAt r_ways r_crowned r_sitsAt r_shawls r_isOn r_stepOf r_stepBy r_refusals r_letters r_placeIn r_letterOf r_numbers r_stepsRead r_stepsBy r_kept r_keptWarms r_i_imaged r_imagedWarms r_turns0 r_turnWarms0 r_turnOf r_turnWarms r_row0 r_gains r_pegSort r_pegMany r_pegHolds r_coats r_coatsMoved) (some (.int z0)) := by
  refine ct_head (cc := cX7_here) (n := 1) (ret := (some .int)) (by decide) rfl (Nat.le_of_ble_eq_true rfl) ?_
  intro p e s m below meth c A ls hx hb hr hml hown hlocks hts hA hAe hP hK hD hl
  have hS : va_S A s.heap s.heap [] := va_S.rf
  have hl : lv_has ls 1 [(0, .ref (a 0))] := hl
  have hown : s.vm.findClass RX7 = some m.cls := hown
  have hts : ∀ w ∈ wsL_law, w.before [.ref (a 0)].toArray s = true := fun w h => hts w (List.mem_cons_of_mem _ h)
  unfold f_X7_here at hf
  refine lv_aload_n hx hb dX7_here_0 rfl (lv_at hl 0 rfl) ?_
  refine va_get (D := D) (ci := 6) (v := .int r_at0) (C := RX7) (T := TX7) (N := 53) hx hb hts iwX7 hown hK hP 0 rfl rfl 22 (by decide) (hts _ wl_358) (fun _ h9 => h9) rfl dX7_here_1 ?_
  refine lv_aload_n hx hb dX7_here_4 rfl (lv_at hl 0 rfl) ?_
  refine va_get (D := D) (ci := 6) (v := .int r_letterMany) (C := RX7) (T := TX7) (N := 53) hx hb hts iwX7 hown hK hP 0 rfl rfl 21 (by decide) (hts _ wl_132) (fun _ h9 => h9) rfl dX7_here_5 ?_
  refine lv_icmp_ge (tgt := 23) hx hb dX7_here_8 (by decide) (fun c1 => ?_) (fun c1 => ?_)
  · have hf := dq_t hf c1
    clear c1
    refine lv_iconst (v := -1) hx hb dX7_here_23 (by decide) ?_
    obtain rfl := dq_r1 hf
    exact ct_iret hx hb hr hlocks hAe hP hK hD hS dX7_here_24
  · have hf := dq_f hf c1
    clear c1
    refine lv_aload_n hx hb dX7_here_11 rfl (lv_at hl 0 rfl) ?_
    refine va_get (D := D) (ci := 6) (v := .ref (a 14)) (C := RX7) (T := TX7) (N := 53) hx hb hts iwX7 hown hK hP 0 rfl rfl 20 (by decide) (hts _ wl_94) (fun _ h9 => h9) rfl dX7_here_12 ?_
    refine lv_aload_n hx hb dX7_here_15 rfl (lv_at hl 0 rfl) ?_
    refine va_get (D := D) (ci := 6) (v := .int r_at0) (C := RX7) (T := TX7) (N := 53) hx hb hts iwX7 hown hK hP 0 rfl rfl 22 (by decide) (hts _ wl_358) (fun _ h9 => h9) rfl dX7_here_16 ?_
    obtain ⟨h2, hf⟩ := dq_g hf
    refine va_iald (cA := y 1) (n := 96) (f := r_letters) hx hb hK hP 14 1 rfl rfl h2 dX7_here_19 ?_
    refine lv_goto (tgt := 24) hx hb dX7_here_20 (by decide) ?_
    obtain rfl := dq_r1 hf
    exact ct_iret hx hb hr hlocks hAe hP hK hD hS dX7_here_24
noncomputable def f_X7_readDigits_b70 (x2 : Int32) (r_at0_3 : Int32) (x6 : Int32) (k4 : (Int32 → Int32 → Int32 → Int32 → Option (Int32 × Int32 × Int32))) (x8 : Int32) : Option (Int32 × Int32 × Int32) := dq_if (x6 = 0) (dq_let (r_at0_3 + (1 : Int32)) (fun (x10 : Int32) => dq_let (x2 + (1 : Int32)) (fun (x11 : Int32) => k4 x8 x11 x10 x6))) (dq_let (r_at0_3 + (0 : Int32)) (fun (x12 : Int32) => dq_let (x2 + (1 : Int32)) (fun (x13 : Int32) => k4 x8 x13 x12 x6)))
noncomputable def f_X7_readDigits_b39 (r_letters : (Nat → Int32)) (x1 : Int32) (x2 : Int32) (r_at0_3 : Int32) (k4 : (Int32 → Int32 → Int32 → Int32 → Option (Int32 × Int32 × Int32))) (x6 : Int32) : Option (Int32 × Int32 × Int32) := dq_gd (dq_z x6) (dq_if (x6 = 0) (dq_gd (vp_in r_at0_3 96) (f_X7_readDigits_b70 x2 r_at0_3 x6 k4 ((((10 : Int32) * x1) + (r_letters r_at0_3.toNatClampNeg)) - (48 : Int32)))) (f_X7_readDigits_b70 x2 r_at0_3 x6 k4 (0 : Int32)))
noncomputable def f_X7_readDigits_b4 (n0 : Int32) (r_letterMany : Int32) (r_letters : (Nat → Int32))  : Nat → Int32 → Int32 → Int32 → Int32 → Option (Int32 × Int32 × Int32)
  | 0, _, _, _, _ => none
  | m4 + 1, x1, x2, r_at0_3, r_isBad_4 => dq_if (n0 ≤ x2) (some (x1, r_at0_3, r_isBad_4)) (dq_if (r_isBad_4 = 0) (dq_bd (f_X7_here r_letterMany r_at0_3 r_letters) (fun (x17 : Int32) => dq_bd (f_X7_in x17.toInt64 (48 : Int64) (57 : Int64)) (fun (x19 : Int32) => dq_if (x19 = 0) (f_X7_readDigits_b39 r_letters x1 x2 r_at0_3 (f_X7_readDigits_b4 n0 r_letterMany r_letters m4) (1 : Int32)) (f_X7_readDigits_b39 r_letters x1 x2 r_at0_3 (f_X7_readDigits_b4 n0 r_letterMany r_letters m4) (0 : Int32))))) (f_X7_readDigits_b39 r_letters x1 x2 r_at0_3 (f_X7_readDigits_b4 n0 r_letterMany r_letters m4) (1 : Int32)))
noncomputable def f_X7_readDigits (r_letterMany : Int32) (r_at0 : Int32) (r_isBad : Int32) (r_letters : (Nat → Int32)) (n0 : Int32) : Option (Int32 × Int32 × Int32) := f_X7_readDigits_b4 n0 r_letterMany r_letters 4096 (0 : Int32) (0 : Int32) r_at0 r_isBad
def wA_X7_readDigits : List Cond := .code yX7_readDigits cX7_readDigits 4 (some .int) :: wsL_law
-- DraughtsTakeModel.readDigits(I)I
set_option maxHeartbeats 4000000 in
set_option maxRecDepth 100000 in
theorem m_X7_readDigits (l : Launch) (D : va_G) (y : Nat → ClassId) (a : (Nat → Nat)) (r_airs : Int32) (r_sitters : Int32) (r_stepMany : Int32) (r_today : Int32) (r_taken : Int32) (r_isStill : Int32) (r_thrown : Int32) (r_letterMany : Int32) (r_at0 : Int32) (r_isBad : Int32) (r_statements : Int32) (r_stepsMany : Int32) (r_hasImage : Int32) (r_place0 : Int32) (r_isTaking : Int32) (r_keptIn : Value) (r_turned : Int32) (r_rowMany : Int32) (r_seed : Int32) (r_warms : (Nat → UInt32)) (r_shutAt : (Nat → Int32)) (r_kinds0 : (Nat → Int32)) (r_figures : (Nat → Int32)) (r_airAt : (Nat → Int32)) (r_ways : (Nat → Int32)) (r_crowned : (Nat → Int32)) (r_sitsAt : (Nat → Int32)) (r_shawls : (Nat → Int32)) (r_isOn : (Nat → Int32)) (r_stepOf : (Nat → Int32)) (r_stepBy : (Nat → Int32)) (r_refusals : (Nat → Int32)) (r_letters : (Nat → Int32)) (r_placeIn : (Nat → Int32)) (r_letterOf : (Nat → Int32)) (r_numbers : (Nat → Int32)) (r_stepsRead : (Nat → Int32)) (r_stepsBy : (Nat → Int32)) (r_kept : (Nat → Int32)) (r_keptWarms : (Nat → UInt32)) (r_i_imaged : (Nat → Int32)) (r_imagedWarms : (Nat → UInt32)) (r_turns0 : (Nat → Int32)) (r_turnWarms0 : (Nat → UInt32)) (r_turnOf : (Nat → Int32)) (r_turnWarms : (Nat → UInt32)) (r_row0 : (Nat → Int32)) (r_gains : (Nat → Int32)) (r_pegSort : (Nat → Int32)) (r_pegMany : (Nat → Int32)) (r_pegHolds : (Nat → Int32)) (r_coats : (Nat → Int32)) (r_coatsMoved : (Nat → Int32)) (n0 : Int32) (z0 : Int32) (z1 : Int32) (z2 : Int32) (hf : f_X7_readDigits r_letterMany r_at0 r_isBad r_letters n0 = some (z0, z1, z2)) : Ct l D y yX7_readDigits wA_X7_readDigits 1 25 [.ref (a 0), .int n0] (w_X7 y a r_airs r_sitters r_stepMany r_today r_taken r_isStill r_thrown r_letterMany r_at0 r_isBad r_statements r_stepsMany r_hasImage r_place0 r_isTaking r_keptIn r_turned r_rowMany r_seed r_warms r_shutAt r_kinds0 r_figures r_airAt r_ways r_crowned r_sitsAt r_shawls r_isOn r_stepOf r_stepBy r_refusals r_letters r_placeIn r_letterOf r_numbers r_stepsRead r_stepsBy r_kept r_keptWarms r_i_imaged r_imagedWarms r_turns0 r_turnWarms0 r_turnOf r_turnWarms r_row0 r_gains r_pegSort r_pegMany r_pegHolds r_coats r_coatsMoved) (w_X7 y a r_airs r_sitters r_stepMany r_today r_taken r_isStill r_thrown r_letterMany z1 z2 r_statements r_stepsMany r_hasImage r_place0 r_isTaking r_keptIn r_turned r_rowMany r_seed r_warms r_shutAt r_kinds0 r_figures r_airAt r_ways r_crowned r_sitsAt r_shawls r_isOn r_stepOf r_stepBy r_refusals r_letters r_placeIn r_letterOf r_numbers r_stepsRead r_stepsBy r_kept r_keptWarms r_i_imaged r_imagedWarms r_turns0 r_turnWarms0 r_turnOf r_turnWarms r_row0 r_gains r_pegSort r_pegMany r_pegHolds r_coats r_coatsMoved) (some (.int z0)) := by
  refine ct_head (cc := cX7_readDigits) (n := 4) (ret := (some .int)) (by decide) rfl (Nat.le_of_ble_eq_true rfl) ?_
  intro p e s m below meth c A ls hx hb hr hml hown hlocks hts hA hAe hP hK hD hl
  have hS : va_S A s.heap s.heap [] := va_S.rf
  have hl : lv_has ls 4 [(0, .ref (a 0)), (1, .int n0)] := hl
  have hown : s.vm.findClass RX7 = some m.cls := hown
  have hts : ∀ w ∈ wsL_law, w.before [.ref (a 0), .int n0].toArray s = true := fun w h => hts w (List.mem_cons_of_mem _ h)
  unfold f_X7_readDigits at hf
  refine lv_iconst (v := 0) hx hb dX7_readDigits_0 (by decide) ?_
  refine lv_istore_n (lv' := [(2, .int (0 : Int32)), (0, .ref (a 0)), (1, .int n0)]) hx hb dX7_readDigits_1 rfl hl (by decide) rfl (fun ls hl => ?_)
  refine lv_iconst (v := 0) hx hb dX7_readDigits_2 (by decide) ?_
  refine lv_istore_n (lv' := [(3, .int (0 : Int32)), (2, .int (0 : Int32)), (0, .ref (a 0)), (1, .int n0)]) hx hb dX7_readDigits_3 rfl hl (by decide) rfl (fun ls hl => ?_)
  have J4 : ∀ (m4 : Nat) (x1 : Int32) (x2 : Int32) (r_at0_3 : Int32) (r_isBad_4 : Int32), f_X7_readDigits_b4 n0 r_letterMany r_letters m4 x1 x2 r_at0_3 r_isBad_4 = some (z0, z1, z2) → ∀ (H : Heap) (locs : List Loc), va_P D vwCl (w_X7 y a r_airs r_sitters r_stepMany r_today r_taken r_isStill r_thrown r_letterMany r_at0_3 r_isBad_4 r_statements r_stepsMany r_hasImage r_place0 r_isTaking r_keptIn r_turned r_rowMany r_seed r_warms r_shutAt r_kinds0 r_figures r_airAt r_ways r_crowned r_sitsAt r_shawls r_isOn r_stepOf r_stepBy r_refusals r_letters r_placeIn r_letterOf r_numbers r_stepsRead r_stepsBy r_kept r_keptWarms r_i_imaged r_imagedWarms r_turns0 r_turnWarms0 r_turnOf r_turnWarms r_row0 r_gains r_pegSort r_pegMany r_pegHolds r_coats r_coatsMoved) H → va_D A (w_X7 y a r_airs r_sitters r_stepMany r_today r_taken r_isStill r_thrown r_letterMany r_at0_3 r_isBad_4 r_statements r_stepsMany r_hasImage r_place0 r_isTaking r_keptIn r_turned r_rowMany r_seed r_warms r_shutAt r_kinds0 r_figures r_airAt r_ways r_crowned r_sitsAt r_shawls r_isOn r_stepOf r_stepBy r_refusals r_letters r_placeIn r_letterOf r_numbers r_stepsRead r_stepsBy r_kept r_keptWarms r_i_imaged r_imagedWarms r_turns0 r_turnWarms0 r_turnOf r_turnWarms r_row0 r_gains r_pegSort r_pegMany r_pegHolds r_coats r_coatsMoved) → va_S A s.heap H locs → ∀ ls : Array Slot, lv_has ls 4 [(0, .ref (a 0)), (1, .int n0), (2, .int x1), (3, .int x2)] → W p l e ({ frames := 1, cells := 0, slots := 0, locals := 25 } : Room) s m [.ref (a 0), .int n0].toArray below meth c H locs 0 0 (MQ below (dQ D y (some (.int z0)) s.heap.size (w_X7 y a r_airs r_sitters r_stepMany r_today r_taken r_isStill r_thrown r_letterMany r_at0 r_isBad r_statements r_stepsMany r_hasImage r_place0 r_isTaking r_keptIn r_turned r_rowMany r_seed r_warms r_shutAt r_kinds0 r_figures r_airAt r_ways r_crowned r_sitsAt r_shawls r_isOn r_stepOf r_stepBy r_refusals r_letters r_placeIn r_letterOf r_numbers r_stepsRead r_stepsBy r_kept r_keptWarms r_i_imaged r_imagedWarms r_turns0 r_turnWarms0 r_turnOf r_turnWarms r_row0 r_gains r_pegSort r_pegMany r_pegHolds r_coats r_coatsMoved) (w_X7 y a r_airs r_sitters r_stepMany r_today r_taken r_isStill r_thrown r_letterMany z1 z2 r_statements r_stepsMany r_hasImage r_place0 r_isTaking r_keptIn r_turned r_rowMany r_seed r_warms r_shutAt r_kinds0 r_figures r_airAt r_ways r_crowned r_sitsAt r_shawls r_isOn r_stepOf r_stepBy r_refusals r_letters r_placeIn r_letterOf r_numbers r_stepsRead r_stepsBy r_kept r_keptWarms r_i_imaged r_imagedWarms r_turns0 r_turnWarms0 r_turnOf r_turnWarms r_row0 r_gains r_pegSort r_pegMany r_pegHolds r_coats r_coatsMoved)) [.ref (a 0), .int n0].toArray s 0 0 A) (F0 m 4 ls []) := by
    intro m4
    induction m4 with
    | zero => intro x1 x2 r_at0_3 r_isBad_4 hf; exact absurd hf (by unfold f_X7_readDigits_b4; exact fun h => by cases h)
    | succ m4 I4 =>
      intro x1 x2 r_at0_3 r_isBad_4 hf H locs hP hD hS ls hl
      unfold f_X7_readDigits_b4 at hf
      refine lv_iload_n hx hb dX7_readDigits_4 rfl (lv_at hl 3 rfl) ?_
      refine lv_iload_n hx hb dX7_readDigits_5 rfl (lv_at hl 1 rfl) ?_
      refine lv_icmp_ge (tgt := 98) hx hb dX7_readDigits_6 (by decide) (fun c5 => ?_) (fun c5 => ?_)
      · have hf := dq_t hf c5
        clear c5
        refine lv_iload_n hx hb dX7_readDigits_98 rfl (lv_at hl 2 rfl) ?_
        obtain ⟨rfl, rfl, rfl⟩ := dq_r3 hf
        exact ct_iret hx hb hr hlocks hAe hP hK hD hS dX7_readDigits_99
      · have hf := dq_f hf c5
        clear c5
        refine lv_aload_n hx hb dX7_readDigits_9 rfl (lv_at hl 0 rfl) ?_
        refine lv_aload_n hx hb dX7_readDigits_10 rfl (lv_at hl 0 rfl) ?_
        refine va_get (D := D) (ci := 6) (v := .int r_isBad_4) (C := RX7) (T := TX7) (N := 53) hx hb hts iwX7 hown hK hP 0 rfl rfl 23 (by decide) (hts _ wl_359) (fun _ h9 => h9) rfl dX7_readDigits_11 ?_
        have J39 : ∀ (x6 : Int32), f_X7_readDigits_b39 r_letters x1 x2 r_at0_3 (f_X7_readDigits_b4 n0 r_letterMany r_letters m4) x6 = some (z0, z1, z2) → ∀ (H : Heap) (locs : List Loc), va_P D vwCl (w_X7 y a r_airs r_sitters r_stepMany r_today r_taken r_isStill r_thrown r_letterMany r_at0_3 r_isBad_4 r_statements r_stepsMany r_hasImage r_place0 r_isTaking r_keptIn r_turned r_rowMany r_seed r_warms r_shutAt r_kinds0 r_figures r_airAt r_ways r_crowned r_sitsAt r_shawls r_isOn r_stepOf r_stepBy r_refusals r_letters r_placeIn r_letterOf r_numbers r_stepsRead r_stepsBy r_kept r_keptWarms r_i_imaged r_imagedWarms r_turns0 r_turnWarms0 r_turnOf r_turnWarms r_row0 r_gains r_pegSort r_pegMany r_pegHolds r_coats r_coatsMoved) H → va_D A (w_X7 y a r_airs r_sitters r_stepMany r_today r_taken r_isStill r_thrown r_letterMany r_at0_3 r_isBad_4 r_statements r_stepsMany r_hasImage r_place0 r_isTaking r_keptIn r_turned r_rowMany r_seed r_warms r_shutAt r_kinds0 r_figures r_airAt r_ways r_crowned r_sitsAt r_shawls r_isOn r_stepOf r_stepBy r_refusals r_letters r_placeIn r_letterOf r_numbers r_stepsRead r_stepsBy r_kept r_keptWarms r_i_imaged r_imagedWarms r_turns0 r_turnWarms0 r_turnOf r_turnWarms r_row0 r_gains r_pegSort r_pegMany r_pegHolds r_coats r_coatsMoved) → va_S A s.heap H locs → ∀ ls : Array Slot, lv_has ls 4 [(0, .ref (a 0)), (1, .int n0), (2, .int x1), (3, .int x2)] → W p l e ({ frames := 1, cells := 0, slots := 0, locals := 25 } : Room) s m [.ref (a 0), .int n0].toArray below meth c H locs 0 0 (MQ below (dQ D y (some (.int z0)) s.heap.size (w_X7 y a r_airs r_sitters r_stepMany r_today r_taken r_isStill r_thrown r_letterMany r_at0 r_isBad r_statements r_stepsMany r_hasImage r_place0 r_isTaking r_keptIn r_turned r_rowMany r_seed r_warms r_shutAt r_kinds0 r_figures r_airAt r_ways r_crowned r_sitsAt r_shawls r_isOn r_stepOf r_stepBy r_refusals r_letters r_placeIn r_letterOf r_numbers r_stepsRead r_stepsBy r_kept r_keptWarms r_i_imaged r_imagedWarms r_turns0 r_turnWarms0 r_turnOf r_turnWarms r_row0 r_gains r_pegSort r_pegMany r_pegHolds r_coats r_coatsMoved) (w_X7 y a r_airs r_sitters r_stepMany r_today r_taken r_isStill r_thrown r_letterMany z1 z2 r_statements r_stepsMany r_hasImage r_place0 r_isTaking r_keptIn r_turned r_rowMany r_seed r_warms r_shutAt r_kinds0 r_figures r_airAt r_ways r_crowned r_sitsAt r_shawls r_isOn r_stepOf r_stepBy r_refusals r_letters r_placeIn r_letterOf r_numbers r_stepsRead r_stepsBy r_kept r_keptWarms r_i_imaged r_imagedWarms r_turns0 r_turnWarms0 r_turnOf r_turnWarms r_row0 r_gains r_pegSort r_pegMany r_pegHolds r_coats r_coatsMoved)) [.ref (a 0), .int n0].toArray s 0 0 A) (F0 m 39 ls [.int x6, .ref (a 0)]) := by
          intro x6 hf H locs hP hD hS ls hl
          unfold f_X7_readDigits_b39 at hf
          obtain ⟨h7, hf⟩ := dq_g hf
          refine va_put (D := D) (ci := 6) (v := .int x6) (ty := .boolean) (C := RX7) (T := TX7) (N := 53) hx hb hts iwX7 tyX7 tyX7_ok nmX7 hown hK hP hD hS 0 rfl rfl 23 (by decide) (hts _ wl_359) (fun _ h9 => h9) rfl (tyX7_ok 23 (by decide)) (dq_zn h7) (dq_zf h7) (Nat.le_of_ble_eq_true rfl) dX7_readDigits_39 (fun H locs hP hD hS => ?_)
          have hP : va_P D vwCl (w_X7 y a r_airs r_sitters r_stepMany r_today r_taken r_isStill r_thrown r_letterMany r_at0_3 x6 r_statements r_stepsMany r_hasImage r_place0 r_isTaking r_keptIn r_turned r_rowMany r_seed r_warms r_shutAt r_kinds0 r_figures r_airAt r_ways r_crowned r_sitsAt r_shawls r_isOn r_stepOf r_stepBy r_refusals r_letters r_placeIn r_letterOf r_numbers r_stepsRead r_stepsBy r_kept r_keptWarms r_i_imaged r_imagedWarms r_turns0 r_turnWarms0 r_turnOf r_turnWarms r_row0 r_gains r_pegSort r_pegMany r_pegHolds r_coats r_coatsMoved) H := hP
          have hD : va_D A (w_X7 y a r_airs r_sitters r_stepMany r_today r_taken r_isStill r_thrown r_letterMany r_at0_3 x6 r_statements r_stepsMany r_hasImage r_place0 r_isTaking r_keptIn r_turned r_rowMany r_seed r_warms r_shutAt r_kinds0 r_figures r_airAt r_ways r_crowned r_sitsAt r_shawls r_isOn r_stepOf r_stepBy r_refusals r_letters r_placeIn r_letterOf r_numbers r_stepsRead r_stepsBy r_kept r_keptWarms r_i_imaged r_imagedWarms r_turns0 r_turnWarms0 r_turnOf r_turnWarms r_row0 r_gains r_pegSort r_pegMany r_pegHolds r_coats r_coatsMoved) := hD
          refine lv_aload_n hx hb dX7_readDigits_42 rfl (lv_at hl 0 rfl) ?_
          refine va_get (D := D) (ci := 6) (v := .int x6) (C := RX7) (T := TX7) (N := 53) hx hb hts iwX7 hown hK hP 0 rfl rfl 23 (by decide) (hts _ wl_359) (fun _ h9 => h9) rfl dX7_readDigits_43 ?_
          have J70 : ∀ (x8 : Int32), f_X7_readDigits_b70 x2 r_at0_3 x6 (f_X7_readDigits_b4 n0 r_letterMany r_letters m4) x8 = some (z0, z1, z2) → ∀ (H : Heap) (locs : List Loc), va_P D vwCl (w_X7 y a r_airs r_sitters r_stepMany r_today r_taken r_isStill r_thrown r_letterMany r_at0_3 x6 r_statements r_stepsMany r_hasImage r_place0 r_isTaking r_keptIn r_turned r_rowMany r_seed r_warms r_shutAt r_kinds0 r_figures r_airAt r_ways r_crowned r_sitsAt r_shawls r_isOn r_stepOf r_stepBy r_refusals r_letters r_placeIn r_letterOf r_numbers r_stepsRead r_stepsBy r_kept r_keptWarms r_i_imaged r_imagedWarms r_turns0 r_turnWarms0 r_turnOf r_turnWarms r_row0 r_gains r_pegSort r_pegMany r_pegHolds r_coats r_coatsMoved) H → va_D A (w_X7 y a r_airs r_sitters r_stepMany r_today r_taken r_isStill r_thrown r_letterMany r_at0_3 x6 r_statements r_stepsMany r_hasImage r_place0 r_isTaking r_keptIn r_turned r_rowMany r_seed r_warms r_shutAt r_kinds0 r_figures r_airAt r_ways r_crowned r_sitsAt r_shawls r_isOn r_stepOf r_stepBy r_refusals r_letters r_placeIn r_letterOf r_numbers r_stepsRead r_stepsBy r_kept r_keptWarms r_i_imaged r_imagedWarms r_turns0 r_turnWarms0 r_turnOf r_turnWarms r_row0 r_gains r_pegSort r_pegMany r_pegHolds r_coats r_coatsMoved) → va_S A s.heap H locs → ∀ ls : Array Slot, lv_has ls 4 [(0, .ref (a 0)), (1, .int n0), (3, .int x2)] → W p l e ({ frames := 1, cells := 0, slots := 0, locals := 25 } : Room) s m [.ref (a 0), .int n0].toArray below meth c H locs 0 0 (MQ below (dQ D y (some (.int z0)) s.heap.size (w_X7 y a r_airs r_sitters r_stepMany r_today r_taken r_isStill r_thrown r_letterMany r_at0 r_isBad r_statements r_stepsMany r_hasImage r_place0 r_isTaking r_keptIn r_turned r_rowMany r_seed r_warms r_shutAt r_kinds0 r_figures r_airAt r_ways r_crowned r_sitsAt r_shawls r_isOn r_stepOf r_stepBy r_refusals r_letters r_placeIn r_letterOf r_numbers r_stepsRead r_stepsBy r_kept r_keptWarms r_i_imaged r_imagedWarms r_turns0 r_turnWarms0 r_turnOf r_turnWarms r_row0 r_gains r_pegSort r_pegMany r_pegHolds r_coats r_coatsMoved) (w_X7 y a r_airs r_sitters r_stepMany r_today r_taken r_isStill r_thrown r_letterMany z1 z2 r_statements r_stepsMany r_hasImage r_place0 r_isTaking r_keptIn r_turned r_rowMany r_seed r_warms r_shutAt r_kinds0 r_figures r_airAt r_ways r_crowned r_sitsAt r_shawls r_isOn r_stepOf r_stepBy r_refusals r_letters r_placeIn r_letterOf r_numbers r_stepsRead r_stepsBy r_kept r_keptWarms r_i_imaged r_imagedWarms r_turns0 r_turnWarms0 r_turnOf r_turnWarms r_row0 r_gains r_pegSort r_pegMany r_pegHolds r_coats r_coatsMoved)) [.ref (a 0), .int n0].toArray s 0 0 A) (F0 m 70 ls [.int x8]) := by
            intro x8 hf H locs hP hD hS ls hl
            unfold f_X7_readDigits_b70 at hf
            refine lv_istore_n (lv' := [(2, .int x8), (0, .ref (a 0)), (1, .int n0), (3, .int x2)]) hx hb dX7_readDigits_70 rfl hl (by decide) rfl (fun ls hl => ?_)
            refine lv_aload_n hx hb dX7_readDigits_71 rfl (lv_at hl 1 rfl) ?_
            refine lv_dup hx hb dX7_readDigits_72 rfl ?_
            refine va_get (D := D) (ci := 6) (v := .int r_at0_3) (C := RX7) (T := TX7) (N := 53) hx hb hts iwX7 hown hK hP 0 rfl rfl 22 (by decide) (hts _ wl_358) (fun _ h9 => h9) rfl dX7_readDigits_73 ?_
            refine lv_aload_n hx hb dX7_readDigits_76 rfl (lv_at hl 1 rfl) ?_
            refine va_get (D := D) (ci := 6) (v := .int x6) (C := RX7) (T := TX7) (N := 53) hx hb hts iwX7 hown hK hP 0 rfl rfl 23 (by decide) (hts _ wl_359) (fun _ h9 => h9) rfl dX7_readDigits_77 ?_
            refine lv_if_eq (tgt := 87) hx hb dX7_readDigits_80 (by decide) (fun c9 => ?_) (fun c9 => ?_)
            · have hf := dq_t hf c9
              clear c9
              refine lv_iconst (v := 1) hx hb dX7_readDigits_87 (by decide) ?_
              refine lv_iadd hx hb dX7_readDigits_88 ?_
              refine lv_topi (fun x10 ex10 => ?_)
              have hf := dq_l hf x10 ex10
              clear ex10
              refine va_put (D := D) (ci := 6) (v := .int x10) (ty := .int) (C := RX7) (T := TX7) (N := 53) hx hb hts iwX7 tyX7 tyX7_ok nmX7 hown hK hP hD hS 0 rfl rfl 22 (by decide) (hts _ wl_358) (fun _ h9 => h9) rfl (tyX7_ok 22 (by decide)) rfl rfl (Nat.le_of_ble_eq_true rfl) dX7_readDigits_89 (fun H locs hP hD hS => ?_)
              have hP : va_P D vwCl (w_X7 y a r_airs r_sitters r_stepMany r_today r_taken r_isStill r_thrown r_letterMany x10 x6 r_statements r_stepsMany r_hasImage r_place0 r_isTaking r_keptIn r_turned r_rowMany r_seed r_warms r_shutAt r_kinds0 r_figures r_airAt r_ways r_crowned r_sitsAt r_shawls r_isOn r_stepOf r_stepBy r_refusals r_letters r_placeIn r_letterOf r_numbers r_stepsRead r_stepsBy r_kept r_keptWarms r_i_imaged r_imagedWarms r_turns0 r_turnWarms0 r_turnOf r_turnWarms r_row0 r_gains r_pegSort r_pegMany r_pegHolds r_coats r_coatsMoved) H := hP
              have hD : va_D A (w_X7 y a r_airs r_sitters r_stepMany r_today r_taken r_isStill r_thrown r_letterMany x10 x6 r_statements r_stepsMany r_hasImage r_place0 r_isTaking r_keptIn r_turned r_rowMany r_seed r_warms r_shutAt r_kinds0 r_figures r_airAt r_ways r_crowned r_sitsAt r_shawls r_isOn r_stepOf r_stepBy r_refusals r_letters r_placeIn r_letterOf r_numbers r_stepsRead r_stepsBy r_kept r_keptWarms r_i_imaged r_imagedWarms r_turns0 r_turnWarms0 r_turnOf r_turnWarms r_row0 r_gains r_pegSort r_pegMany r_pegHolds r_coats r_coatsMoved) := hD
              obtain ⟨x11, ex11⟩ : ∃ z : Int32, z = (x2 + (1 : Int32)) := ⟨_, rfl⟩
              have hf := dq_l hf x11 ex11
              refine lv_iinc (v := x11) (lv' := [(3, .int x11), (2, .int x8), (0, .ref (a 0)), (1, .int n0)]) hx hb dX7_readDigits_92 hl (k := 3) rfl (by rw [ex11]; rfl) (by decide) rfl (fun ls hl => ?_)
              clear ex11
              refine lv_goto (tgt := 4) hx hb dX7_readDigits_95 (by decide) ?_
              exact I4 _ _ _ _ hf _ _ hP hD hS _ (lv_sub hl [2, 3, 1, 0] rfl)
            · have hf := dq_f hf c9
              clear c9
              refine lv_iconst (v := 0) hx hb dX7_readDigits_83 (by decide) ?_
              refine lv_goto (tgt := 88) hx hb dX7_readDigits_84 (by decide) ?_
              refine lv_iadd hx hb dX7_readDigits_88 ?_
              refine lv_topi (fun x12 ex12 => ?_)
              have hf := dq_l hf x12 ex12
              clear ex12
              refine va_put (D := D) (ci := 6) (v := .int x12) (ty := .int) (C := RX7) (T := TX7) (N := 53) hx hb hts iwX7 tyX7 tyX7_ok nmX7 hown hK hP hD hS 0 rfl rfl 22 (by decide) (hts _ wl_358) (fun _ h9 => h9) rfl (tyX7_ok 22 (by decide)) rfl rfl (Nat.le_of_ble_eq_true rfl) dX7_readDigits_89 (fun H locs hP hD hS => ?_)
              have hP : va_P D vwCl (w_X7 y a r_airs r_sitters r_stepMany r_today r_taken r_isStill r_thrown r_letterMany x12 x6 r_statements r_stepsMany r_hasImage r_place0 r_isTaking r_keptIn r_turned r_rowMany r_seed r_warms r_shutAt r_kinds0 r_figures r_airAt r_ways r_crowned r_sitsAt r_shawls r_isOn r_stepOf r_stepBy r_refusals r_letters r_placeIn r_letterOf r_numbers r_stepsRead r_stepsBy r_kept r_keptWarms r_i_imaged r_imagedWarms r_turns0 r_turnWarms0 r_turnOf r_turnWarms r_row0 r_gains r_pegSort r_pegMany r_pegHolds r_coats r_coatsMoved) H := hP
              have hD : va_D A (w_X7 y a r_airs r_sitters r_stepMany r_today r_taken r_isStill r_thrown r_letterMany x12 x6 r_statements r_stepsMany r_hasImage r_place0 r_isTaking r_keptIn r_turned r_rowMany r_seed r_warms r_shutAt r_kinds0 r_figures r_airAt r_ways r_crowned r_sitsAt r_shawls r_isOn r_stepOf r_stepBy r_refusals r_letters r_placeIn r_letterOf r_numbers r_stepsRead r_stepsBy r_kept r_keptWarms r_i_imaged r_imagedWarms r_turns0 r_turnWarms0 r_turnOf r_turnWarms r_row0 r_gains r_pegSort r_pegMany r_pegHolds r_coats r_coatsMoved) := hD
              obtain ⟨x13, ex13⟩ : ∃ z : Int32, z = (x2 + (1 : Int32)) := ⟨_, rfl⟩
              have hf := dq_l hf x13 ex13
              refine lv_iinc (v := x13) (lv' := [(3, .int x13), (2, .int x8), (0, .ref (a 0)), (1, .int n0)]) hx hb dX7_readDigits_92 hl (k := 3) rfl (by rw [ex13]; rfl) (by decide) rfl (fun ls hl => ?_)
              clear ex13
              refine lv_goto (tgt := 4) hx hb dX7_readDigits_95 (by decide) ?_
              exact I4 _ _ _ _ hf _ _ hP hD hS _ (lv_sub hl [2, 3, 1, 0] rfl)
          refine lv_if_eq (tgt := 53) hx hb dX7_readDigits_46 (by decide) (fun c14 => ?_) (fun c14 => ?_)
          · have hf := dq_t hf c14
            clear c14
            refine lv_bipush (v := 10) hx hb dX7_readDigits_53 (by decide) ?_
            refine lv_iload_n hx hb dX7_readDigits_55 rfl (lv_at hl 2 rfl) ?_
            refine lv_imul hx hb dX7_readDigits_56 ?_
            refine lv_aload_n hx hb dX7_readDigits_57 rfl (lv_at hl 0 rfl) ?_
            refine va_get (D := D) (ci := 6) (v := .ref (a 14)) (C := RX7) (T := TX7) (N := 53) hx hb hts iwX7 hown hK hP 0 rfl rfl 20 (by decide) (hts _ wl_94) (fun _ h9 => h9) rfl dX7_readDigits_58 ?_
            refine lv_aload_n hx hb dX7_readDigits_61 rfl (lv_at hl 0 rfl) ?_
            refine va_get (D := D) (ci := 6) (v := .int r_at0_3) (C := RX7) (T := TX7) (N := 53) hx hb hts iwX7 hown hK hP 0 rfl rfl 22 (by decide) (hts _ wl_358) (fun _ h9 => h9) rfl dX7_readDigits_62 ?_
            obtain ⟨h15, hf⟩ := dq_g hf
            refine va_iald (cA := y 1) (n := 96) (f := r_letters) hx hb hK hP 14 1 rfl rfl h15 dX7_readDigits_65 ?_
            refine lv_iadd hx hb dX7_readDigits_66 ?_
            refine lv_bipush (v := 48) hx hb dX7_readDigits_67 (by decide) ?_
            refine lv_isub hx hb dX7_readDigits_69 ?_
            exact J70 _ hf _ _ hP hD hS _ (lv_sub hl [0, 1, 3] rfl)
          · have hf := dq_f hf c14
            clear c14
            refine lv_iconst (v := 0) hx hb dX7_readDigits_49 (by decide) ?_
            refine lv_goto (tgt := 70) hx hb dX7_readDigits_50 (by decide) ?_
            exact J70 _ hf _ _ hP hD hS _ (lv_sub hl [0, 1, 3] rfl)
        refine lv_if_ne (tgt := 34) hx hb dX7_readDigits_14 (by decide) (fun c16 => ?_) (fun c16 => ?_)
        · have hf := dq_f hf c16
          clear c16
          refine lv_iconst (v := 1) hx hb dX7_readDigits_34 (by decide) ?_
          refine lv_goto (tgt := 39) hx hb dX7_readDigits_35 (by decide) ?_
          exact J39 _ hf _ _ hP hD hS _ (lv_sub hl [0, 1, 2, 3] rfl)
        · have hf := dq_t hf c16
          clear c16
          refine lv_aload_n hx hb dX7_readDigits_17 rfl (lv_at hl 0 rfl) ?_
          obtain ⟨x17, hy18, hf⟩ := dq_b hf
          refine ct_callV0 (ci := 6) (q0 := 0) (own := RX7) (As := []) (rest := [.ref (a 0)]) (ws' := (w_X7 y a r_airs r_sitters r_stepMany r_today r_taken r_isStill r_thrown r_letterMany r_at0_3 r_isBad_4 r_statements r_stepsMany r_hasImage r_place0 r_isTaking r_keptIn r_turned r_rowMany r_seed r_warms r_shutAt r_kinds0 r_figures r_airAt r_ways r_crowned r_sitsAt r_shawls r_isOn r_stepOf r_stepBy r_refusals r_letters r_placeIn r_letterOf r_numbers r_stepsRead r_stepsBy r_kept r_keptWarms r_i_imaged r_imagedWarms r_turns0 r_turnWarms0 r_turnOf r_turnWarms r_row0 r_gains r_pegSort r_pegMany r_pegHolds r_coats r_coatsMoved)) ⟨hx, hb, hml, hown, hts⟩ (m_X7_here l D y a r_airs r_sitters r_stepMany r_today r_taken r_isStill r_thrown r_letterMany r_at0_3 r_isBad_4 r_statements r_stepsMany r_hasImage r_place0 r_isTaking r_keptIn r_turned r_rowMany r_seed r_warms r_shutAt r_kinds0 r_figures r_airAt r_ways r_crowned r_sitsAt r_shawls r_isOn r_stepOf r_stepBy r_refusals r_letters r_placeIn r_letterOf r_numbers r_stepsRead r_stepsBy r_kept r_keptWarms r_i_imaged r_imagedWarms r_turns0 r_turnWarms0 r_turnOf r_turnWarms r_row0 r_gains r_pegSort r_pegMany r_pegHolds r_coats r_coatsMoved x17 hy18) (cwV 0 hts (gA_V wl_367 wl_368 wl_369 wl_5 wl_370) rfl rfl rfl (by decide +kernel) ⟨Nat.le_of_ble_eq_true rfl, Nat.le_of_ble_eq_true rfl⟩) rfl rfl rfl hl.1 rfl (Nat.le_of_ble_eq_true rfl) dX7_readDigits_18 ⟨Nat.zero_le _, Nat.zero_le _⟩ hK hP hD hS hA (fun H locs hP hD hS => ?_)
          refine lv_i2l hx hb dX7_readDigits_21 rfl ?_
          refine lv_ldc2 hx hb hown (hts _ wl_389) dX7_readDigits_22 ?_
          refine lv_ldc2 hx hb hown (hts _ wl_390) dX7_readDigits_25 ?_
          obtain ⟨x19, hy20, hf⟩ := dq_b hf
          refine ct_callS0 (own := RX7) (As := [.long x17.toInt64, .long (48 : Int64), .long (57 : Int64)]) (rest := [.ref (a 0)]) ⟨hx, hb, hml, hown, hts⟩ (m_X7_in l D y x17.toInt64 (48 : Int64) (57 : Int64) x19 hy20) (va_cwS 3 hts (gA_S wl_391 wl_392 wl_5 wl_393) rfl rfl rfl (by decide +kernel) ⟨Nat.le_of_ble_eq_true rfl, Nat.le_of_ble_eq_true rfl⟩) rfl hl.1 rfl (Nat.le_of_ble_eq_true rfl) dX7_readDigits_28 ⟨Nat.zero_le _, Nat.zero_le _⟩ hK hP hD hS hA (fun H locs hP hD hS => ?_)
          refine lv_if_ne (tgt := 38) hx hb dX7_readDigits_31 (by decide) (fun c21 => ?_) (fun c21 => ?_)
          · have hf := dq_f hf c21
            clear c21
            refine lv_iconst (v := 0) hx hb dX7_readDigits_38 (by decide) ?_
            exact J39 _ hf _ _ hP hD hS _ (lv_sub hl [0, 1, 2, 3] rfl)
          · have hf := dq_t hf c21
            clear c21
            refine lv_iconst (v := 1) hx hb dX7_readDigits_34 (by decide) ?_
            refine lv_goto (tgt := 39) hx hb dX7_readDigits_35 (by decide) ?_
            exact J39 _ hf _ _ hP hD hS _ (lv_sub hl [0, 1, 2, 3] rfl)
  exact J4 4096 _ _ _ _ hf _ _ hP hD hS _ (lv_sub hl [2, 3, 1, 0] rfl)
noncomputable def f_X7_isLetter (n0 : Int32) : Option Int32 := dq_if (n0 = (97 : Int32)) (some (1 : Int32)) (dq_if (n0 = (112 : Int32)) (some (1 : Int32)) (dq_if (n0 = (100 : Int32)) (some (1 : Int32)) (dq_if (n0 = (119 : Int32)) (some (1 : Int32)) (dq_if (n0 = (108 : Int32)) (some (1 : Int32)) (dq_if (n0 = (116 : Int32)) (some (1 : Int32)) (some (0 : Int32)))))))
def wA_X7_isLetter : List Cond := .code yX7_isLetter cX7_isLetter 1 (some .boolean) :: wsL_law
-- DraughtsTakeModel.isLetter(I)Z
set_option maxHeartbeats 4000000 in
set_option maxRecDepth 100000 in
theorem m_X7_isLetter (l : Launch) (D : va_G) (y : Nat → ClassId) (n0 : Int32) (z0 : Int32) (hf : f_X7_isLetter n0 = some z0) : Ct l D y yX7_isLetter wA_X7_isLetter 0 0 [.int n0] [] [] (some (.int z0)) := by
  refine ct_head (cc := cX7_isLetter) (n := 1) (ret := (some .boolean)) (by decide) rfl (Nat.le_of_ble_eq_true rfl) ?_
  intro p e s m below meth c A ls hx hb hr hml hown hlocks hts hA hAe hP hK hD hl
  have hS : va_S A s.heap s.heap [] := va_S.rf
  have hl : lv_has ls 1 [(0, .int n0)] := hl
  have hown : s.vm.findClass RX7 = some m.cls := hown
  have hts : ∀ w ∈ wsL_law, w.before [.int n0].toArray s = true := fun w h => hts w (List.mem_cons_of_mem _ h)
  unfold f_X7_isLetter at hf
  refine lv_iload_n hx hb dX7_isLetter_0 rfl (lv_at hl 0 rfl) ?_
  refine lv_bipush (v := 97) hx hb dX7_isLetter_1 (by decide) ?_
  refine lv_icmp_eq (tgt := 36) hx hb dX7_isLetter_3 (by decide) (fun c1 => ?_) (fun c1 => ?_)
  · have hf := dq_t hf c1
    clear c1
    refine lv_iconst (v := 1) hx hb dX7_isLetter_36 (by decide) ?_
    refine lv_goto (tgt := 41) hx hb dX7_isLetter_37 (by decide) ?_
    obtain rfl := dq_r1 hf
    exact ct_zret hx hb hr rfl hlocks hAe hP hK hD hS dX7_isLetter_41
  · have hf := dq_f hf c1
    clear c1
    refine lv_iload_n hx hb dX7_isLetter_6 rfl (lv_at hl 0 rfl) ?_
    refine lv_bipush (v := 112) hx hb dX7_isLetter_7 (by decide) ?_
    refine lv_icmp_eq (tgt := 36) hx hb dX7_isLetter_9 (by decide) (fun c2 => ?_) (fun c2 => ?_)
    · have hf := dq_t hf c2
      clear c2
      refine lv_iconst (v := 1) hx hb dX7_isLetter_36 (by decide) ?_
      refine lv_goto (tgt := 41) hx hb dX7_isLetter_37 (by decide) ?_
      obtain rfl := dq_r1 hf
      exact ct_zret hx hb hr rfl hlocks hAe hP hK hD hS dX7_isLetter_41
    · have hf := dq_f hf c2
      clear c2
      refine lv_iload_n hx hb dX7_isLetter_12 rfl (lv_at hl 0 rfl) ?_
      refine lv_bipush (v := 100) hx hb dX7_isLetter_13 (by decide) ?_
      refine lv_icmp_eq (tgt := 36) hx hb dX7_isLetter_15 (by decide) (fun c3 => ?_) (fun c3 => ?_)
      · have hf := dq_t hf c3
        clear c3
        refine lv_iconst (v := 1) hx hb dX7_isLetter_36 (by decide) ?_
        refine lv_goto (tgt := 41) hx hb dX7_isLetter_37 (by decide) ?_
        obtain rfl := dq_r1 hf
        exact ct_zret hx hb hr rfl hlocks hAe hP hK hD hS dX7_isLetter_41
      · have hf := dq_f hf c3
        clear c3
        refine lv_iload_n hx hb dX7_isLetter_18 rfl (lv_at hl 0 rfl) ?_
        refine lv_bipush (v := 119) hx hb dX7_isLetter_19 (by decide) ?_
        refine lv_icmp_eq (tgt := 36) hx hb dX7_isLetter_21 (by decide) (fun c4 => ?_) (fun c4 => ?_)
        · have hf := dq_t hf c4
          clear c4
          refine lv_iconst (v := 1) hx hb dX7_isLetter_36 (by decide) ?_
          refine lv_goto (tgt := 41) hx hb dX7_isLetter_37 (by decide) ?_
          obtain rfl := dq_r1 hf
          exact ct_zret hx hb hr rfl hlocks hAe hP hK hD hS dX7_isLetter_41
        · have hf := dq_f hf c4
          clear c4
          refine lv_iload_n hx hb dX7_isLetter_24 rfl (lv_at hl 0 rfl) ?_
          refine lv_bipush (v := 108) hx hb dX7_isLetter_25 (by decide) ?_
          refine lv_icmp_eq (tgt := 36) hx hb dX7_isLetter_27 (by decide) (fun c5 => ?_) (fun c5 => ?_)
          · have hf := dq_t hf c5
            clear c5
            refine lv_iconst (v := 1) hx hb dX7_isLetter_36 (by decide) ?_
            refine lv_goto (tgt := 41) hx hb dX7_isLetter_37 (by decide) ?_
            obtain rfl := dq_r1 hf
            exact ct_zret hx hb hr rfl hlocks hAe hP hK hD hS dX7_isLetter_41
          · have hf := dq_f hf c5
            clear c5
            refine lv_iload_n hx hb dX7_isLetter_30 rfl (lv_at hl 0 rfl) ?_
            refine lv_bipush (v := 116) hx hb dX7_isLetter_31 (by decide) ?_
            refine lv_icmp_ne (tgt := 40) hx hb dX7_isLetter_33 (by decide) (fun c6 => ?_) (fun c6 => ?_)
            · have hf := dq_f hf c6
              clear c6
              refine lv_iconst (v := 0) hx hb dX7_isLetter_40 (by decide) ?_
              obtain rfl := dq_r1 hf
              exact ct_zret hx hb hr rfl hlocks hAe hP hK hD hS dX7_isLetter_41
            · have hf := dq_t hf c6
              clear c6
              refine lv_iconst (v := 1) hx hb dX7_isLetter_36 (by decide) ?_
              refine lv_goto (tgt := 41) hx hb dX7_isLetter_37 (by decide) ?_
              obtain rfl := dq_r1 hf
              exact ct_zret hx hb hr rfl hlocks hAe hP hK hD hS dX7_isLetter_41
noncomputable def f_X7_stepBySign (n0 : Int32) : Option Int32 := dq_if (n0 = 97) (some (2 : Int32)) (dq_if (n0 = 98) (some (-1 : Int32)) (dq_if (n0 = 99) (some (6 : Int32)) (dq_if (n0 = 100) (some (-1 : Int32)) (dq_if (n0 = 101) (some (-1 : Int32)) (dq_if (n0 = 102) (some (-1 : Int32)) (dq_if (n0 = 103) (some (4 : Int32)) (dq_if (n0 = 104) (some (-1 : Int32)) (dq_if (n0 = 105) (some (-1 : Int32)) (dq_if (n0 = 106) (some (-1 : Int32)) (dq_if (n0 = 107) (some (-1 : Int32)) (dq_if (n0 = 108) (some (5 : Int32)) (dq_if (n0 = 109) (some (1 : Int32)) (dq_if (n0 = 110) (some (-1 : Int32)) (dq_if (n0 = 111) (some (-1 : Int32)) (dq_if (n0 = 112) (some (-1 : Int32)) (dq_if (n0 = 113) (some (-1 : Int32)) (dq_if (n0 = 114) (some (-1 : Int32)) (dq_if (n0 = 115) (some (3 : Int32)) (dq_if (n0 = 116) (some (0 : Int32)) (some (-1 : Int32)))))))))))))))))))))
def wA_X7_stepBySign : List Cond := .code yX7_stepBySign cX7_stepBySign 1 (some .int) :: wsL_law
-- DraughtsTakeModel.stepBySign(I)I
set_option maxHeartbeats 4000000 in
set_option maxRecDepth 100000 in
theorem m_X7_stepBySign (l : Launch) (D : va_G) (y : Nat → ClassId) (n0 : Int32) (z0 : Int32) (hf : f_X7_stepBySign n0 = some z0) : Ct l D y yX7_stepBySign wA_X7_stepBySign 0 0 [.int n0] [] [] (some (.int z0)) := by
  refine ct_head (cc := cX7_stepBySign) (n := 1) (ret := (some .int)) (by decide) rfl (Nat.le_of_ble_eq_true rfl) ?_
  intro p e s m below meth c A ls hx hb hr hml hown hlocks hts hA hAe hP hK hD hl
  have hS : va_S A s.heap s.heap [] := va_S.rf
  have hl : lv_has ls 1 [(0, .int n0)] := hl
  have hown : s.vm.findClass RX7 = some m.cls := hown
  have hts : ∀ w ∈ wsL_law, w.before [.int n0].toArray s = true := fun w h => hts w (List.mem_cons_of_mem _ h)
  unfold f_X7_stepBySign at hf
  refine lv_iload_n hx hb dX7_stepBySign_0 rfl (lv_at hl 0 rfl) ?_
  by_cases c1 : n0 = (97 : Int32)
  · have hf := dq_t hf c1
    refine lv_tableIn (tgt := 100) (off := 99) hx hb dX7_stepBySign_1 (by rw [c1]; decide) (by rw [c1]; decide) (by rw [c1]; decide) (by decide) ?_
    clear c1
    refine lv_iconst (v := 2) hx hb dX7_stepBySign_100 (by decide) ?_
    obtain rfl := dq_r1 hf
    exact ct_iret hx hb hr hlocks hAe hP hK hD hS dX7_stepBySign_101
  have hf := dq_f hf c1
  by_cases c2 : n0 = (98 : Int32)
  · have hf := dq_t hf c2
    refine lv_tableIn (tgt := 111) (off := 110) hx hb dX7_stepBySign_1 (by rw [c2]; decide) (by rw [c2]; decide) (by rw [c2]; decide) (by decide) ?_
    clear c1 c2
    refine lv_iconst (v := -1) hx hb dX7_stepBySign_111 (by decide) ?_
    obtain rfl := dq_r1 hf
    exact ct_iret hx hb hr hlocks hAe hP hK hD hS dX7_stepBySign_112
  have hf := dq_f hf c2
  by_cases c3 : n0 = (99 : Int32)
  · have hf := dq_t hf c3
    refine lv_tableIn (tgt := 108) (off := 107) hx hb dX7_stepBySign_1 (by rw [c3]; decide) (by rw [c3]; decide) (by rw [c3]; decide) (by decide) ?_
    clear c1 c2 c3
    refine lv_bipush (v := 6) hx hb dX7_stepBySign_108 (by decide) ?_
    obtain rfl := dq_r1 hf
    exact ct_iret hx hb hr hlocks hAe hP hK hD hS dX7_stepBySign_110
  have hf := dq_f hf c3
  by_cases c4 : n0 = (100 : Int32)
  · have hf := dq_t hf c4
    refine lv_tableIn (tgt := 111) (off := 110) hx hb dX7_stepBySign_1 (by rw [c4]; decide) (by rw [c4]; decide) (by rw [c4]; decide) (by decide) ?_
    clear c1 c2 c3 c4
    refine lv_iconst (v := -1) hx hb dX7_stepBySign_111 (by decide) ?_
    obtain rfl := dq_r1 hf
    exact ct_iret hx hb hr hlocks hAe hP hK hD hS dX7_stepBySign_112
  have hf := dq_f hf c4
  by_cases c5 : n0 = (101 : Int32)
  · have hf := dq_t hf c5
    refine lv_tableIn (tgt := 111) (off := 110) hx hb dX7_stepBySign_1 (by rw [c5]; decide) (by rw [c5]; decide) (by rw [c5]; decide) (by decide) ?_
    clear c1 c2 c3 c4 c5
    refine lv_iconst (v := -1) hx hb dX7_stepBySign_111 (by decide) ?_
    obtain rfl := dq_r1 hf
    exact ct_iret hx hb hr hlocks hAe hP hK hD hS dX7_stepBySign_112
  have hf := dq_f hf c5
  by_cases c6 : n0 = (102 : Int32)
  · have hf := dq_t hf c6
    refine lv_tableIn (tgt := 111) (off := 110) hx hb dX7_stepBySign_1 (by rw [c6]; decide) (by rw [c6]; decide) (by rw [c6]; decide) (by decide) ?_
    clear c1 c2 c3 c4 c5 c6
    refine lv_iconst (v := -1) hx hb dX7_stepBySign_111 (by decide) ?_
    obtain rfl := dq_r1 hf
    exact ct_iret hx hb hr hlocks hAe hP hK hD hS dX7_stepBySign_112
  have hf := dq_f hf c6
  by_cases c7 : n0 = (103 : Int32)
  · have hf := dq_t hf c7
    refine lv_tableIn (tgt := 104) (off := 103) hx hb dX7_stepBySign_1 (by rw [c7]; decide) (by rw [c7]; decide) (by rw [c7]; decide) (by decide) ?_
    clear c1 c2 c3 c4 c5 c6 c7
    refine lv_iconst (v := 4) hx hb dX7_stepBySign_104 (by decide) ?_
    obtain rfl := dq_r1 hf
    exact ct_iret hx hb hr hlocks hAe hP hK hD hS dX7_stepBySign_105
  have hf := dq_f hf c7
  by_cases c8 : n0 = (104 : Int32)
  · have hf := dq_t hf c8
    refine lv_tableIn (tgt := 111) (off := 110) hx hb dX7_stepBySign_1 (by rw [c8]; decide) (by rw [c8]; decide) (by rw [c8]; decide) (by decide) ?_
    clear c1 c2 c3 c4 c5 c6 c7 c8
    refine lv_iconst (v := -1) hx hb dX7_stepBySign_111 (by decide) ?_
    obtain rfl := dq_r1 hf
    exact ct_iret hx hb hr hlocks hAe hP hK hD hS dX7_stepBySign_112
  have hf := dq_f hf c8
  by_cases c9 : n0 = (105 : Int32)
  · have hf := dq_t hf c9
    refine lv_tableIn (tgt := 111) (off := 110) hx hb dX7_stepBySign_1 (by rw [c9]; decide) (by rw [c9]; decide) (by rw [c9]; decide) (by decide) ?_
    clear c1 c2 c3 c4 c5 c6 c7 c8 c9
    refine lv_iconst (v := -1) hx hb dX7_stepBySign_111 (by decide) ?_
    obtain rfl := dq_r1 hf
    exact ct_iret hx hb hr hlocks hAe hP hK hD hS dX7_stepBySign_112
  have hf := dq_f hf c9
  by_cases c10 : n0 = (106 : Int32)
  · have hf := dq_t hf c10
    refine lv_tableIn (tgt := 111) (off := 110) hx hb dX7_stepBySign_1 (by rw [c10]; decide) (by rw [c10]; decide) (by rw [c10]; decide) (by decide) ?_
    clear c1 c2 c3 c4 c5 c6 c7 c8 c9 c10
    refine lv_iconst (v := -1) hx hb dX7_stepBySign_111 (by decide) ?_
    obtain rfl := dq_r1 hf
    exact ct_iret hx hb hr hlocks hAe hP hK hD hS dX7_stepBySign_112
  have hf := dq_f hf c10
  by_cases c11 : n0 = (107 : Int32)
  · have hf := dq_t hf c11
    refine lv_tableIn (tgt := 111) (off := 110) hx hb dX7_stepBySign_1 (by rw [c11]; decide) (by rw [c11]; decide) (by rw [c11]; decide) (by decide) ?_
    clear c1 c2 c3 c4 c5 c6 c7 c8 c9 c10 c11
    refine lv_iconst (v := -1) hx hb dX7_stepBySign_111 (by decide) ?_
    obtain rfl := dq_r1 hf
    exact ct_iret hx hb hr hlocks hAe hP hK hD hS dX7_stepBySign_112
  have hf := dq_f hf c11
  by_cases c12 : n0 = (108 : Int32)
  · have hf := dq_t hf c12
    refine lv_tableIn (tgt := 106) (off := 105) hx hb dX7_stepBySign_1 (by rw [c12]; decide) (by rw [c12]; decide) (by rw [c12]; decide) (by decide) ?_
    clear c1 c2 c3 c4 c5 c6 c7 c8 c9 c10 c11 c12
    refine lv_iconst (v := 5) hx hb dX7_stepBySign_106 (by decide) ?_
    obtain rfl := dq_r1 hf
    exact ct_iret hx hb hr hlocks hAe hP hK hD hS dX7_stepBySign_107
  have hf := dq_f hf c12
  by_cases c13 : n0 = (109 : Int32)
  · have hf := dq_t hf c13
    refine lv_tableIn (tgt := 98) (off := 97) hx hb dX7_stepBySign_1 (by rw [c13]; decide) (by rw [c13]; decide) (by rw [c13]; decide) (by decide) ?_
    clear c1 c2 c3 c4 c5 c6 c7 c8 c9 c10 c11 c12 c13
    refine lv_iconst (v := 1) hx hb dX7_stepBySign_98 (by decide) ?_
    obtain rfl := dq_r1 hf
    exact ct_iret hx hb hr hlocks hAe hP hK hD hS dX7_stepBySign_99
  have hf := dq_f hf c13
  by_cases c14 : n0 = (110 : Int32)
  · have hf := dq_t hf c14
    refine lv_tableIn (tgt := 111) (off := 110) hx hb dX7_stepBySign_1 (by rw [c14]; decide) (by rw [c14]; decide) (by rw [c14]; decide) (by decide) ?_
    clear c1 c2 c3 c4 c5 c6 c7 c8 c9 c10 c11 c12 c13 c14
    refine lv_iconst (v := -1) hx hb dX7_stepBySign_111 (by decide) ?_
    obtain rfl := dq_r1 hf
    exact ct_iret hx hb hr hlocks hAe hP hK hD hS dX7_stepBySign_112
  have hf := dq_f hf c14
  by_cases c15 : n0 = (111 : Int32)
  · have hf := dq_t hf c15
    refine lv_tableIn (tgt := 111) (off := 110) hx hb dX7_stepBySign_1 (by rw [c15]; decide) (by rw [c15]; decide) (by rw [c15]; decide) (by decide) ?_
    clear c1 c2 c3 c4 c5 c6 c7 c8 c9 c10 c11 c12 c13 c14 c15
    refine lv_iconst (v := -1) hx hb dX7_stepBySign_111 (by decide) ?_
    obtain rfl := dq_r1 hf
    exact ct_iret hx hb hr hlocks hAe hP hK hD hS dX7_stepBySign_112
  have hf := dq_f hf c15
  by_cases c16 : n0 = (112 : Int32)
  · have hf := dq_t hf c16
    refine lv_tableIn (tgt := 111) (off := 110) hx hb dX7_stepBySign_1 (by rw [c16]; decide) (by rw [c16]; decide) (by rw [c16]; decide) (by decide) ?_
    clear c1 c2 c3 c4 c5 c6 c7 c8 c9 c10 c11 c12 c13 c14 c15 c16
    refine lv_iconst (v := -1) hx hb dX7_stepBySign_111 (by decide) ?_
    obtain rfl := dq_r1 hf
    exact ct_iret hx hb hr hlocks hAe hP hK hD hS dX7_stepBySign_112
  have hf := dq_f hf c16
  by_cases c17 : n0 = (113 : Int32)
  · have hf := dq_t hf c17
    refine lv_tableIn (tgt := 111) (off := 110) hx hb dX7_stepBySign_1 (by rw [c17]; decide) (by rw [c17]; decide) (by rw [c17]; decide) (by decide) ?_
    clear c1 c2 c3 c4 c5 c6 c7 c8 c9 c10 c11 c12 c13 c14 c15 c16 c17
    refine lv_iconst (v := -1) hx hb dX7_stepBySign_111 (by decide) ?_
    obtain rfl := dq_r1 hf
    exact ct_iret hx hb hr hlocks hAe hP hK hD hS dX7_stepBySign_112
  have hf := dq_f hf c17
  by_cases c18 : n0 = (114 : Int32)
  · have hf := dq_t hf c18
    refine lv_tableIn (tgt := 111) (off := 110) hx hb dX7_stepBySign_1 (by rw [c18]; decide) (by rw [c18]; decide) (by rw [c18]; decide) (by decide) ?_
    clear c1 c2 c3 c4 c5 c6 c7 c8 c9 c10 c11 c12 c13 c14 c15 c16 c17 c18
    refine lv_iconst (v := -1) hx hb dX7_stepBySign_111 (by decide) ?_
    obtain rfl := dq_r1 hf
    exact ct_iret hx hb hr hlocks hAe hP hK hD hS dX7_stepBySign_112
  have hf := dq_f hf c18
  by_cases c19 : n0 = (115 : Int32)
  · have hf := dq_t hf c19
    refine lv_tableIn (tgt := 102) (off := 101) hx hb dX7_stepBySign_1 (by rw [c19]; decide) (by rw [c19]; decide) (by rw [c19]; decide) (by decide) ?_
    clear c1 c2 c3 c4 c5 c6 c7 c8 c9 c10 c11 c12 c13 c14 c15 c16 c17 c18 c19
    refine lv_iconst (v := 3) hx hb dX7_stepBySign_102 (by decide) ?_
    obtain rfl := dq_r1 hf
    exact ct_iret hx hb hr hlocks hAe hP hK hD hS dX7_stepBySign_103
  have hf := dq_f hf c19
  by_cases c20 : n0 = (116 : Int32)
  · have hf := dq_t hf c20
    refine lv_tableIn (tgt := 96) (off := 95) hx hb dX7_stepBySign_1 (by rw [c20]; decide) (by rw [c20]; decide) (by rw [c20]; decide) (by decide) ?_
    clear c1 c2 c3 c4 c5 c6 c7 c8 c9 c10 c11 c12 c13 c14 c15 c16 c17 c18 c19 c20
    refine lv_iconst (v := 0) hx hb dX7_stepBySign_96 (by decide) ?_
    obtain rfl := dq_r1 hf
    exact ct_iret hx hb hr hlocks hAe hP hK hD hS dX7_stepBySign_97
  have hf := dq_f hf c20
  have c1 : n0.toInt ≠ 97 := fun q => c1 (Int32.toInt_inj.mp q)
  have c2 : n0.toInt ≠ 98 := fun q => c2 (Int32.toInt_inj.mp q)
  have c3 : n0.toInt ≠ 99 := fun q => c3 (Int32.toInt_inj.mp q)
  have c4 : n0.toInt ≠ 100 := fun q => c4 (Int32.toInt_inj.mp q)
  have c5 : n0.toInt ≠ 101 := fun q => c5 (Int32.toInt_inj.mp q)
  have c6 : n0.toInt ≠ 102 := fun q => c6 (Int32.toInt_inj.mp q)
  have c7 : n0.toInt ≠ 103 := fun q => c7 (Int32.toInt_inj.mp q)
  have c8 : n0.toInt ≠ 104 := fun q => c8 (Int32.toInt_inj.mp q)
  have c9 : n0.toInt ≠ 105 := fun q => c9 (Int32.toInt_inj.mp q)
  have c10 : n0.toInt ≠ 106 := fun q => c10 (Int32.toInt_inj.mp q)
  have c11 : n0.toInt ≠ 107 := fun q => c11 (Int32.toInt_inj.mp q)
  have c12 : n0.toInt ≠ 108 := fun q => c12 (Int32.toInt_inj.mp q)
  have c13 : n0.toInt ≠ 109 := fun q => c13 (Int32.toInt_inj.mp q)
  have c14 : n0.toInt ≠ 110 := fun q => c14 (Int32.toInt_inj.mp q)
  have c15 : n0.toInt ≠ 111 := fun q => c15 (Int32.toInt_inj.mp q)
  have c16 : n0.toInt ≠ 112 := fun q => c16 (Int32.toInt_inj.mp q)
  have c17 : n0.toInt ≠ 113 := fun q => c17 (Int32.toInt_inj.mp q)
  have c18 : n0.toInt ≠ 114 := fun q => c18 (Int32.toInt_inj.mp q)
  have c19 : n0.toInt ≠ 115 := fun q => c19 (Int32.toInt_inj.mp q)
  have c20 : n0.toInt ≠ 116 := fun q => c20 (Int32.toInt_inj.mp q)
  refine lv_tableOut (tgt := 111) hx hb dX7_stepBySign_1 (by omega) (by decide) ?_
  clear c1 c2 c3 c4 c5 c6 c7 c8 c9 c10 c11 c12 c13 c14 c15 c16 c17 c18 c19 c20
  refine lv_iconst (v := -1) hx hb dX7_stepBySign_111 (by decide) ?_
  obtain rfl := dq_r1 hf
  exact ct_iret hx hb hr hlocks hAe hP hK hD hS dX7_stepBySign_112
