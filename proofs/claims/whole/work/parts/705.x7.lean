noncomputable def f_X7_goTurns_b2 (n0 : Int32) (r_airs : Int32) (r_sitters : Int32) (r_stepMany : Int32) (r_isStill : Int32) (r_shutAt : (Nat → Int32)) (r_kinds0 : (Nat → Int32)) (r_figures : (Nat → Int32)) (r_sitsAt : (Nat → Int32)) (r_stepOf : (Nat → Int32)) (r_stepBy : (Nat → Int32))  : Nat → Int32 → Int32 → Int32 → (Nat → UInt32) → (Nat → Int32) → (Nat → Int32) → (Nat → Int32) → (Nat → Int32) → (Nat → Int32) → Option (Int32 × Int32 × (Nat → UInt32) × (Nat → Int32) × (Nat → Int32) × (Nat → Int32) × (Nat → Int32) × (Nat → Int32))
  | 0, _, _, _, _, _, _, _, _, _ => none
  | m2 + 1, x1, r_today_2, r_taken_3, r_warms_4, r_airAt_5, r_ways_6, r_crowned_7, r_shawls_8, r_isOn_9 => dq_if (n0 ≤ x1) (some (r_today_2, r_taken_3, r_warms_4, r_airAt_5, r_ways_6, r_crowned_7, r_shawls_8, r_isOn_9)) (dq_bd8 (f_X7_turnOn r_airs r_sitters r_stepMany r_today_2 r_taken_3 r_isStill r_warms_4 r_shutAt r_kinds0 r_figures r_airAt_5 r_ways_6 r_crowned_7 r_sitsAt r_shawls_8 r_isOn_9 r_stepOf r_stepBy) (fun (r_today_11 : Int32) (r_taken_12 : Int32) (r_warms_13 : (Nat → UInt32)) (r_airAt_14 : (Nat → Int32)) (r_ways_15 : (Nat → Int32)) (r_crowned_16 : (Nat → Int32)) (r_shawls_17 : (Nat → Int32)) (r_isOn_18 : (Nat → Int32)) => dq_let (x1 + (1 : Int32)) (fun (x20 : Int32) => (f_X7_goTurns_b2 n0 r_airs r_sitters r_stepMany r_isStill r_shutAt r_kinds0 r_figures r_sitsAt r_stepOf r_stepBy m2) x20 r_today_11 r_taken_12 r_warms_13 r_airAt_14 r_ways_15 r_crowned_16 r_shawls_17 r_isOn_18)))
noncomputable def f_X7_goTurns (r_airs : Int32) (r_sitters : Int32) (r_stepMany : Int32) (r_today : Int32) (r_taken : Int32) (r_isStill : Int32) (r_warms : (Nat → UInt32)) (r_shutAt : (Nat → Int32)) (r_kinds0 : (Nat → Int32)) (r_figures : (Nat → Int32)) (r_airAt : (Nat → Int32)) (r_ways : (Nat → Int32)) (r_crowned : (Nat → Int32)) (r_sitsAt : (Nat → Int32)) (r_shawls : (Nat → Int32)) (r_isOn : (Nat → Int32)) (r_stepOf : (Nat → Int32)) (r_stepBy : (Nat → Int32)) (n0 : Int32) : Option (Int32 × Int32 × (Nat → UInt32) × (Nat → Int32) × (Nat → Int32) × (Nat → Int32) × (Nat → Int32) × (Nat → Int32)) := f_X7_goTurns_b2 n0 r_airs r_sitters r_stepMany r_isStill r_shutAt r_kinds0 r_figures r_sitsAt r_stepOf r_stepBy 4096 (0 : Int32) r_today r_taken r_warms r_airAt r_ways r_crowned r_shawls r_isOn
def wA_X7_goTurns : List Cond := .code yX7_goTurns cX7_goTurns 3 none :: wsL_law
-- DraughtsTakeModel.goTurns(I)V
set_option maxHeartbeats 4000000 in
set_option maxRecDepth 100000 in
theorem m_X7_goTurns (l : Launch) (D : va_G) (y : Nat → ClassId) (a : (Nat → Nat)) (r_airs : Int32) (r_sitters : Int32) (r_stepMany : Int32) (r_today : Int32) (r_taken : Int32) (r_isStill : Int32) (r_thrown : Int32) (r_letterMany : Int32) (r_at0 : Int32) (r_isBad : Int32) (r_statements : Int32) (r_stepsMany : Int32) (r_hasImage : Int32) (r_place0 : Int32) (r_isTaking : Int32) (r_keptIn : Value) (r_turned : Int32) (r_rowMany : Int32) (r_seed : Int32) (r_warms : (Nat → UInt32)) (r_shutAt : (Nat → Int32)) (r_kinds0 : (Nat → Int32)) (r_figures : (Nat → Int32)) (r_airAt : (Nat → Int32)) (r_ways : (Nat → Int32)) (r_crowned : (Nat → Int32)) (r_sitsAt : (Nat → Int32)) (r_shawls : (Nat → Int32)) (r_isOn : (Nat → Int32)) (r_stepOf : (Nat → Int32)) (r_stepBy : (Nat → Int32)) (r_refusals : (Nat → Int32)) (r_letters : (Nat → Int32)) (r_placeIn : (Nat → Int32)) (r_letterOf : (Nat → Int32)) (r_numbers : (Nat → Int32)) (r_stepsRead : (Nat → Int32)) (r_stepsBy : (Nat → Int32)) (r_kept : (Nat → Int32)) (r_keptWarms : (Nat → UInt32)) (r_i_imaged : (Nat → Int32)) (r_imagedWarms : (Nat → UInt32)) (r_turns0 : (Nat → Int32)) (r_turnWarms0 : (Nat → UInt32)) (r_turnOf : (Nat → Int32)) (r_turnWarms : (Nat → UInt32)) (r_row0 : (Nat → Int32)) (r_gains : (Nat → Int32)) (r_pegSort : (Nat → Int32)) (r_pegMany : (Nat → Int32)) (r_pegHolds : (Nat → Int32)) (r_coats : (Nat → Int32)) (r_coatsMoved : (Nat → Int32)) (n0 : Int32) (z0 : Int32) (z1 : Int32) (z2 : (Nat → UInt32)) (z3 : (Nat → Int32)) (z4 : (Nat → Int32)) (z5 : (Nat → Int32)) (z6 : (Nat → Int32)) (z7 : (Nat → Int32)) (hf : f_X7_goTurns r_airs r_sitters r_stepMany r_today r_taken r_isStill r_warms r_shutAt r_kinds0 r_figures r_airAt r_ways r_crowned r_sitsAt r_shawls r_isOn r_stepOf r_stepBy n0 = some (z0, z1, z2, z3, z4, z5, z6, z7)) : Ct l D y yX7_goTurns wA_X7_goTurns 6 145 [.ref (a 0), .int n0] (w_X7 y a r_airs r_sitters r_stepMany r_today r_taken r_isStill r_thrown r_letterMany r_at0 r_isBad r_statements r_stepsMany r_hasImage r_place0 r_isTaking r_keptIn r_turned r_rowMany r_seed r_warms r_shutAt r_kinds0 r_figures r_airAt r_ways r_crowned r_sitsAt r_shawls r_isOn r_stepOf r_stepBy r_refusals r_letters r_placeIn r_letterOf r_numbers r_stepsRead r_stepsBy r_kept r_keptWarms r_i_imaged r_imagedWarms r_turns0 r_turnWarms0 r_turnOf r_turnWarms r_row0 r_gains r_pegSort r_pegMany r_pegHolds r_coats r_coatsMoved) (w_X7 y a r_airs r_sitters r_stepMany z0 z1 r_isStill r_thrown r_letterMany r_at0 r_isBad r_statements r_stepsMany r_hasImage r_place0 r_isTaking r_keptIn r_turned r_rowMany r_seed z2 r_shutAt r_kinds0 r_figures z3 z4 z5 r_sitsAt z6 z7 r_stepOf r_stepBy r_refusals r_letters r_placeIn r_letterOf r_numbers r_stepsRead r_stepsBy r_kept r_keptWarms r_i_imaged r_imagedWarms r_turns0 r_turnWarms0 r_turnOf r_turnWarms r_row0 r_gains r_pegSort r_pegMany r_pegHolds r_coats r_coatsMoved) none := by
  refine ct_head (cc := cX7_goTurns) (n := 3) (ret := none) (by decide) rfl (Nat.le_of_ble_eq_true rfl) ?_
  intro p e s m below meth c A ls hx hb hr hml hown hlocks hts hA hAe hP hK hD hl
  have hS : va_S A s.heap s.heap [] := va_S.rf
  have hl : lv_has ls 3 [(0, .ref (a 0)), (1, .int n0)] := hl
  have hown : s.vm.findClass RX7 = some m.cls := hown
  have hts : ∀ w ∈ wsL_law, w.before [.ref (a 0), .int n0].toArray s = true := fun w h => hts w (List.mem_cons_of_mem _ h)
  unfold f_X7_goTurns at hf
  refine lv_iconst (v := 0) hx hb dX7_goTurns_0 (by decide) ?_
  refine lv_istore_n (lv' := [(2, .int (0 : Int32)), (0, .ref (a 0)), (1, .int n0)]) hx hb dX7_goTurns_1 rfl hl (by decide) rfl (fun ls hl => ?_)
  have J2 : ∀ (m2 : Nat) (x1 : Int32) (r_today_2 : Int32) (r_taken_3 : Int32) (r_warms_4 : (Nat → UInt32)) (r_airAt_5 : (Nat → Int32)) (r_ways_6 : (Nat → Int32)) (r_crowned_7 : (Nat → Int32)) (r_shawls_8 : (Nat → Int32)) (r_isOn_9 : (Nat → Int32)), f_X7_goTurns_b2 n0 r_airs r_sitters r_stepMany r_isStill r_shutAt r_kinds0 r_figures r_sitsAt r_stepOf r_stepBy m2 x1 r_today_2 r_taken_3 r_warms_4 r_airAt_5 r_ways_6 r_crowned_7 r_shawls_8 r_isOn_9 = some (z0, z1, z2, z3, z4, z5, z6, z7) → ∀ (H : Heap) (locs : List Loc), va_P D vwCl (w_X7 y a r_airs r_sitters r_stepMany r_today_2 r_taken_3 r_isStill r_thrown r_letterMany r_at0 r_isBad r_statements r_stepsMany r_hasImage r_place0 r_isTaking r_keptIn r_turned r_rowMany r_seed r_warms_4 r_shutAt r_kinds0 r_figures r_airAt_5 r_ways_6 r_crowned_7 r_sitsAt r_shawls_8 r_isOn_9 r_stepOf r_stepBy r_refusals r_letters r_placeIn r_letterOf r_numbers r_stepsRead r_stepsBy r_kept r_keptWarms r_i_imaged r_imagedWarms r_turns0 r_turnWarms0 r_turnOf r_turnWarms r_row0 r_gains r_pegSort r_pegMany r_pegHolds r_coats r_coatsMoved) H → va_D A (w_X7 y a r_airs r_sitters r_stepMany r_today_2 r_taken_3 r_isStill r_thrown r_letterMany r_at0 r_isBad r_statements r_stepsMany r_hasImage r_place0 r_isTaking r_keptIn r_turned r_rowMany r_seed r_warms_4 r_shutAt r_kinds0 r_figures r_airAt_5 r_ways_6 r_crowned_7 r_sitsAt r_shawls_8 r_isOn_9 r_stepOf r_stepBy r_refusals r_letters r_placeIn r_letterOf r_numbers r_stepsRead r_stepsBy r_kept r_keptWarms r_i_imaged r_imagedWarms r_turns0 r_turnWarms0 r_turnOf r_turnWarms r_row0 r_gains r_pegSort r_pegMany r_pegHolds r_coats r_coatsMoved) → va_S A s.heap H locs → ∀ ls : Array Slot, lv_has ls 3 [(0, .ref (a 0)), (1, .int n0), (2, .int x1)] → W p l e ({ frames := 6, cells := 0, slots := 0, locals := 145 } : Room) s m [.ref (a 0), .int n0].toArray below meth c H locs 0 0 (MQ below (dQ D y none s.heap.size (w_X7 y a r_airs r_sitters r_stepMany r_today r_taken r_isStill r_thrown r_letterMany r_at0 r_isBad r_statements r_stepsMany r_hasImage r_place0 r_isTaking r_keptIn r_turned r_rowMany r_seed r_warms r_shutAt r_kinds0 r_figures r_airAt r_ways r_crowned r_sitsAt r_shawls r_isOn r_stepOf r_stepBy r_refusals r_letters r_placeIn r_letterOf r_numbers r_stepsRead r_stepsBy r_kept r_keptWarms r_i_imaged r_imagedWarms r_turns0 r_turnWarms0 r_turnOf r_turnWarms r_row0 r_gains r_pegSort r_pegMany r_pegHolds r_coats r_coatsMoved) (w_X7 y a r_airs r_sitters r_stepMany z0 z1 r_isStill r_thrown r_letterMany r_at0 r_isBad r_statements r_stepsMany r_hasImage r_place0 r_isTaking r_keptIn r_turned r_rowMany r_seed z2 r_shutAt r_kinds0 r_figures z3 z4 z5 r_sitsAt z6 z7 r_stepOf r_stepBy r_refusals r_letters r_placeIn r_letterOf r_numbers r_stepsRead r_stepsBy r_kept r_keptWarms r_i_imaged r_imagedWarms r_turns0 r_turnWarms0 r_turnOf r_turnWarms r_row0 r_gains r_pegSort r_pegMany r_pegHolds r_coats r_coatsMoved)) [.ref (a 0), .int n0].toArray s 0 0 A) (F0 m 2 ls []) := by
    intro m2
    induction m2 with
    | zero => intro x1 r_today_2 r_taken_3 r_warms_4 r_airAt_5 r_ways_6 r_crowned_7 r_shawls_8 r_isOn_9 hf; exact absurd hf (by unfold f_X7_goTurns_b2; exact fun h => by cases h)
    | succ m2 I2 =>
      intro x1 r_today_2 r_taken_3 r_warms_4 r_airAt_5 r_ways_6 r_crowned_7 r_shawls_8 r_isOn_9 hf H locs hP hD hS ls hl
      unfold f_X7_goTurns_b2 at hf
      refine lv_iload_n hx hb dX7_goTurns_2 rfl (lv_at hl 2 rfl) ?_
      refine lv_iload_n hx hb dX7_goTurns_3 rfl (lv_at hl 1 rfl) ?_
      refine lv_icmp_ge (tgt := 17) hx hb dX7_goTurns_4 (by decide) (fun c10 => ?_) (fun c10 => ?_)
      · have hf := dq_t hf c10
        clear c10
        obtain ⟨rfl, rfl, rfl, rfl, rfl, rfl, rfl, rfl⟩ := dq_r8 hf
        exact ct_vret hx hb hr hlocks hAe hP hK hD hS dX7_goTurns_17
      · have hf := dq_f hf c10
        clear c10
        refine lv_aload_n hx hb dX7_goTurns_7 rfl (lv_at hl 0 rfl) ?_
        obtain ⟨r_today_11, r_taken_12, r_warms_13, r_airAt_14, r_ways_15, r_crowned_16, r_shawls_17, r_isOn_18, hy19, hf⟩ := dq_b8 hf
        refine ct_callV0 (ci := 6) (q0 := 0) (own := RX7) (As := []) (rest := []) (ws' := (w_X7 y a r_airs r_sitters r_stepMany r_today_11 r_taken_12 r_isStill r_thrown r_letterMany r_at0 r_isBad r_statements r_stepsMany r_hasImage r_place0 r_isTaking r_keptIn r_turned r_rowMany r_seed r_warms_13 r_shutAt r_kinds0 r_figures r_airAt_14 r_ways_15 r_crowned_16 r_sitsAt r_shawls_17 r_isOn_18 r_stepOf r_stepBy r_refusals r_letters r_placeIn r_letterOf r_numbers r_stepsRead r_stepsBy r_kept r_keptWarms r_i_imaged r_imagedWarms r_turns0 r_turnWarms0 r_turnOf r_turnWarms r_row0 r_gains r_pegSort r_pegMany r_pegHolds r_coats r_coatsMoved)) ⟨hx, hb, hml, hown, hts⟩ (m_X7_turnOn l D y a r_airs r_sitters r_stepMany r_today_2 r_taken_3 r_isStill r_thrown r_letterMany r_at0 r_isBad r_statements r_stepsMany r_hasImage r_place0 r_isTaking r_keptIn r_turned r_rowMany r_seed r_warms_4 r_shutAt r_kinds0 r_figures r_airAt_5 r_ways_6 r_crowned_7 r_sitsAt r_shawls_8 r_isOn_9 r_stepOf r_stepBy r_refusals r_letters r_placeIn r_letterOf r_numbers r_stepsRead r_stepsBy r_kept r_keptWarms r_i_imaged r_imagedWarms r_turns0 r_turnWarms0 r_turnOf r_turnWarms r_row0 r_gains r_pegSort r_pegMany r_pegHolds r_coats r_coatsMoved r_today_11 r_taken_12 r_warms_13 r_airAt_14 r_ways_15 r_crowned_16 r_shawls_17 r_isOn_18 hy19) (cwV 0 hts (gA_V wl_467 wl_468 wl_469 wl_5 wl_470) rfl rfl rfl (by decide +kernel) ⟨Nat.le_of_ble_eq_true rfl, Nat.le_of_ble_eq_true rfl⟩) rfl rfl rfl hl.1 rfl (Nat.le_of_ble_eq_true rfl) dX7_goTurns_8 ⟨Nat.zero_le _, Nat.zero_le _⟩ hK hP hD hS hA (fun H locs hP hD hS => ?_)
        obtain ⟨x20, ex20⟩ : ∃ z : Int32, z = (x1 + (1 : Int32)) := ⟨_, rfl⟩
        have hf := dq_l hf x20 ex20
        refine lv_iinc (v := x20) (lv' := [(2, .int x20), (0, .ref (a 0)), (1, .int n0)]) hx hb dX7_goTurns_11 hl (k := 2) rfl (by rw [ex20]; rfl) (by decide) rfl (fun ls hl => ?_)
        clear ex20
        refine lv_goto (tgt := 2) hx hb dX7_goTurns_14 (by decide) ?_
        exact I2 _ _ _ _ _ _ _ _ _ hf _ _ hP hD hS _ (lv_sub hl [1, 2, 0] rfl)
  exact J2 4096 _ _ _ _ _ _ _ _ _ hf _ _ hP hD hS _ (lv_sub hl [1, 2, 0] rfl)
noncomputable def f_X7_airComesNew_b40 (n0 : Int32) (n1 : Int32) (n2 : Int32) (n3 : Int32) (r_airs : Int32) (r_kinds0 : (Nat → Int32)) (r_figures : (Nat → Int32)) (r_airAt : (Nat → Int32)) (r_ways : (Nat → Int32)) (r_crowned : (Nat → Int32))  (x1 : Int32) : Option (Int32 × Int32 × (Nat → Int32) × (Nat → Int32) × (Nat → Int32) × (Nat → Int32) × (Nat → Int32)) := dq_if (x1 = 0) (dq_gd (dq_z x1) (some (x1, r_airs, r_kinds0, r_figures, r_airAt, r_ways, r_crowned))) (dq_gd (vp_in r_airs 5) (dq_let (upd r_kinds0 r_airs.toNatClampNeg n0) (fun (r_kinds0_5 : (Nat → Int32)) => dq_gd (vp_in r_airs 5) (dq_let (upd r_figures r_airs.toNatClampNeg n1) (fun (r_figures_7 : (Nat → Int32)) => dq_gd (vp_in r_airs 5) (dq_let (upd r_airAt r_airs.toNatClampNeg n2) (fun (r_airAt_9 : (Nat → Int32)) => dq_gd (vp_in r_airs 5) (dq_let (upd r_ways r_airs.toNatClampNeg n3) (fun (r_ways_11 : (Nat → Int32)) => dq_gd (vp_in r_airs 5) (dq_let (upd r_crowned r_airs.toNatClampNeg (0 : Int32)) (fun (r_crowned_13 : (Nat → Int32)) => dq_let (r_airs + (1 : Int32)) (fun (x14 : Int32) => dq_gd (dq_z x1) (some (x1, x14, r_kinds0_5, r_figures_7, r_airAt_9, r_ways_11, r_crowned_13))))))))))))))
noncomputable def f_X7_airComesNew (r_airs : Int32) (r_sitters : Int32) (r_shutAt : (Nat → Int32)) (r_kinds0 : (Nat → Int32)) (r_figures : (Nat → Int32)) (r_airAt : (Nat → Int32)) (r_ways : (Nat → Int32)) (r_crowned : (Nat → Int32)) (r_sitsAt : (Nat → Int32)) (r_isOn : (Nat → Int32)) (n0 : Int32) (n1 : Int32) (n2 : Int32) (n3 : Int32) : Option (Int32 × Int32 × (Nat → Int32) × (Nat → Int32) × (Nat → Int32) × (Nat → Int32) × (Nat → Int32)) := dq_if ((8 : Int32) ≤ n0) (f_X7_airComesNew_b40 n0 n1 n2 n3 r_airs r_kinds0 r_figures r_airAt r_ways r_crowned (0 : Int32)) (dq_bd (f_X7_isCell n2) (fun (x17 : Int32) => dq_if (x17 = 0) (f_X7_airComesNew_b40 n0 n1 n2 n3 r_airs r_kinds0 r_figures r_airAt r_ways r_crowned (0 : Int32)) (dq_if ((4 : Int32) ≤ n3) (f_X7_airComesNew_b40 n0 n1 n2 n3 r_airs r_kinds0 r_figures r_airAt r_ways r_crowned (0 : Int32)) (dq_if ((5 : Int32) ≤ r_airs) (f_X7_airComesNew_b40 n0 n1 n2 n3 r_airs r_kinds0 r_figures r_airAt r_ways r_crowned (0 : Int32)) (dq_bd (f_X7_isFree r_airs r_sitters r_shutAt r_airAt r_sitsAt r_isOn n2) (fun (x22 : Int32) => dq_if (x22 = 0) (f_X7_airComesNew_b40 n0 n1 n2 n3 r_airs r_kinds0 r_figures r_airAt r_ways r_crowned (0 : Int32)) (f_X7_airComesNew_b40 n0 n1 n2 n3 r_airs r_kinds0 r_figures r_airAt r_ways r_crowned (1 : Int32))))))))
def wA_X7_airComesNew : List Cond := .code yX7_airComesNew cX7_airComesNew 6 (some .boolean) :: wsL_law
-- DraughtsTakeModel.airComesNew(IIII)Z
set_option maxHeartbeats 4000000 in
set_option maxRecDepth 100000 in
theorem m_X7_airComesNew (l : Launch) (D : va_G) (y : Nat → ClassId) (a : (Nat → Nat)) (r_airs : Int32) (r_sitters : Int32) (r_stepMany : Int32) (r_today : Int32) (r_taken : Int32) (r_isStill : Int32) (r_thrown : Int32) (r_letterMany : Int32) (r_at0 : Int32) (r_isBad : Int32) (r_statements : Int32) (r_stepsMany : Int32) (r_hasImage : Int32) (r_place0 : Int32) (r_isTaking : Int32) (r_keptIn : Value) (r_turned : Int32) (r_rowMany : Int32) (r_seed : Int32) (r_warms : (Nat → UInt32)) (r_shutAt : (Nat → Int32)) (r_kinds0 : (Nat → Int32)) (r_figures : (Nat → Int32)) (r_airAt : (Nat → Int32)) (r_ways : (Nat → Int32)) (r_crowned : (Nat → Int32)) (r_sitsAt : (Nat → Int32)) (r_shawls : (Nat → Int32)) (r_isOn : (Nat → Int32)) (r_stepOf : (Nat → Int32)) (r_stepBy : (Nat → Int32)) (r_refusals : (Nat → Int32)) (r_letters : (Nat → Int32)) (r_placeIn : (Nat → Int32)) (r_letterOf : (Nat → Int32)) (r_numbers : (Nat → Int32)) (r_stepsRead : (Nat → Int32)) (r_stepsBy : (Nat → Int32)) (r_kept : (Nat → Int32)) (r_keptWarms : (Nat → UInt32)) (r_i_imaged : (Nat → Int32)) (r_imagedWarms : (Nat → UInt32)) (r_turns0 : (Nat → Int32)) (r_turnWarms0 : (Nat → UInt32)) (r_turnOf : (Nat → Int32)) (r_turnWarms : (Nat → UInt32)) (r_row0 : (Nat → Int32)) (r_gains : (Nat → Int32)) (r_pegSort : (Nat → Int32)) (r_pegMany : (Nat → Int32)) (r_pegHolds : (Nat → Int32)) (r_coats : (Nat → Int32)) (r_coatsMoved : (Nat → Int32)) (n0 : Int32) (n1 : Int32) (n2 : Int32) (n3 : Int32) (z0 : Int32) (z1 : Int32) (z2 : (Nat → Int32)) (z3 : (Nat → Int32)) (z4 : (Nat → Int32)) (z5 : (Nat → Int32)) (z6 : (Nat → Int32)) (hf : f_X7_airComesNew r_airs r_sitters r_shutAt r_kinds0 r_figures r_airAt r_ways r_crowned r_sitsAt r_isOn n0 n1 n2 n3 = some (z0, z1, z2, z3, z4, z5, z6)) : Ct l D y yX7_airComesNew wA_X7_airComesNew 3 65 [.ref (a 0), .int n0, .int n1, .int n2, .int n3] (w_X7 y a r_airs r_sitters r_stepMany r_today r_taken r_isStill r_thrown r_letterMany r_at0 r_isBad r_statements r_stepsMany r_hasImage r_place0 r_isTaking r_keptIn r_turned r_rowMany r_seed r_warms r_shutAt r_kinds0 r_figures r_airAt r_ways r_crowned r_sitsAt r_shawls r_isOn r_stepOf r_stepBy r_refusals r_letters r_placeIn r_letterOf r_numbers r_stepsRead r_stepsBy r_kept r_keptWarms r_i_imaged r_imagedWarms r_turns0 r_turnWarms0 r_turnOf r_turnWarms r_row0 r_gains r_pegSort r_pegMany r_pegHolds r_coats r_coatsMoved) (w_X7 y a z1 r_sitters r_stepMany r_today r_taken r_isStill r_thrown r_letterMany r_at0 r_isBad r_statements r_stepsMany r_hasImage r_place0 r_isTaking r_keptIn r_turned r_rowMany r_seed r_warms r_shutAt z2 z3 z4 z5 z6 r_sitsAt r_shawls r_isOn r_stepOf r_stepBy r_refusals r_letters r_placeIn r_letterOf r_numbers r_stepsRead r_stepsBy r_kept r_keptWarms r_i_imaged r_imagedWarms r_turns0 r_turnWarms0 r_turnOf r_turnWarms r_row0 r_gains r_pegSort r_pegMany r_pegHolds r_coats r_coatsMoved) (some (.int z0)) := by
  refine ct_head (cc := cX7_airComesNew) (n := 6) (ret := (some .boolean)) (by decide) rfl (Nat.le_of_ble_eq_true rfl) ?_
  intro p e s m below meth c A ls hx hb hr hml hown hlocks hts hA hAe hP hK hD hl
  have hS : va_S A s.heap s.heap [] := va_S.rf
  have hl : lv_has ls 6 [(0, .ref (a 0)), (1, .int n0), (2, .int n1), (3, .int n2), (4, .int n3)] := hl
  have hown : s.vm.findClass RX7 = some m.cls := hown
  have hts : ∀ w ∈ wsL_law, w.before [.ref (a 0), .int n0, .int n1, .int n2, .int n3].toArray s = true := fun w h => hts w (List.mem_cons_of_mem _ h)
  unfold f_X7_airComesNew at hf
  refine lv_iload_n hx hb dX7_airComesNew_0 rfl (lv_at hl 1 rfl) ?_
  refine lv_bipush (v := 8) hx hb dX7_airComesNew_1 (by decide) ?_
  have J40 : ∀ (x1 : Int32), f_X7_airComesNew_b40 n0 n1 n2 n3 r_airs r_kinds0 r_figures r_airAt r_ways r_crowned x1 = some (z0, z1, z2, z3, z4, z5, z6) → ∀ (H : Heap) (locs : List Loc), va_P D vwCl (w_X7 y a r_airs r_sitters r_stepMany r_today r_taken r_isStill r_thrown r_letterMany r_at0 r_isBad r_statements r_stepsMany r_hasImage r_place0 r_isTaking r_keptIn r_turned r_rowMany r_seed r_warms r_shutAt r_kinds0 r_figures r_airAt r_ways r_crowned r_sitsAt r_shawls r_isOn r_stepOf r_stepBy r_refusals r_letters r_placeIn r_letterOf r_numbers r_stepsRead r_stepsBy r_kept r_keptWarms r_i_imaged r_imagedWarms r_turns0 r_turnWarms0 r_turnOf r_turnWarms r_row0 r_gains r_pegSort r_pegMany r_pegHolds r_coats r_coatsMoved) H → va_D A (w_X7 y a r_airs r_sitters r_stepMany r_today r_taken r_isStill r_thrown r_letterMany r_at0 r_isBad r_statements r_stepsMany r_hasImage r_place0 r_isTaking r_keptIn r_turned r_rowMany r_seed r_warms r_shutAt r_kinds0 r_figures r_airAt r_ways r_crowned r_sitsAt r_shawls r_isOn r_stepOf r_stepBy r_refusals r_letters r_placeIn r_letterOf r_numbers r_stepsRead r_stepsBy r_kept r_keptWarms r_i_imaged r_imagedWarms r_turns0 r_turnWarms0 r_turnOf r_turnWarms r_row0 r_gains r_pegSort r_pegMany r_pegHolds r_coats r_coatsMoved) → va_S A s.heap H locs → ∀ ls : Array Slot, lv_has ls 6 [(0, .ref (a 0)), (1, .int n0), (2, .int n1), (3, .int n2), (4, .int n3)] → W p l e ({ frames := 3, cells := 0, slots := 0, locals := 65 } : Room) s m [.ref (a 0), .int n0, .int n1, .int n2, .int n3].toArray below meth c H locs 0 0 (MQ below (dQ D y (some (.int z0)) s.heap.size (w_X7 y a r_airs r_sitters r_stepMany r_today r_taken r_isStill r_thrown r_letterMany r_at0 r_isBad r_statements r_stepsMany r_hasImage r_place0 r_isTaking r_keptIn r_turned r_rowMany r_seed r_warms r_shutAt r_kinds0 r_figures r_airAt r_ways r_crowned r_sitsAt r_shawls r_isOn r_stepOf r_stepBy r_refusals r_letters r_placeIn r_letterOf r_numbers r_stepsRead r_stepsBy r_kept r_keptWarms r_i_imaged r_imagedWarms r_turns0 r_turnWarms0 r_turnOf r_turnWarms r_row0 r_gains r_pegSort r_pegMany r_pegHolds r_coats r_coatsMoved) (w_X7 y a z1 r_sitters r_stepMany r_today r_taken r_isStill r_thrown r_letterMany r_at0 r_isBad r_statements r_stepsMany r_hasImage r_place0 r_isTaking r_keptIn r_turned r_rowMany r_seed r_warms r_shutAt z2 z3 z4 z5 z6 r_sitsAt r_shawls r_isOn r_stepOf r_stepBy r_refusals r_letters r_placeIn r_letterOf r_numbers r_stepsRead r_stepsBy r_kept r_keptWarms r_i_imaged r_imagedWarms r_turns0 r_turnWarms0 r_turnOf r_turnWarms r_row0 r_gains r_pegSort r_pegMany r_pegHolds r_coats r_coatsMoved)) [.ref (a 0), .int n0, .int n1, .int n2, .int n3].toArray s 0 0 A) (F0 m 40 ls [.int x1]) := by
    intro x1 hf H locs hP hD hS ls hl
    unfold f_X7_airComesNew_b40 at hf
    refine lv_istore (lv' := [(5, .int x1), (0, .ref (a 0)), (1, .int n0), (2, .int n1), (3, .int n2), (4, .int n3)]) hx hb dX7_airComesNew_40 hl (by decide) rfl (fun ls hl => ?_)
    refine lv_iload hx hb dX7_airComesNew_42 (lv_at hl 0 rfl) ?_
    refine lv_if_eq (tgt := 108) hx hb dX7_airComesNew_44 (by decide) (fun c2 => ?_) (fun c2 => ?_)
    · have hf := dq_t hf c2
      clear c2
      refine lv_iload hx hb dX7_airComesNew_108 (lv_at hl 0 rfl) ?_
      obtain ⟨h3, hf⟩ := dq_g hf
      obtain ⟨rfl, rfl, rfl, rfl, rfl, rfl, rfl⟩ := dq_r7 hf
      exact ct_zret hx hb hr (dq_zn h3) hlocks hAe hP hK hD hS dX7_airComesNew_110
    · have hf := dq_f hf c2
      clear c2
      refine lv_aload_n hx hb dX7_airComesNew_47 rfl (lv_at hl 1 rfl) ?_
      refine va_get (D := D) (ci := 6) (v := .ref (a 3)) (C := RX7) (T := TX7) (N := 53) hx hb hts iwX7 hown hK hP 0 rfl rfl 3 (by decide) (hts _ wl_83) (fun _ h9 => h9) rfl dX7_airComesNew_48 ?_
      refine lv_aload_n hx hb dX7_airComesNew_51 rfl (lv_at hl 1 rfl) ?_
      refine va_get (D := D) (ci := 6) (v := .int r_airs) (C := RX7) (T := TX7) (N := 53) hx hb hts iwX7 hown hK hP 0 rfl rfl 2 (by decide) (hts _ wl_405) (fun _ h9 => h9) rfl dX7_airComesNew_52 ?_
      refine lv_iload_n hx hb dX7_airComesNew_55 rfl (lv_at hl 2 rfl) ?_
      obtain ⟨h4, hf⟩ := dq_g hf
      refine dq_iast (cA := y 1) (n := 5) (f := r_kinds0) hx hb hK hP hD hS 3 1 rfl rfl h4 dX7_airComesNew_56 (fun r_kinds0_5 er_kinds0_5 H locs hP hD hS => ?_)
      have hf := dq_l hf r_kinds0_5 er_kinds0_5
      clear er_kinds0_5
      have hP : va_P D vwCl (w_X7 y a r_airs r_sitters r_stepMany r_today r_taken r_isStill r_thrown r_letterMany r_at0 r_isBad r_statements r_stepsMany r_hasImage r_place0 r_isTaking r_keptIn r_turned r_rowMany r_seed r_warms r_shutAt r_kinds0_5 r_figures r_airAt r_ways r_crowned r_sitsAt r_shawls r_isOn r_stepOf r_stepBy r_refusals r_letters r_placeIn r_letterOf r_numbers r_stepsRead r_stepsBy r_kept r_keptWarms r_i_imaged r_imagedWarms r_turns0 r_turnWarms0 r_turnOf r_turnWarms r_row0 r_gains r_pegSort r_pegMany r_pegHolds r_coats r_coatsMoved) H := hP
      have hD : va_D A (w_X7 y a r_airs r_sitters r_stepMany r_today r_taken r_isStill r_thrown r_letterMany r_at0 r_isBad r_statements r_stepsMany r_hasImage r_place0 r_isTaking r_keptIn r_turned r_rowMany r_seed r_warms r_shutAt r_kinds0_5 r_figures r_airAt r_ways r_crowned r_sitsAt r_shawls r_isOn r_stepOf r_stepBy r_refusals r_letters r_placeIn r_letterOf r_numbers r_stepsRead r_stepsBy r_kept r_keptWarms r_i_imaged r_imagedWarms r_turns0 r_turnWarms0 r_turnOf r_turnWarms r_row0 r_gains r_pegSort r_pegMany r_pegHolds r_coats r_coatsMoved) := hD
      refine lv_aload_n hx hb dX7_airComesNew_57 rfl (lv_at hl 1 rfl) ?_
      refine va_get (D := D) (ci := 6) (v := .ref (a 4)) (C := RX7) (T := TX7) (N := 53) hx hb hts iwX7 hown hK hP 0 rfl rfl 4 (by decide) (hts _ wl_84) (fun _ h9 => h9) rfl dX7_airComesNew_58 ?_
      refine lv_aload_n hx hb dX7_airComesNew_61 rfl (lv_at hl 1 rfl) ?_
      refine va_get (D := D) (ci := 6) (v := .int r_airs) (C := RX7) (T := TX7) (N := 53) hx hb hts iwX7 hown hK hP 0 rfl rfl 2 (by decide) (hts _ wl_405) (fun _ h9 => h9) rfl dX7_airComesNew_62 ?_
      refine lv_iload_n hx hb dX7_airComesNew_65 rfl (lv_at hl 3 rfl) ?_
      obtain ⟨h6, hf⟩ := dq_g hf
      refine dq_iast (cA := y 1) (n := 5) (f := r_figures) hx hb hK hP hD hS 4 1 rfl rfl h6 dX7_airComesNew_66 (fun r_figures_7 er_figures_7 H locs hP hD hS => ?_)
      have hf := dq_l hf r_figures_7 er_figures_7
      clear er_figures_7
      have hP : va_P D vwCl (w_X7 y a r_airs r_sitters r_stepMany r_today r_taken r_isStill r_thrown r_letterMany r_at0 r_isBad r_statements r_stepsMany r_hasImage r_place0 r_isTaking r_keptIn r_turned r_rowMany r_seed r_warms r_shutAt r_kinds0_5 r_figures_7 r_airAt r_ways r_crowned r_sitsAt r_shawls r_isOn r_stepOf r_stepBy r_refusals r_letters r_placeIn r_letterOf r_numbers r_stepsRead r_stepsBy r_kept r_keptWarms r_i_imaged r_imagedWarms r_turns0 r_turnWarms0 r_turnOf r_turnWarms r_row0 r_gains r_pegSort r_pegMany r_pegHolds r_coats r_coatsMoved) H := hP
      have hD : va_D A (w_X7 y a r_airs r_sitters r_stepMany r_today r_taken r_isStill r_thrown r_letterMany r_at0 r_isBad r_statements r_stepsMany r_hasImage r_place0 r_isTaking r_keptIn r_turned r_rowMany r_seed r_warms r_shutAt r_kinds0_5 r_figures_7 r_airAt r_ways r_crowned r_sitsAt r_shawls r_isOn r_stepOf r_stepBy r_refusals r_letters r_placeIn r_letterOf r_numbers r_stepsRead r_stepsBy r_kept r_keptWarms r_i_imaged r_imagedWarms r_turns0 r_turnWarms0 r_turnOf r_turnWarms r_row0 r_gains r_pegSort r_pegMany r_pegHolds r_coats r_coatsMoved) := hD
      refine lv_aload_n hx hb dX7_airComesNew_67 rfl (lv_at hl 1 rfl) ?_
      refine va_get (D := D) (ci := 6) (v := .ref (a 5)) (C := RX7) (T := TX7) (N := 53) hx hb hts iwX7 hown hK hP 0 rfl rfl 5 (by decide) (hts _ wl_85) (fun _ h9 => h9) rfl dX7_airComesNew_68 ?_
      refine lv_aload_n hx hb dX7_airComesNew_71 rfl (lv_at hl 1 rfl) ?_
      refine va_get (D := D) (ci := 6) (v := .int r_airs) (C := RX7) (T := TX7) (N := 53) hx hb hts iwX7 hown hK hP 0 rfl rfl 2 (by decide) (hts _ wl_405) (fun _ h9 => h9) rfl dX7_airComesNew_72 ?_
      refine lv_iload_n hx hb dX7_airComesNew_75 rfl (lv_at hl 4 rfl) ?_
      obtain ⟨h8, hf⟩ := dq_g hf
      refine dq_iast (cA := y 1) (n := 5) (f := r_airAt) hx hb hK hP hD hS 5 1 rfl rfl h8 dX7_airComesNew_76 (fun r_airAt_9 er_airAt_9 H locs hP hD hS => ?_)
      have hf := dq_l hf r_airAt_9 er_airAt_9
      clear er_airAt_9
      have hP : va_P D vwCl (w_X7 y a r_airs r_sitters r_stepMany r_today r_taken r_isStill r_thrown r_letterMany r_at0 r_isBad r_statements r_stepsMany r_hasImage r_place0 r_isTaking r_keptIn r_turned r_rowMany r_seed r_warms r_shutAt r_kinds0_5 r_figures_7 r_airAt_9 r_ways r_crowned r_sitsAt r_shawls r_isOn r_stepOf r_stepBy r_refusals r_letters r_placeIn r_letterOf r_numbers r_stepsRead r_stepsBy r_kept r_keptWarms r_i_imaged r_imagedWarms r_turns0 r_turnWarms0 r_turnOf r_turnWarms r_row0 r_gains r_pegSort r_pegMany r_pegHolds r_coats r_coatsMoved) H := hP
      have hD : va_D A (w_X7 y a r_airs r_sitters r_stepMany r_today r_taken r_isStill r_thrown r_letterMany r_at0 r_isBad r_statements r_stepsMany r_hasImage r_place0 r_isTaking r_keptIn r_turned r_rowMany r_seed r_warms r_shutAt r_kinds0_5 r_figures_7 r_airAt_9 r_ways r_crowned r_sitsAt r_shawls r_isOn r_stepOf r_stepBy r_refusals r_letters r_placeIn r_letterOf r_numbers r_stepsRead r_stepsBy r_kept r_keptWarms r_i_imaged r_imagedWarms r_turns0 r_turnWarms0 r_turnOf r_turnWarms r_row0 r_gains r_pegSort r_pegMany r_pegHolds r_coats r_coatsMoved) := hD
      refine lv_aload_n hx hb dX7_airComesNew_77 rfl (lv_at hl 1 rfl) ?_
      refine va_get (D := D) (ci := 6) (v := .ref (a 6)) (C := RX7) (T := TX7) (N := 53) hx hb hts iwX7 hown hK hP 0 rfl rfl 6 (by decide) (hts _ wl_86) (fun _ h9 => h9) rfl dX7_airComesNew_78 ?_
      refine lv_aload_n hx hb dX7_airComesNew_81 rfl (lv_at hl 1 rfl) ?_
      refine va_get (D := D) (ci := 6) (v := .int r_airs) (C := RX7) (T := TX7) (N := 53) hx hb hts iwX7 hown hK hP 0 rfl rfl 2 (by decide) (hts _ wl_405) (fun _ h9 => h9) rfl dX7_airComesNew_82 ?_
      refine lv_iload hx hb dX7_airComesNew_85 (lv_at hl 5 rfl) ?_
      obtain ⟨h10, hf⟩ := dq_g hf
      refine dq_iast (cA := y 1) (n := 5) (f := r_ways) hx hb hK hP hD hS 6 1 rfl rfl h10 dX7_airComesNew_87 (fun r_ways_11 er_ways_11 H locs hP hD hS => ?_)
      have hf := dq_l hf r_ways_11 er_ways_11
      clear er_ways_11
      have hP : va_P D vwCl (w_X7 y a r_airs r_sitters r_stepMany r_today r_taken r_isStill r_thrown r_letterMany r_at0 r_isBad r_statements r_stepsMany r_hasImage r_place0 r_isTaking r_keptIn r_turned r_rowMany r_seed r_warms r_shutAt r_kinds0_5 r_figures_7 r_airAt_9 r_ways_11 r_crowned r_sitsAt r_shawls r_isOn r_stepOf r_stepBy r_refusals r_letters r_placeIn r_letterOf r_numbers r_stepsRead r_stepsBy r_kept r_keptWarms r_i_imaged r_imagedWarms r_turns0 r_turnWarms0 r_turnOf r_turnWarms r_row0 r_gains r_pegSort r_pegMany r_pegHolds r_coats r_coatsMoved) H := hP
      have hD : va_D A (w_X7 y a r_airs r_sitters r_stepMany r_today r_taken r_isStill r_thrown r_letterMany r_at0 r_isBad r_statements r_stepsMany r_hasImage r_place0 r_isTaking r_keptIn r_turned r_rowMany r_seed r_warms r_shutAt r_kinds0_5 r_figures_7 r_airAt_9 r_ways_11 r_crowned r_sitsAt r_shawls r_isOn r_stepOf r_stepBy r_refusals r_letters r_placeIn r_letterOf r_numbers r_stepsRead r_stepsBy r_kept r_keptWarms r_i_imaged r_imagedWarms r_turns0 r_turnWarms0 r_turnOf r_turnWarms r_row0 r_gains r_pegSort r_pegMany r_pegHolds r_coats r_coatsMoved) := hD
      refine lv_aload_n hx hb dX7_airComesNew_88 rfl (lv_at hl 1 rfl) ?_
      refine va_get (D := D) (ci := 6) (v := .ref (a 7)) (C := RX7) (T := TX7) (N := 53) hx hb hts iwX7 hown hK hP 0 rfl rfl 7 (by decide) (hts _ wl_87) (fun _ h9 => h9) rfl dX7_airComesNew_89 ?_
      refine lv_aload_n hx hb dX7_airComesNew_92 rfl (lv_at hl 1 rfl) ?_
      refine va_get (D := D) (ci := 6) (v := .int r_airs) (C := RX7) (T := TX7) (N := 53) hx hb hts iwX7 hown hK hP 0 rfl rfl 2 (by decide) (hts _ wl_405) (fun _ h9 => h9) rfl dX7_airComesNew_93 ?_
      refine lv_iconst (v := 0) hx hb dX7_airComesNew_96 (by decide) ?_
      obtain ⟨h12, hf⟩ := dq_g hf
      refine dq_iast (cA := y 1) (n := 5) (f := r_crowned) hx hb hK hP hD hS 7 1 rfl rfl h12 dX7_airComesNew_97 (fun r_crowned_13 er_crowned_13 H locs hP hD hS => ?_)
      have hf := dq_l hf r_crowned_13 er_crowned_13
      clear er_crowned_13
      have hP : va_P D vwCl (w_X7 y a r_airs r_sitters r_stepMany r_today r_taken r_isStill r_thrown r_letterMany r_at0 r_isBad r_statements r_stepsMany r_hasImage r_place0 r_isTaking r_keptIn r_turned r_rowMany r_seed r_warms r_shutAt r_kinds0_5 r_figures_7 r_airAt_9 r_ways_11 r_crowned_13 r_sitsAt r_shawls r_isOn r_stepOf r_stepBy r_refusals r_letters r_placeIn r_letterOf r_numbers r_stepsRead r_stepsBy r_kept r_keptWarms r_i_imaged r_imagedWarms r_turns0 r_turnWarms0 r_turnOf r_turnWarms r_row0 r_gains r_pegSort r_pegMany r_pegHolds r_coats r_coatsMoved) H := hP
      have hD : va_D A (w_X7 y a r_airs r_sitters r_stepMany r_today r_taken r_isStill r_thrown r_letterMany r_at0 r_isBad r_statements r_stepsMany r_hasImage r_place0 r_isTaking r_keptIn r_turned r_rowMany r_seed r_warms r_shutAt r_kinds0_5 r_figures_7 r_airAt_9 r_ways_11 r_crowned_13 r_sitsAt r_shawls r_isOn r_stepOf r_stepBy r_refusals r_letters r_placeIn r_letterOf r_numbers r_stepsRead r_stepsBy r_kept r_keptWarms r_i_imaged r_imagedWarms r_turns0 r_turnWarms0 r_turnOf r_turnWarms r_row0 r_gains r_pegSort r_pegMany r_pegHolds r_coats r_coatsMoved) := hD
      refine lv_aload_n hx hb dX7_airComesNew_98 rfl (lv_at hl 1 rfl) ?_
      refine lv_dup hx hb dX7_airComesNew_99 rfl ?_
      refine va_get (D := D) (ci := 6) (v := .int r_airs) (C := RX7) (T := TX7) (N := 53) hx hb hts iwX7 hown hK hP 0 rfl rfl 2 (by decide) (hts _ wl_405) (fun _ h9 => h9) rfl dX7_airComesNew_100 ?_
      refine lv_iconst (v := 1) hx hb dX7_airComesNew_103 (by decide) ?_
      refine lv_iadd hx hb dX7_airComesNew_104 ?_
      refine lv_topi (fun x14 ex14 => ?_)
      have hf := dq_l hf x14 ex14
      clear ex14
      refine va_put (D := D) (ci := 6) (v := .int x14) (ty := .int) (C := RX7) (T := TX7) (N := 53) hx hb hts iwX7 tyX7 tyX7_ok nmX7 hown hK hP hD hS 0 rfl rfl 2 (by decide) (hts _ wl_405) (fun _ h9 => h9) rfl (tyX7_ok 2 (by decide)) rfl rfl (Nat.le_of_ble_eq_true rfl) dX7_airComesNew_105 (fun H locs hP hD hS => ?_)
      have hP : va_P D vwCl (w_X7 y a x14 r_sitters r_stepMany r_today r_taken r_isStill r_thrown r_letterMany r_at0 r_isBad r_statements r_stepsMany r_hasImage r_place0 r_isTaking r_keptIn r_turned r_rowMany r_seed r_warms r_shutAt r_kinds0_5 r_figures_7 r_airAt_9 r_ways_11 r_crowned_13 r_sitsAt r_shawls r_isOn r_stepOf r_stepBy r_refusals r_letters r_placeIn r_letterOf r_numbers r_stepsRead r_stepsBy r_kept r_keptWarms r_i_imaged r_imagedWarms r_turns0 r_turnWarms0 r_turnOf r_turnWarms r_row0 r_gains r_pegSort r_pegMany r_pegHolds r_coats r_coatsMoved) H := hP
      have hD : va_D A (w_X7 y a x14 r_sitters r_stepMany r_today r_taken r_isStill r_thrown r_letterMany r_at0 r_isBad r_statements r_stepsMany r_hasImage r_place0 r_isTaking r_keptIn r_turned r_rowMany r_seed r_warms r_shutAt r_kinds0_5 r_figures_7 r_airAt_9 r_ways_11 r_crowned_13 r_sitsAt r_shawls r_isOn r_stepOf r_stepBy r_refusals r_letters r_placeIn r_letterOf r_numbers r_stepsRead r_stepsBy r_kept r_keptWarms r_i_imaged r_imagedWarms r_turns0 r_turnWarms0 r_turnOf r_turnWarms r_row0 r_gains r_pegSort r_pegMany r_pegHolds r_coats r_coatsMoved) := hD
      refine lv_iload hx hb dX7_airComesNew_108 (lv_at hl 0 rfl) ?_
      obtain ⟨h15, hf⟩ := dq_g hf
      obtain ⟨rfl, rfl, rfl, rfl, rfl, rfl, rfl⟩ := dq_r7 hf
      exact ct_zret hx hb hr (dq_zn h15) hlocks hAe hP hK hD hS dX7_airComesNew_110
  refine lv_icmp_ge (tgt := 39) hx hb dX7_airComesNew_3 (by decide) (fun c16 => ?_) (fun c16 => ?_)
  · have hf := dq_t hf c16
    clear c16
    refine lv_iconst (v := 0) hx hb dX7_airComesNew_39 (by decide) ?_
    exact J40 _ hf _ _ hP hD hS _ (lv_sub hl [0, 1, 2, 3, 4] rfl)
  · have hf := dq_f hf c16
    clear c16
    refine lv_iload_n hx hb dX7_airComesNew_6 rfl (lv_at hl 3 rfl) ?_
    obtain ⟨x17, hy18, hf⟩ := dq_b hf
    refine ct_callS0 (own := RX7) (As := [.int n2]) (rest := []) ⟨hx, hb, hml, hown, hts⟩ (m_X7_isCell l D y n2 x17 hy18) (va_cwS 1 hts (gA_S wl_422 wl_423 wl_5 wl_424) rfl rfl rfl (by decide +kernel) ⟨Nat.le_of_ble_eq_true rfl, Nat.le_of_ble_eq_true rfl⟩) rfl hl.1 rfl (Nat.le_of_ble_eq_true rfl) dX7_airComesNew_7 ⟨Nat.zero_le _, Nat.zero_le _⟩ hK hP hD hS hA (fun H locs hP hD hS => ?_)
    refine lv_if_eq (tgt := 39) hx hb dX7_airComesNew_10 (by decide) (fun c19 => ?_) (fun c19 => ?_)
    · have hf := dq_t hf c19
      clear c19
      refine lv_iconst (v := 0) hx hb dX7_airComesNew_39 (by decide) ?_
      exact J40 _ hf _ _ hP hD hS _ (lv_sub hl [0, 1, 2, 3, 4] rfl)
    · have hf := dq_f hf c19
      clear c19
      refine lv_iload hx hb dX7_airComesNew_13 (lv_at hl 4 rfl) ?_
      refine lv_iconst (v := 4) hx hb dX7_airComesNew_15 (by decide) ?_
      refine lv_icmp_ge (tgt := 39) hx hb dX7_airComesNew_16 (by decide) (fun c20 => ?_) (fun c20 => ?_)
      · have hf := dq_t hf c20
        clear c20
        refine lv_iconst (v := 0) hx hb dX7_airComesNew_39 (by decide) ?_
        exact J40 _ hf _ _ hP hD hS _ (lv_sub hl [0, 1, 2, 3, 4] rfl)
      · have hf := dq_f hf c20
        clear c20
        refine lv_aload_n hx hb dX7_airComesNew_19 rfl (lv_at hl 0 rfl) ?_
        refine va_get (D := D) (ci := 6) (v := .int r_airs) (C := RX7) (T := TX7) (N := 53) hx hb hts iwX7 hown hK hP 0 rfl rfl 2 (by decide) (hts _ wl_405) (fun _ h9 => h9) rfl dX7_airComesNew_20 ?_
        refine lv_iconst (v := 5) hx hb dX7_airComesNew_23 (by decide) ?_
        refine lv_icmp_ge (tgt := 39) hx hb dX7_airComesNew_24 (by decide) (fun c21 => ?_) (fun c21 => ?_)
        · have hf := dq_t hf c21
          clear c21
          refine lv_iconst (v := 0) hx hb dX7_airComesNew_39 (by decide) ?_
          exact J40 _ hf _ _ hP hD hS _ (lv_sub hl [0, 1, 2, 3, 4] rfl)
        · have hf := dq_f hf c21
          clear c21
          refine lv_aload_n hx hb dX7_airComesNew_27 rfl (lv_at hl 0 rfl) ?_
          refine lv_iload_n hx hb dX7_airComesNew_28 rfl (lv_at hl 3 rfl) ?_
          obtain ⟨x22, hy23, hf⟩ := dq_b hf
          refine ct_callV0 (ci := 6) (q0 := 0) (own := RX7) (As := [.int n2]) (rest := []) (ws' := (w_X7 y a r_airs r_sitters r_stepMany r_today r_taken r_isStill r_thrown r_letterMany r_at0 r_isBad r_statements r_stepsMany r_hasImage r_place0 r_isTaking r_keptIn r_turned r_rowMany r_seed r_warms r_shutAt r_kinds0 r_figures r_airAt r_ways r_crowned r_sitsAt r_shawls r_isOn r_stepOf r_stepBy r_refusals r_letters r_placeIn r_letterOf r_numbers r_stepsRead r_stepsBy r_kept r_keptWarms r_i_imaged r_imagedWarms r_turns0 r_turnWarms0 r_turnOf r_turnWarms r_row0 r_gains r_pegSort r_pegMany r_pegHolds r_coats r_coatsMoved)) ⟨hx, hb, hml, hown, hts⟩ (m_X7_isFree l D y a r_airs r_sitters r_stepMany r_today r_taken r_isStill r_thrown r_letterMany r_at0 r_isBad r_statements r_stepsMany r_hasImage r_place0 r_isTaking r_keptIn r_turned r_rowMany r_seed r_warms r_shutAt r_kinds0 r_figures r_airAt r_ways r_crowned r_sitsAt r_shawls r_isOn r_stepOf r_stepBy r_refusals r_letters r_placeIn r_letterOf r_numbers r_stepsRead r_stepsBy r_kept r_keptWarms r_i_imaged r_imagedWarms r_turns0 r_turnWarms0 r_turnOf r_turnWarms r_row0 r_gains r_pegSort r_pegMany r_pegHolds r_coats r_coatsMoved n2 x22 hy23) (cwV 1 hts (gA_V wl_426 wl_427 wl_428 wl_5 wl_429) rfl rfl rfl (by decide +kernel) ⟨Nat.le_of_ble_eq_true rfl, Nat.le_of_ble_eq_true rfl⟩) rfl rfl rfl hl.1 rfl (Nat.le_of_ble_eq_true rfl) dX7_airComesNew_29 ⟨Nat.zero_le _, Nat.zero_le _⟩ hK hP hD hS hA (fun H locs hP hD hS => ?_)
          refine lv_if_eq (tgt := 39) hx hb dX7_airComesNew_32 (by decide) (fun c24 => ?_) (fun c24 => ?_)
          · have hf := dq_t hf c24
            clear c24
            refine lv_iconst (v := 0) hx hb dX7_airComesNew_39 (by decide) ?_
            exact J40 _ hf _ _ hP hD hS _ (lv_sub hl [0, 1, 2, 3, 4] rfl)
          · have hf := dq_f hf c24
            clear c24
            refine lv_iconst (v := 1) hx hb dX7_airComesNew_35 (by decide) ?_
            refine lv_goto (tgt := 40) hx hb dX7_airComesNew_36 (by decide) ?_
            exact J40 _ hf _ _ hP hD hS _ (lv_sub hl [0, 1, 2, 3, 4] rfl)
noncomputable def f_X7_sitterComes_b29 (n0 : Int32) (n1 : Int32) (r_sitters : Int32) (r_sitsAt : (Nat → Int32)) (r_shawls : (Nat → Int32)) (r_isOn : (Nat → Int32))  (x3 : Int32) : Option (Int32 × Int32 × (Nat → Int32) × (Nat → Int32) × (Nat → Int32)) := dq_if (x3 = 0) (dq_gd (dq_z x3) (some (x3, r_sitters, r_sitsAt, r_shawls, r_isOn))) (dq_gd (vp_in r_sitters 6) (dq_let (upd r_sitsAt r_sitters.toNatClampNeg n0) (fun (r_sitsAt_7 : (Nat → Int32)) => dq_gd (vp_in r_sitters 6) (dq_let (upd r_shawls r_sitters.toNatClampNeg n1) (fun (r_shawls_9 : (Nat → Int32)) => dq_gd (vp_in r_sitters 6) (dq_let (upd r_isOn r_sitters.toNatClampNeg (1 : Int32)) (fun (r_isOn_11 : (Nat → Int32)) => dq_let (r_sitters + (1 : Int32)) (fun (x12 : Int32) => dq_gd (dq_z x3) (some (x3, x12, r_sitsAt_7, r_shawls_9, r_isOn_11))))))))))
noncomputable def f_X7_sitterComes (r_airs : Int32) (r_sitters : Int32) (r_shutAt : (Nat → Int32)) (r_airAt : (Nat → Int32)) (r_sitsAt : (Nat → Int32)) (r_shawls : (Nat → Int32)) (r_isOn : (Nat → Int32)) (n0 : Int32) (n1 : Int32) : Option (Int32 × Int32 × (Nat → Int32) × (Nat → Int32) × (Nat → Int32)) := dq_bd (f_X7_isCell n0) (fun (x1 : Int32) => dq_if (x1 = 0) (f_X7_sitterComes_b29 n0 n1 r_sitters r_sitsAt r_shawls r_isOn (0 : Int32)) (dq_if ((6 : Int32) ≤ r_sitters) (f_X7_sitterComes_b29 n0 n1 r_sitters r_sitsAt r_shawls r_isOn (0 : Int32)) (dq_bd (f_X7_isFree r_airs r_sitters r_shutAt r_airAt r_sitsAt r_isOn n0) (fun (x16 : Int32) => dq_if (x16 = 0) (f_X7_sitterComes_b29 n0 n1 r_sitters r_sitsAt r_shawls r_isOn (0 : Int32)) (f_X7_sitterComes_b29 n0 n1 r_sitters r_sitsAt r_shawls r_isOn (1 : Int32))))))
def wA_X7_sitterComes : List Cond := .code yX7_sitterComes cX7_sitterComes 4 (some .boolean) :: wsL_law
-- DraughtsTakeModel.sitterComes(II)Z
set_option maxHeartbeats 4000000 in
set_option maxRecDepth 100000 in
theorem m_X7_sitterComes (l : Launch) (D : va_G) (y : Nat → ClassId) (a : (Nat → Nat)) (r_airs : Int32) (r_sitters : Int32) (r_stepMany : Int32) (r_today : Int32) (r_taken : Int32) (r_isStill : Int32) (r_thrown : Int32) (r_letterMany : Int32) (r_at0 : Int32) (r_isBad : Int32) (r_statements : Int32) (r_stepsMany : Int32) (r_hasImage : Int32) (r_place0 : Int32) (r_isTaking : Int32) (r_keptIn : Value) (r_turned : Int32) (r_rowMany : Int32) (r_seed : Int32) (r_warms : (Nat → UInt32)) (r_shutAt : (Nat → Int32)) (r_kinds0 : (Nat → Int32)) (r_figures : (Nat → Int32)) (r_airAt : (Nat → Int32)) (r_ways : (Nat → Int32)) (r_crowned : (Nat → Int32)) (r_sitsAt : (Nat → Int32)) (r_shawls : (Nat → Int32)) (r_isOn : (Nat → Int32)) (r_stepOf : (Nat → Int32)) (r_stepBy : (Nat → Int32)) (r_refusals : (Nat → Int32)) (r_letters : (Nat → Int32)) (r_placeIn : (Nat → Int32)) (r_letterOf : (Nat → Int32)) (r_numbers : (Nat → Int32)) (r_stepsRead : (Nat → Int32)) (r_stepsBy : (Nat → Int32)) (r_kept : (Nat → Int32)) (r_keptWarms : (Nat → UInt32)) (r_i_imaged : (Nat → Int32)) (r_imagedWarms : (Nat → UInt32)) (r_turns0 : (Nat → Int32)) (r_turnWarms0 : (Nat → UInt32)) (r_turnOf : (Nat → Int32)) (r_turnWarms : (Nat → UInt32)) (r_row0 : (Nat → Int32)) (r_gains : (Nat → Int32)) (r_pegSort : (Nat → Int32)) (r_pegMany : (Nat → Int32)) (r_pegHolds : (Nat → Int32)) (r_coats : (Nat → Int32)) (r_coatsMoved : (Nat → Int32)) (n0 : Int32) (n1 : Int32) (z0 : Int32) (z1 : Int32) (z2 : (Nat → Int32)) (z3 : (Nat → Int32)) (z4 : (Nat → Int32)) (hf : f_X7_sitterComes r_airs r_sitters r_shutAt r_airAt r_sitsAt r_shawls r_isOn n0 n1 = some (z0, z1, z2, z3, z4)) : Ct l D y yX7_sitterComes wA_X7_sitterComes 3 65 [.ref (a 0), .int n0, .int n1] (w_X7 y a r_airs r_sitters r_stepMany r_today r_taken r_isStill r_thrown r_letterMany r_at0 r_isBad r_statements r_stepsMany r_hasImage r_place0 r_isTaking r_keptIn r_turned r_rowMany r_seed r_warms r_shutAt r_kinds0 r_figures r_airAt r_ways r_crowned r_sitsAt r_shawls r_isOn r_stepOf r_stepBy r_refusals r_letters r_placeIn r_letterOf r_numbers r_stepsRead r_stepsBy r_kept r_keptWarms r_i_imaged r_imagedWarms r_turns0 r_turnWarms0 r_turnOf r_turnWarms r_row0 r_gains r_pegSort r_pegMany r_pegHolds r_coats r_coatsMoved) (w_X7 y a r_airs z1 r_stepMany r_today r_taken r_isStill r_thrown r_letterMany r_at0 r_isBad r_statements r_stepsMany r_hasImage r_place0 r_isTaking r_keptIn r_turned r_rowMany r_seed r_warms r_shutAt r_kinds0 r_figures r_airAt r_ways r_crowned z2 z3 z4 r_stepOf r_stepBy r_refusals r_letters r_placeIn r_letterOf r_numbers r_stepsRead r_stepsBy r_kept r_keptWarms r_i_imaged r_imagedWarms r_turns0 r_turnWarms0 r_turnOf r_turnWarms r_row0 r_gains r_pegSort r_pegMany r_pegHolds r_coats r_coatsMoved) (some (.int z0)) := by
  refine ct_head (cc := cX7_sitterComes) (n := 4) (ret := (some .boolean)) (by decide) rfl (Nat.le_of_ble_eq_true rfl) ?_
  intro p e s m below meth c A ls hx hb hr hml hown hlocks hts hA hAe hP hK hD hl
  have hS : va_S A s.heap s.heap [] := va_S.rf
  have hl : lv_has ls 4 [(0, .ref (a 0)), (1, .int n0), (2, .int n1)] := hl
  have hown : s.vm.findClass RX7 = some m.cls := hown
  have hts : ∀ w ∈ wsL_law, w.before [.ref (a 0), .int n0, .int n1].toArray s = true := fun w h => hts w (List.mem_cons_of_mem _ h)
  unfold f_X7_sitterComes at hf
  refine lv_iload_n hx hb dX7_sitterComes_0 rfl (lv_at hl 1 rfl) ?_
  obtain ⟨x1, hy2, hf⟩ := dq_b hf
  refine ct_callS0 (own := RX7) (As := [.int n0]) (rest := []) ⟨hx, hb, hml, hown, hts⟩ (m_X7_isCell l D y n0 x1 hy2) (va_cwS 1 hts (gA_S wl_422 wl_423 wl_5 wl_424) rfl rfl rfl (by decide +kernel) ⟨Nat.le_of_ble_eq_true rfl, Nat.le_of_ble_eq_true rfl⟩) rfl hl.1 rfl (Nat.le_of_ble_eq_true rfl) dX7_sitterComes_1 ⟨Nat.zero_le _, Nat.zero_le _⟩ hK hP hD hS hA (fun H locs hP hD hS => ?_)
  have J29 : ∀ (x3 : Int32), f_X7_sitterComes_b29 n0 n1 r_sitters r_sitsAt r_shawls r_isOn x3 = some (z0, z1, z2, z3, z4) → ∀ (H : Heap) (locs : List Loc), va_P D vwCl (w_X7 y a r_airs r_sitters r_stepMany r_today r_taken r_isStill r_thrown r_letterMany r_at0 r_isBad r_statements r_stepsMany r_hasImage r_place0 r_isTaking r_keptIn r_turned r_rowMany r_seed r_warms r_shutAt r_kinds0 r_figures r_airAt r_ways r_crowned r_sitsAt r_shawls r_isOn r_stepOf r_stepBy r_refusals r_letters r_placeIn r_letterOf r_numbers r_stepsRead r_stepsBy r_kept r_keptWarms r_i_imaged r_imagedWarms r_turns0 r_turnWarms0 r_turnOf r_turnWarms r_row0 r_gains r_pegSort r_pegMany r_pegHolds r_coats r_coatsMoved) H → va_D A (w_X7 y a r_airs r_sitters r_stepMany r_today r_taken r_isStill r_thrown r_letterMany r_at0 r_isBad r_statements r_stepsMany r_hasImage r_place0 r_isTaking r_keptIn r_turned r_rowMany r_seed r_warms r_shutAt r_kinds0 r_figures r_airAt r_ways r_crowned r_sitsAt r_shawls r_isOn r_stepOf r_stepBy r_refusals r_letters r_placeIn r_letterOf r_numbers r_stepsRead r_stepsBy r_kept r_keptWarms r_i_imaged r_imagedWarms r_turns0 r_turnWarms0 r_turnOf r_turnWarms r_row0 r_gains r_pegSort r_pegMany r_pegHolds r_coats r_coatsMoved) → va_S A s.heap H locs → ∀ ls : Array Slot, lv_has ls 4 [(0, .ref (a 0)), (1, .int n0), (2, .int n1)] → W p l e ({ frames := 3, cells := 0, slots := 0, locals := 65 } : Room) s m [.ref (a 0), .int n0, .int n1].toArray below meth c H locs 0 0 (MQ below (dQ D y (some (.int z0)) s.heap.size (w_X7 y a r_airs r_sitters r_stepMany r_today r_taken r_isStill r_thrown r_letterMany r_at0 r_isBad r_statements r_stepsMany r_hasImage r_place0 r_isTaking r_keptIn r_turned r_rowMany r_seed r_warms r_shutAt r_kinds0 r_figures r_airAt r_ways r_crowned r_sitsAt r_shawls r_isOn r_stepOf r_stepBy r_refusals r_letters r_placeIn r_letterOf r_numbers r_stepsRead r_stepsBy r_kept r_keptWarms r_i_imaged r_imagedWarms r_turns0 r_turnWarms0 r_turnOf r_turnWarms r_row0 r_gains r_pegSort r_pegMany r_pegHolds r_coats r_coatsMoved) (w_X7 y a r_airs z1 r_stepMany r_today r_taken r_isStill r_thrown r_letterMany r_at0 r_isBad r_statements r_stepsMany r_hasImage r_place0 r_isTaking r_keptIn r_turned r_rowMany r_seed r_warms r_shutAt r_kinds0 r_figures r_airAt r_ways r_crowned z2 z3 z4 r_stepOf r_stepBy r_refusals r_letters r_placeIn r_letterOf r_numbers r_stepsRead r_stepsBy r_kept r_keptWarms r_i_imaged r_imagedWarms r_turns0 r_turnWarms0 r_turnOf r_turnWarms r_row0 r_gains r_pegSort r_pegMany r_pegHolds r_coats r_coatsMoved)) [.ref (a 0), .int n0, .int n1].toArray s 0 0 A) (F0 m 29 ls [.int x3]) := by
    intro x3 hf H locs hP hD hS ls hl
    unfold f_X7_sitterComes_b29 at hf
    refine lv_istore_n (lv' := [(3, .int x3), (0, .ref (a 0)), (1, .int n0), (2, .int n1)]) hx hb dX7_sitterComes_29 rfl hl (by decide) rfl (fun ls hl => ?_)
    refine lv_iload_n hx hb dX7_sitterComes_30 rfl (lv_at hl 0 rfl) ?_
    refine lv_if_eq (tgt := 74) hx hb dX7_sitterComes_31 (by decide) (fun c4 => ?_) (fun c4 => ?_)
    · have hf := dq_t hf c4
      clear c4
      refine lv_iload_n hx hb dX7_sitterComes_74 rfl (lv_at hl 0 rfl) ?_
      obtain ⟨h5, hf⟩ := dq_g hf
      obtain ⟨rfl, rfl, rfl, rfl, rfl⟩ := dq_r5 hf
      exact ct_zret hx hb hr (dq_zn h5) hlocks hAe hP hK hD hS dX7_sitterComes_75
    · have hf := dq_f hf c4
      clear c4
      refine lv_aload_n hx hb dX7_sitterComes_34 rfl (lv_at hl 1 rfl) ?_
      refine va_get (D := D) (ci := 6) (v := .ref (a 8)) (C := RX7) (T := TX7) (N := 53) hx hb hts iwX7 hown hK hP 0 rfl rfl 9 (by decide) (hts _ wl_88) (fun _ h9 => h9) rfl dX7_sitterComes_35 ?_
      refine lv_aload_n hx hb dX7_sitterComes_38 rfl (lv_at hl 1 rfl) ?_
      refine va_get (D := D) (ci := 6) (v := .int r_sitters) (C := RX7) (T := TX7) (N := 53) hx hb hts iwX7 hown hK hP 0 rfl rfl 8 (by decide) (hts _ wl_406) (fun _ h9 => h9) rfl dX7_sitterComes_39 ?_
      refine lv_iload_n hx hb dX7_sitterComes_42 rfl (lv_at hl 2 rfl) ?_
      obtain ⟨h6, hf⟩ := dq_g hf
      refine dq_iast (cA := y 1) (n := 6) (f := r_sitsAt) hx hb hK hP hD hS 8 1 rfl rfl h6 dX7_sitterComes_43 (fun r_sitsAt_7 er_sitsAt_7 H locs hP hD hS => ?_)
      have hf := dq_l hf r_sitsAt_7 er_sitsAt_7
      clear er_sitsAt_7
      have hP : va_P D vwCl (w_X7 y a r_airs r_sitters r_stepMany r_today r_taken r_isStill r_thrown r_letterMany r_at0 r_isBad r_statements r_stepsMany r_hasImage r_place0 r_isTaking r_keptIn r_turned r_rowMany r_seed r_warms r_shutAt r_kinds0 r_figures r_airAt r_ways r_crowned r_sitsAt_7 r_shawls r_isOn r_stepOf r_stepBy r_refusals r_letters r_placeIn r_letterOf r_numbers r_stepsRead r_stepsBy r_kept r_keptWarms r_i_imaged r_imagedWarms r_turns0 r_turnWarms0 r_turnOf r_turnWarms r_row0 r_gains r_pegSort r_pegMany r_pegHolds r_coats r_coatsMoved) H := hP
      have hD : va_D A (w_X7 y a r_airs r_sitters r_stepMany r_today r_taken r_isStill r_thrown r_letterMany r_at0 r_isBad r_statements r_stepsMany r_hasImage r_place0 r_isTaking r_keptIn r_turned r_rowMany r_seed r_warms r_shutAt r_kinds0 r_figures r_airAt r_ways r_crowned r_sitsAt_7 r_shawls r_isOn r_stepOf r_stepBy r_refusals r_letters r_placeIn r_letterOf r_numbers r_stepsRead r_stepsBy r_kept r_keptWarms r_i_imaged r_imagedWarms r_turns0 r_turnWarms0 r_turnOf r_turnWarms r_row0 r_gains r_pegSort r_pegMany r_pegHolds r_coats r_coatsMoved) := hD
      refine lv_aload_n hx hb dX7_sitterComes_44 rfl (lv_at hl 1 rfl) ?_
      refine va_get (D := D) (ci := 6) (v := .ref (a 9)) (C := RX7) (T := TX7) (N := 53) hx hb hts iwX7 hown hK hP 0 rfl rfl 10 (by decide) (hts _ wl_89) (fun _ h9 => h9) rfl dX7_sitterComes_45 ?_
      refine lv_aload_n hx hb dX7_sitterComes_48 rfl (lv_at hl 1 rfl) ?_
      refine va_get (D := D) (ci := 6) (v := .int r_sitters) (C := RX7) (T := TX7) (N := 53) hx hb hts iwX7 hown hK hP 0 rfl rfl 8 (by decide) (hts _ wl_406) (fun _ h9 => h9) rfl dX7_sitterComes_49 ?_
      refine lv_iload_n hx hb dX7_sitterComes_52 rfl (lv_at hl 3 rfl) ?_
      obtain ⟨h8, hf⟩ := dq_g hf
      refine dq_iast (cA := y 1) (n := 6) (f := r_shawls) hx hb hK hP hD hS 9 1 rfl rfl h8 dX7_sitterComes_53 (fun r_shawls_9 er_shawls_9 H locs hP hD hS => ?_)
      have hf := dq_l hf r_shawls_9 er_shawls_9
      clear er_shawls_9
      have hP : va_P D vwCl (w_X7 y a r_airs r_sitters r_stepMany r_today r_taken r_isStill r_thrown r_letterMany r_at0 r_isBad r_statements r_stepsMany r_hasImage r_place0 r_isTaking r_keptIn r_turned r_rowMany r_seed r_warms r_shutAt r_kinds0 r_figures r_airAt r_ways r_crowned r_sitsAt_7 r_shawls_9 r_isOn r_stepOf r_stepBy r_refusals r_letters r_placeIn r_letterOf r_numbers r_stepsRead r_stepsBy r_kept r_keptWarms r_i_imaged r_imagedWarms r_turns0 r_turnWarms0 r_turnOf r_turnWarms r_row0 r_gains r_pegSort r_pegMany r_pegHolds r_coats r_coatsMoved) H := hP
      have hD : va_D A (w_X7 y a r_airs r_sitters r_stepMany r_today r_taken r_isStill r_thrown r_letterMany r_at0 r_isBad r_statements r_stepsMany r_hasImage r_place0 r_isTaking r_keptIn r_turned r_rowMany r_seed r_warms r_shutAt r_kinds0 r_figures r_airAt r_ways r_crowned r_sitsAt_7 r_shawls_9 r_isOn r_stepOf r_stepBy r_refusals r_letters r_placeIn r_letterOf r_numbers r_stepsRead r_stepsBy r_kept r_keptWarms r_i_imaged r_imagedWarms r_turns0 r_turnWarms0 r_turnOf r_turnWarms r_row0 r_gains r_pegSort r_pegMany r_pegHolds r_coats r_coatsMoved) := hD
      refine lv_aload_n hx hb dX7_sitterComes_54 rfl (lv_at hl 1 rfl) ?_
      refine va_get (D := D) (ci := 6) (v := .ref (a 10)) (C := RX7) (T := TX7) (N := 53) hx hb hts iwX7 hown hK hP 0 rfl rfl 11 (by decide) (hts _ wl_90) (fun _ h9 => h9) rfl dX7_sitterComes_55 ?_
      refine lv_aload_n hx hb dX7_sitterComes_58 rfl (lv_at hl 1 rfl) ?_
      refine va_get (D := D) (ci := 6) (v := .int r_sitters) (C := RX7) (T := TX7) (N := 53) hx hb hts iwX7 hown hK hP 0 rfl rfl 8 (by decide) (hts _ wl_406) (fun _ h9 => h9) rfl dX7_sitterComes_59 ?_
      refine lv_iconst (v := 1) hx hb dX7_sitterComes_62 (by decide) ?_
      obtain ⟨h10, hf⟩ := dq_g hf
      refine dq_iast (cA := y 1) (n := 6) (f := r_isOn) hx hb hK hP hD hS 10 1 rfl rfl h10 dX7_sitterComes_63 (fun r_isOn_11 er_isOn_11 H locs hP hD hS => ?_)
      have hf := dq_l hf r_isOn_11 er_isOn_11
      clear er_isOn_11
      have hP : va_P D vwCl (w_X7 y a r_airs r_sitters r_stepMany r_today r_taken r_isStill r_thrown r_letterMany r_at0 r_isBad r_statements r_stepsMany r_hasImage r_place0 r_isTaking r_keptIn r_turned r_rowMany r_seed r_warms r_shutAt r_kinds0 r_figures r_airAt r_ways r_crowned r_sitsAt_7 r_shawls_9 r_isOn_11 r_stepOf r_stepBy r_refusals r_letters r_placeIn r_letterOf r_numbers r_stepsRead r_stepsBy r_kept r_keptWarms r_i_imaged r_imagedWarms r_turns0 r_turnWarms0 r_turnOf r_turnWarms r_row0 r_gains r_pegSort r_pegMany r_pegHolds r_coats r_coatsMoved) H := hP
      have hD : va_D A (w_X7 y a r_airs r_sitters r_stepMany r_today r_taken r_isStill r_thrown r_letterMany r_at0 r_isBad r_statements r_stepsMany r_hasImage r_place0 r_isTaking r_keptIn r_turned r_rowMany r_seed r_warms r_shutAt r_kinds0 r_figures r_airAt r_ways r_crowned r_sitsAt_7 r_shawls_9 r_isOn_11 r_stepOf r_stepBy r_refusals r_letters r_placeIn r_letterOf r_numbers r_stepsRead r_stepsBy r_kept r_keptWarms r_i_imaged r_imagedWarms r_turns0 r_turnWarms0 r_turnOf r_turnWarms r_row0 r_gains r_pegSort r_pegMany r_pegHolds r_coats r_coatsMoved) := hD
      refine lv_aload_n hx hb dX7_sitterComes_64 rfl (lv_at hl 1 rfl) ?_
      refine lv_dup hx hb dX7_sitterComes_65 rfl ?_
      refine va_get (D := D) (ci := 6) (v := .int r_sitters) (C := RX7) (T := TX7) (N := 53) hx hb hts iwX7 hown hK hP 0 rfl rfl 8 (by decide) (hts _ wl_406) (fun _ h9 => h9) rfl dX7_sitterComes_66 ?_
      refine lv_iconst (v := 1) hx hb dX7_sitterComes_69 (by decide) ?_
      refine lv_iadd hx hb dX7_sitterComes_70 ?_
      refine lv_topi (fun x12 ex12 => ?_)
      have hf := dq_l hf x12 ex12
      clear ex12
      refine va_put (D := D) (ci := 6) (v := .int x12) (ty := .int) (C := RX7) (T := TX7) (N := 53) hx hb hts iwX7 tyX7 tyX7_ok nmX7 hown hK hP hD hS 0 rfl rfl 8 (by decide) (hts _ wl_406) (fun _ h9 => h9) rfl (tyX7_ok 8 (by decide)) rfl rfl (Nat.le_of_ble_eq_true rfl) dX7_sitterComes_71 (fun H locs hP hD hS => ?_)
      have hP : va_P D vwCl (w_X7 y a r_airs x12 r_stepMany r_today r_taken r_isStill r_thrown r_letterMany r_at0 r_isBad r_statements r_stepsMany r_hasImage r_place0 r_isTaking r_keptIn r_turned r_rowMany r_seed r_warms r_shutAt r_kinds0 r_figures r_airAt r_ways r_crowned r_sitsAt_7 r_shawls_9 r_isOn_11 r_stepOf r_stepBy r_refusals r_letters r_placeIn r_letterOf r_numbers r_stepsRead r_stepsBy r_kept r_keptWarms r_i_imaged r_imagedWarms r_turns0 r_turnWarms0 r_turnOf r_turnWarms r_row0 r_gains r_pegSort r_pegMany r_pegHolds r_coats r_coatsMoved) H := hP
      have hD : va_D A (w_X7 y a r_airs x12 r_stepMany r_today r_taken r_isStill r_thrown r_letterMany r_at0 r_isBad r_statements r_stepsMany r_hasImage r_place0 r_isTaking r_keptIn r_turned r_rowMany r_seed r_warms r_shutAt r_kinds0 r_figures r_airAt r_ways r_crowned r_sitsAt_7 r_shawls_9 r_isOn_11 r_stepOf r_stepBy r_refusals r_letters r_placeIn r_letterOf r_numbers r_stepsRead r_stepsBy r_kept r_keptWarms r_i_imaged r_imagedWarms r_turns0 r_turnWarms0 r_turnOf r_turnWarms r_row0 r_gains r_pegSort r_pegMany r_pegHolds r_coats r_coatsMoved) := hD
      refine lv_iload_n hx hb dX7_sitterComes_74 rfl (lv_at hl 0 rfl) ?_
      obtain ⟨h13, hf⟩ := dq_g hf
      obtain ⟨rfl, rfl, rfl, rfl, rfl⟩ := dq_r5 hf
      exact ct_zret hx hb hr (dq_zn h13) hlocks hAe hP hK hD hS dX7_sitterComes_75
  refine lv_if_eq (tgt := 28) hx hb dX7_sitterComes_4 (by decide) (fun c14 => ?_) (fun c14 => ?_)
  · have hf := dq_t hf c14
    clear c14
    refine lv_iconst (v := 0) hx hb dX7_sitterComes_28 (by decide) ?_
    exact J29 _ hf _ _ hP hD hS _ (lv_sub hl [0, 1, 2] rfl)
  · have hf := dq_f hf c14
    clear c14
    refine lv_aload_n hx hb dX7_sitterComes_7 rfl (lv_at hl 0 rfl) ?_
    refine va_get (D := D) (ci := 6) (v := .int r_sitters) (C := RX7) (T := TX7) (N := 53) hx hb hts iwX7 hown hK hP 0 rfl rfl 8 (by decide) (hts _ wl_406) (fun _ h9 => h9) rfl dX7_sitterComes_8 ?_
    refine lv_bipush (v := 6) hx hb dX7_sitterComes_11 (by decide) ?_
    refine lv_icmp_ge (tgt := 28) hx hb dX7_sitterComes_13 (by decide) (fun c15 => ?_) (fun c15 => ?_)
    · have hf := dq_t hf c15
      clear c15
      refine lv_iconst (v := 0) hx hb dX7_sitterComes_28 (by decide) ?_
      exact J29 _ hf _ _ hP hD hS _ (lv_sub hl [0, 1, 2] rfl)
    · have hf := dq_f hf c15
      clear c15
      refine lv_aload_n hx hb dX7_sitterComes_16 rfl (lv_at hl 0 rfl) ?_
      refine lv_iload_n hx hb dX7_sitterComes_17 rfl (lv_at hl 1 rfl) ?_
      obtain ⟨x16, hy17, hf⟩ := dq_b hf
      refine ct_callV0 (ci := 6) (q0 := 0) (own := RX7) (As := [.int n0]) (rest := []) (ws' := (w_X7 y a r_airs r_sitters r_stepMany r_today r_taken r_isStill r_thrown r_letterMany r_at0 r_isBad r_statements r_stepsMany r_hasImage r_place0 r_isTaking r_keptIn r_turned r_rowMany r_seed r_warms r_shutAt r_kinds0 r_figures r_airAt r_ways r_crowned r_sitsAt r_shawls r_isOn r_stepOf r_stepBy r_refusals r_letters r_placeIn r_letterOf r_numbers r_stepsRead r_stepsBy r_kept r_keptWarms r_i_imaged r_imagedWarms r_turns0 r_turnWarms0 r_turnOf r_turnWarms r_row0 r_gains r_pegSort r_pegMany r_pegHolds r_coats r_coatsMoved)) ⟨hx, hb, hml, hown, hts⟩ (m_X7_isFree l D y a r_airs r_sitters r_stepMany r_today r_taken r_isStill r_thrown r_letterMany r_at0 r_isBad r_statements r_stepsMany r_hasImage r_place0 r_isTaking r_keptIn r_turned r_rowMany r_seed r_warms r_shutAt r_kinds0 r_figures r_airAt r_ways r_crowned r_sitsAt r_shawls r_isOn r_stepOf r_stepBy r_refusals r_letters r_placeIn r_letterOf r_numbers r_stepsRead r_stepsBy r_kept r_keptWarms r_i_imaged r_imagedWarms r_turns0 r_turnWarms0 r_turnOf r_turnWarms r_row0 r_gains r_pegSort r_pegMany r_pegHolds r_coats r_coatsMoved n0 x16 hy17) (cwV 1 hts (gA_V wl_426 wl_427 wl_428 wl_5 wl_429) rfl rfl rfl (by decide +kernel) ⟨Nat.le_of_ble_eq_true rfl, Nat.le_of_ble_eq_true rfl⟩) rfl rfl rfl hl.1 rfl (Nat.le_of_ble_eq_true rfl) dX7_sitterComes_18 ⟨Nat.zero_le _, Nat.zero_le _⟩ hK hP hD hS hA (fun H locs hP hD hS => ?_)
      refine lv_if_eq (tgt := 28) hx hb dX7_sitterComes_21 (by decide) (fun c18 => ?_) (fun c18 => ?_)
      · have hf := dq_t hf c18
        clear c18
        refine lv_iconst (v := 0) hx hb dX7_sitterComes_28 (by decide) ?_
        exact J29 _ hf _ _ hP hD hS _ (lv_sub hl [0, 1, 2] rfl)
      · have hf := dq_f hf c18
        clear c18
        refine lv_iconst (v := 1) hx hb dX7_sitterComes_24 (by decide) ?_
        refine lv_goto (tgt := 29) hx hb dX7_sitterComes_25 (by decide) ?_
        exact J29 _ hf _ _ hP hD hS _ (lv_sub hl [0, 1, 2] rfl)
noncomputable def f_X7_feed (r_letterMany : Int32) (r_refusals : (Nat → Int32)) (r_letters : (Nat → Int32)) (n0 : Int32) : Option (Int32 × Int32 × Int32 × (Nat → Int32) × (Nat → Int32)) := dq_if (0 ≤ n0) (dq_if ((255 : Int32) < n0) (dq_bd2 (f_X7_refuse r_refusals (-6 : Int32)) (fun (x3 : Int32) (r_refusals_4 : (Nat → Int32)) => some (x3, (0 : Int32), r_letterMany, r_refusals_4, r_letters))) (dq_if (r_letterMany = (96 : Int32)) (dq_bd2 (f_X7_refuse r_refusals (-6 : Int32)) (fun (x10 : Int32) (r_refusals_11 : (Nat → Int32)) => some (x10, (0 : Int32), r_letterMany, r_refusals_11, r_letters))) (dq_gd (vp_in r_letterMany 96) (dq_let (upd r_letters r_letterMany.toNatClampNeg n0) (fun (r_letters_8 : (Nat → Int32)) => dq_let (r_letterMany + (1 : Int32)) (fun (x9 : Int32) => some (x9, (0 : Int32), x9, r_refusals, r_letters_8))))))) (dq_bd2 (f_X7_refuse r_refusals (-4 : Int32)) (fun (x13 : Int32) (r_refusals_14 : (Nat → Int32)) => some (x13, (0 : Int32), r_letterMany, r_refusals_14, r_letters)))
def wA_X7_feed : List Cond := .code yX7_feed cX7_feed 2 (some .int) :: wsL_law
-- DraughtsTakeModel.feed(I)I
set_option maxHeartbeats 4000000 in
set_option maxRecDepth 100000 in
theorem m_X7_feed (l : Launch) (D : va_G) (y : Nat → ClassId) (a : (Nat → Nat)) (r_airs : Int32) (r_sitters : Int32) (r_stepMany : Int32) (r_today : Int32) (r_taken : Int32) (r_isStill : Int32) (r_thrown : Int32) (r_letterMany : Int32) (r_at0 : Int32) (r_isBad : Int32) (r_statements : Int32) (r_stepsMany : Int32) (r_hasImage : Int32) (r_place0 : Int32) (r_isTaking : Int32) (r_keptIn : Value) (r_turned : Int32) (r_rowMany : Int32) (r_seed : Int32) (r_warms : (Nat → UInt32)) (r_shutAt : (Nat → Int32)) (r_kinds0 : (Nat → Int32)) (r_figures : (Nat → Int32)) (r_airAt : (Nat → Int32)) (r_ways : (Nat → Int32)) (r_crowned : (Nat → Int32)) (r_sitsAt : (Nat → Int32)) (r_shawls : (Nat → Int32)) (r_isOn : (Nat → Int32)) (r_stepOf : (Nat → Int32)) (r_stepBy : (Nat → Int32)) (r_refusals : (Nat → Int32)) (r_letters : (Nat → Int32)) (r_placeIn : (Nat → Int32)) (r_letterOf : (Nat → Int32)) (r_numbers : (Nat → Int32)) (r_stepsRead : (Nat → Int32)) (r_stepsBy : (Nat → Int32)) (r_kept : (Nat → Int32)) (r_keptWarms : (Nat → UInt32)) (r_i_imaged : (Nat → Int32)) (r_imagedWarms : (Nat → UInt32)) (r_turns0 : (Nat → Int32)) (r_turnWarms0 : (Nat → UInt32)) (r_turnOf : (Nat → Int32)) (r_turnWarms : (Nat → UInt32)) (r_row0 : (Nat → Int32)) (r_gains : (Nat → Int32)) (r_pegSort : (Nat → Int32)) (r_pegMany : (Nat → Int32)) (r_pegHolds : (Nat → Int32)) (r_coats : (Nat → Int32)) (r_coatsMoved : (Nat → Int32)) (n0 : Int32) (z0 : Int32) (z1 : Int32) (z2 : Int32) (z3 : (Nat → Int32)) (z4 : (Nat → Int32)) (hf : f_X7_feed r_letterMany r_refusals r_letters n0 = some (z0, z1, z2, z3, z4)) : Ct l D y yX7_feed wA_X7_feed 1 21 [.ref (a 0), .int n0] (w_X7 y a r_airs r_sitters r_stepMany r_today r_taken r_isStill r_thrown r_letterMany r_at0 r_isBad r_statements r_stepsMany r_hasImage r_place0 r_isTaking r_keptIn r_turned r_rowMany r_seed r_warms r_shutAt r_kinds0 r_figures r_airAt r_ways r_crowned r_sitsAt r_shawls r_isOn r_stepOf r_stepBy r_refusals r_letters r_placeIn r_letterOf r_numbers r_stepsRead r_stepsBy r_kept r_keptWarms r_i_imaged r_imagedWarms r_turns0 r_turnWarms0 r_turnOf r_turnWarms r_row0 r_gains r_pegSort r_pegMany r_pegHolds r_coats r_coatsMoved) (w_X7 y a r_airs r_sitters r_stepMany r_today r_taken r_isStill z1 z2 r_at0 r_isBad r_statements r_stepsMany r_hasImage r_place0 r_isTaking r_keptIn r_turned r_rowMany r_seed r_warms r_shutAt r_kinds0 r_figures r_airAt r_ways r_crowned r_sitsAt r_shawls r_isOn r_stepOf r_stepBy z3 z4 r_placeIn r_letterOf r_numbers r_stepsRead r_stepsBy r_kept r_keptWarms r_i_imaged r_imagedWarms r_turns0 r_turnWarms0 r_turnOf r_turnWarms r_row0 r_gains r_pegSort r_pegMany r_pegHolds r_coats r_coatsMoved) (some (.int z0)) := by
  refine ct_head (cc := cX7_feed) (n := 2) (ret := (some .int)) (by decide) rfl (Nat.le_of_ble_eq_true rfl) ?_
  intro p e s m below meth c A ls hx hb hr hml hown hlocks hts hA hAe hP hK hD hl
  have hS : va_S A s.heap s.heap [] := va_S.rf
  have hl : lv_has ls 2 [(0, .ref (a 0)), (1, .int n0)] := hl
  have hown : s.vm.findClass RX7 = some m.cls := hown
  have hts : ∀ w ∈ wsL_law, w.before [.ref (a 0), .int n0].toArray s = true := fun w h => hts w (List.mem_cons_of_mem _ h)
  unfold f_X7_feed at hf
  refine lv_aload_n hx hb dX7_feed_0 rfl (lv_at hl 0 rfl) ?_
  refine lv_iconst (v := 0) hx hb dX7_feed_1 (by decide) ?_
  refine va_put (D := D) (ci := 6) (v := .int (0 : Int32)) (ty := .int) (C := RX7) (T := TX7) (N := 53) hx hb hts iwX7 tyX7 tyX7_ok nmX7 hown hK hP hD hS 0 rfl rfl 18 (by decide) (hts _ wl_116) (fun _ h9 => h9) rfl (tyX7_ok 18 (by decide)) rfl rfl (Nat.le_of_ble_eq_true rfl) dX7_feed_2 (fun H locs hP hD hS => ?_)
  have hP : va_P D vwCl (w_X7 y a r_airs r_sitters r_stepMany r_today r_taken r_isStill (0 : Int32) r_letterMany r_at0 r_isBad r_statements r_stepsMany r_hasImage r_place0 r_isTaking r_keptIn r_turned r_rowMany r_seed r_warms r_shutAt r_kinds0 r_figures r_airAt r_ways r_crowned r_sitsAt r_shawls r_isOn r_stepOf r_stepBy r_refusals r_letters r_placeIn r_letterOf r_numbers r_stepsRead r_stepsBy r_kept r_keptWarms r_i_imaged r_imagedWarms r_turns0 r_turnWarms0 r_turnOf r_turnWarms r_row0 r_gains r_pegSort r_pegMany r_pegHolds r_coats r_coatsMoved) H := hP
  have hD : va_D A (w_X7 y a r_airs r_sitters r_stepMany r_today r_taken r_isStill (0 : Int32) r_letterMany r_at0 r_isBad r_statements r_stepsMany r_hasImage r_place0 r_isTaking r_keptIn r_turned r_rowMany r_seed r_warms r_shutAt r_kinds0 r_figures r_airAt r_ways r_crowned r_sitsAt r_shawls r_isOn r_stepOf r_stepBy r_refusals r_letters r_placeIn r_letterOf r_numbers r_stepsRead r_stepsBy r_kept r_keptWarms r_i_imaged r_imagedWarms r_turns0 r_turnWarms0 r_turnOf r_turnWarms r_row0 r_gains r_pegSort r_pegMany r_pegHolds r_coats r_coatsMoved) := hD
  refine lv_iload_n hx hb dX7_feed_5 rfl (lv_at hl 1 rfl) ?_
  refine lv_if_ge (tgt := 16) hx hb dX7_feed_6 (by decide) (fun c1 => ?_) (fun c1 => ?_)
  · have hf := dq_t hf c1
    clear c1
    refine lv_iload_n hx hb dX7_feed_16 rfl (lv_at hl 1 rfl) ?_
    refine lv_sipush (v := 255) hx hb dX7_feed_17 (by decide) ?_
    refine lv_icmp_gt (tgt := 32) hx hb dX7_feed_20 (by decide) (fun c2 => ?_) (fun c2 => ?_)
    · have hf := dq_t hf c2
      clear c2
      refine lv_aload_n hx hb dX7_feed_32 rfl (lv_at hl 0 rfl) ?_
      refine lv_bipush (v := -6) hx hb dX7_feed_33 (by decide) ?_
      obtain ⟨x3, r_refusals_4, hy5, hf⟩ := dq_b2 hf
      refine ct_callV0 (ci := 6) (q0 := 0) (own := RX7) (As := [.int (-6 : Int32)]) (rest := []) (ws' := (w_X7 y a r_airs r_sitters r_stepMany r_today r_taken r_isStill (0 : Int32) r_letterMany r_at0 r_isBad r_statements r_stepsMany r_hasImage r_place0 r_isTaking r_keptIn r_turned r_rowMany r_seed r_warms r_shutAt r_kinds0 r_figures r_airAt r_ways r_crowned r_sitsAt r_shawls r_isOn r_stepOf r_stepBy r_refusals_4 r_letters r_placeIn r_letterOf r_numbers r_stepsRead r_stepsBy r_kept r_keptWarms r_i_imaged r_imagedWarms r_turns0 r_turnWarms0 r_turnOf r_turnWarms r_row0 r_gains r_pegSort r_pegMany r_pegHolds r_coats r_coatsMoved)) ⟨hx, hb, hml, hown, hts⟩ (m_X7_refuse l D y a r_airs r_sitters r_stepMany r_today r_taken r_isStill (0 : Int32) r_letterMany r_at0 r_isBad r_statements r_stepsMany r_hasImage r_place0 r_isTaking r_keptIn r_turned r_rowMany r_seed r_warms r_shutAt r_kinds0 r_figures r_airAt r_ways r_crowned r_sitsAt r_shawls r_isOn r_stepOf r_stepBy r_refusals r_letters r_placeIn r_letterOf r_numbers r_stepsRead r_stepsBy r_kept r_keptWarms r_i_imaged r_imagedWarms r_turns0 r_turnWarms0 r_turnOf r_turnWarms r_row0 r_gains r_pegSort r_pegMany r_pegHolds r_coats r_coatsMoved (-6 : Int32) x3 r_refusals_4 hy5) (cwV 1 hts (gA_V wl_133 wl_134 wl_135 wl_5 wl_136) rfl rfl rfl (by decide +kernel) ⟨Nat.le_of_ble_eq_true rfl, Nat.le_of_ble_eq_true rfl⟩) rfl rfl rfl hl.1 rfl (Nat.le_of_ble_eq_true rfl) dX7_feed_35 ⟨Nat.zero_le _, Nat.zero_le _⟩ hK hP hD hS hA (fun H locs hP hD hS => ?_)
      obtain ⟨rfl, rfl, rfl, rfl, rfl⟩ := dq_r5 hf
      exact ct_iret hx hb hr hlocks hAe hP hK hD hS dX7_feed_38
    · have hf := dq_f hf c2
      clear c2
      refine lv_aload_n hx hb dX7_feed_23 rfl (lv_at hl 0 rfl) ?_
      refine va_get (D := D) (ci := 6) (v := .int r_letterMany) (C := RX7) (T := TX7) (N := 53) hx hb hts iwX7 hown hK hP 0 rfl rfl 21 (by decide) (hts _ wl_132) (fun _ h9 => h9) rfl dX7_feed_24 ?_
      refine lv_bipush (v := 96) hx hb dX7_feed_27 (by decide) ?_
      refine lv_icmp_ne (tgt := 39) hx hb dX7_feed_29 (by decide) (fun c6 => ?_) (fun c6 => ?_)
      · have hf := dq_f hf c6
        clear c6
        refine lv_aload_n hx hb dX7_feed_39 rfl (lv_at hl 0 rfl) ?_
        refine va_get (D := D) (ci := 6) (v := .ref (a 14)) (C := RX7) (T := TX7) (N := 53) hx hb hts iwX7 hown hK hP 0 rfl rfl 20 (by decide) (hts _ wl_94) (fun _ h9 => h9) rfl dX7_feed_40 ?_
        refine lv_aload_n hx hb dX7_feed_43 rfl (lv_at hl 0 rfl) ?_
        refine va_get (D := D) (ci := 6) (v := .int r_letterMany) (C := RX7) (T := TX7) (N := 53) hx hb hts iwX7 hown hK hP 0 rfl rfl 21 (by decide) (hts _ wl_132) (fun _ h9 => h9) rfl dX7_feed_44 ?_
        refine lv_iload_n hx hb dX7_feed_47 rfl (lv_at hl 1 rfl) ?_
        obtain ⟨h7, hf⟩ := dq_g hf
        refine dq_iast (cA := y 1) (n := 96) (f := r_letters) hx hb hK hP hD hS 14 1 rfl rfl h7 dX7_feed_48 (fun r_letters_8 er_letters_8 H locs hP hD hS => ?_)
        have hf := dq_l hf r_letters_8 er_letters_8
        clear er_letters_8
        have hP : va_P D vwCl (w_X7 y a r_airs r_sitters r_stepMany r_today r_taken r_isStill (0 : Int32) r_letterMany r_at0 r_isBad r_statements r_stepsMany r_hasImage r_place0 r_isTaking r_keptIn r_turned r_rowMany r_seed r_warms r_shutAt r_kinds0 r_figures r_airAt r_ways r_crowned r_sitsAt r_shawls r_isOn r_stepOf r_stepBy r_refusals r_letters_8 r_placeIn r_letterOf r_numbers r_stepsRead r_stepsBy r_kept r_keptWarms r_i_imaged r_imagedWarms r_turns0 r_turnWarms0 r_turnOf r_turnWarms r_row0 r_gains r_pegSort r_pegMany r_pegHolds r_coats r_coatsMoved) H := hP
        have hD : va_D A (w_X7 y a r_airs r_sitters r_stepMany r_today r_taken r_isStill (0 : Int32) r_letterMany r_at0 r_isBad r_statements r_stepsMany r_hasImage r_place0 r_isTaking r_keptIn r_turned r_rowMany r_seed r_warms r_shutAt r_kinds0 r_figures r_airAt r_ways r_crowned r_sitsAt r_shawls r_isOn r_stepOf r_stepBy r_refusals r_letters_8 r_placeIn r_letterOf r_numbers r_stepsRead r_stepsBy r_kept r_keptWarms r_i_imaged r_imagedWarms r_turns0 r_turnWarms0 r_turnOf r_turnWarms r_row0 r_gains r_pegSort r_pegMany r_pegHolds r_coats r_coatsMoved) := hD
        refine lv_aload_n hx hb dX7_feed_49 rfl (lv_at hl 0 rfl) ?_
        refine lv_dup hx hb dX7_feed_50 rfl ?_
        refine va_get (D := D) (ci := 6) (v := .int r_letterMany) (C := RX7) (T := TX7) (N := 53) hx hb hts iwX7 hown hK hP 0 rfl rfl 21 (by decide) (hts _ wl_132) (fun _ h9 => h9) rfl dX7_feed_51 ?_
        refine lv_iconst (v := 1) hx hb dX7_feed_54 (by decide) ?_
        refine lv_iadd hx hb dX7_feed_55 ?_
        refine lv_topi (fun x9 ex9 => ?_)
        have hf := dq_l hf x9 ex9
        clear ex9
        refine va_put (D := D) (ci := 6) (v := .int x9) (ty := .int) (C := RX7) (T := TX7) (N := 53) hx hb hts iwX7 tyX7 tyX7_ok nmX7 hown hK hP hD hS 0 rfl rfl 21 (by decide) (hts _ wl_132) (fun _ h9 => h9) rfl (tyX7_ok 21 (by decide)) rfl rfl (Nat.le_of_ble_eq_true rfl) dX7_feed_56 (fun H locs hP hD hS => ?_)
        have hP : va_P D vwCl (w_X7 y a r_airs r_sitters r_stepMany r_today r_taken r_isStill (0 : Int32) x9 r_at0 r_isBad r_statements r_stepsMany r_hasImage r_place0 r_isTaking r_keptIn r_turned r_rowMany r_seed r_warms r_shutAt r_kinds0 r_figures r_airAt r_ways r_crowned r_sitsAt r_shawls r_isOn r_stepOf r_stepBy r_refusals r_letters_8 r_placeIn r_letterOf r_numbers r_stepsRead r_stepsBy r_kept r_keptWarms r_i_imaged r_imagedWarms r_turns0 r_turnWarms0 r_turnOf r_turnWarms r_row0 r_gains r_pegSort r_pegMany r_pegHolds r_coats r_coatsMoved) H := hP
        have hD : va_D A (w_X7 y a r_airs r_sitters r_stepMany r_today r_taken r_isStill (0 : Int32) x9 r_at0 r_isBad r_statements r_stepsMany r_hasImage r_place0 r_isTaking r_keptIn r_turned r_rowMany r_seed r_warms r_shutAt r_kinds0 r_figures r_airAt r_ways r_crowned r_sitsAt r_shawls r_isOn r_stepOf r_stepBy r_refusals r_letters_8 r_placeIn r_letterOf r_numbers r_stepsRead r_stepsBy r_kept r_keptWarms r_i_imaged r_imagedWarms r_turns0 r_turnWarms0 r_turnOf r_turnWarms r_row0 r_gains r_pegSort r_pegMany r_pegHolds r_coats r_coatsMoved) := hD
        refine lv_aload_n hx hb dX7_feed_59 rfl (lv_at hl 0 rfl) ?_
        refine va_get (D := D) (ci := 6) (v := .int x9) (C := RX7) (T := TX7) (N := 53) hx hb hts iwX7 hown hK hP 0 rfl rfl 21 (by decide) (hts _ wl_132) (fun _ h9 => h9) rfl dX7_feed_60 ?_
        obtain ⟨rfl, rfl, rfl, rfl, rfl⟩ := dq_r5 hf
        exact ct_iret hx hb hr hlocks hAe hP hK hD hS dX7_feed_63
      · have hf := dq_t hf c6
        clear c6
        refine lv_aload_n hx hb dX7_feed_32 rfl (lv_at hl 0 rfl) ?_
        refine lv_bipush (v := -6) hx hb dX7_feed_33 (by decide) ?_
        obtain ⟨x10, r_refusals_11, hy12, hf⟩ := dq_b2 hf
        refine ct_callV0 (ci := 6) (q0 := 0) (own := RX7) (As := [.int (-6 : Int32)]) (rest := []) (ws' := (w_X7 y a r_airs r_sitters r_stepMany r_today r_taken r_isStill (0 : Int32) r_letterMany r_at0 r_isBad r_statements r_stepsMany r_hasImage r_place0 r_isTaking r_keptIn r_turned r_rowMany r_seed r_warms r_shutAt r_kinds0 r_figures r_airAt r_ways r_crowned r_sitsAt r_shawls r_isOn r_stepOf r_stepBy r_refusals_11 r_letters r_placeIn r_letterOf r_numbers r_stepsRead r_stepsBy r_kept r_keptWarms r_i_imaged r_imagedWarms r_turns0 r_turnWarms0 r_turnOf r_turnWarms r_row0 r_gains r_pegSort r_pegMany r_pegHolds r_coats r_coatsMoved)) ⟨hx, hb, hml, hown, hts⟩ (m_X7_refuse l D y a r_airs r_sitters r_stepMany r_today r_taken r_isStill (0 : Int32) r_letterMany r_at0 r_isBad r_statements r_stepsMany r_hasImage r_place0 r_isTaking r_keptIn r_turned r_rowMany r_seed r_warms r_shutAt r_kinds0 r_figures r_airAt r_ways r_crowned r_sitsAt r_shawls r_isOn r_stepOf r_stepBy r_refusals r_letters r_placeIn r_letterOf r_numbers r_stepsRead r_stepsBy r_kept r_keptWarms r_i_imaged r_imagedWarms r_turns0 r_turnWarms0 r_turnOf r_turnWarms r_row0 r_gains r_pegSort r_pegMany r_pegHolds r_coats r_coatsMoved (-6 : Int32) x10 r_refusals_11 hy12) (cwV 1 hts (gA_V wl_133 wl_134 wl_135 wl_5 wl_136) rfl rfl rfl (by decide +kernel) ⟨Nat.le_of_ble_eq_true rfl, Nat.le_of_ble_eq_true rfl⟩) rfl rfl rfl hl.1 rfl (Nat.le_of_ble_eq_true rfl) dX7_feed_35 ⟨Nat.zero_le _, Nat.zero_le _⟩ hK hP hD hS hA (fun H locs hP hD hS => ?_)
        obtain ⟨rfl, rfl, rfl, rfl, rfl⟩ := dq_r5 hf
        exact ct_iret hx hb hr hlocks hAe hP hK hD hS dX7_feed_38
  · have hf := dq_f hf c1
    clear c1
    refine lv_aload_n hx hb dX7_feed_9 rfl (lv_at hl 0 rfl) ?_
    refine lv_bipush (v := -4) hx hb dX7_feed_10 (by decide) ?_
    obtain ⟨x13, r_refusals_14, hy15, hf⟩ := dq_b2 hf
    refine ct_callV0 (ci := 6) (q0 := 0) (own := RX7) (As := [.int (-4 : Int32)]) (rest := []) (ws' := (w_X7 y a r_airs r_sitters r_stepMany r_today r_taken r_isStill (0 : Int32) r_letterMany r_at0 r_isBad r_statements r_stepsMany r_hasImage r_place0 r_isTaking r_keptIn r_turned r_rowMany r_seed r_warms r_shutAt r_kinds0 r_figures r_airAt r_ways r_crowned r_sitsAt r_shawls r_isOn r_stepOf r_stepBy r_refusals_14 r_letters r_placeIn r_letterOf r_numbers r_stepsRead r_stepsBy r_kept r_keptWarms r_i_imaged r_imagedWarms r_turns0 r_turnWarms0 r_turnOf r_turnWarms r_row0 r_gains r_pegSort r_pegMany r_pegHolds r_coats r_coatsMoved)) ⟨hx, hb, hml, hown, hts⟩ (m_X7_refuse l D y a r_airs r_sitters r_stepMany r_today r_taken r_isStill (0 : Int32) r_letterMany r_at0 r_isBad r_statements r_stepsMany r_hasImage r_place0 r_isTaking r_keptIn r_turned r_rowMany r_seed r_warms r_shutAt r_kinds0 r_figures r_airAt r_ways r_crowned r_sitsAt r_shawls r_isOn r_stepOf r_stepBy r_refusals r_letters r_placeIn r_letterOf r_numbers r_stepsRead r_stepsBy r_kept r_keptWarms r_i_imaged r_imagedWarms r_turns0 r_turnWarms0 r_turnOf r_turnWarms r_row0 r_gains r_pegSort r_pegMany r_pegHolds r_coats r_coatsMoved (-4 : Int32) x13 r_refusals_14 hy15) (cwV 1 hts (gA_V wl_133 wl_134 wl_135 wl_5 wl_136) rfl rfl rfl (by decide +kernel) ⟨Nat.le_of_ble_eq_true rfl, Nat.le_of_ble_eq_true rfl⟩) rfl rfl rfl hl.1 rfl (Nat.le_of_ble_eq_true rfl) dX7_feed_12 ⟨Nat.zero_le _, Nat.zero_le _⟩ hK hP hD hS hA (fun H locs hP hD hS => ?_)
    obtain ⟨rfl, rfl, rfl, rfl, rfl⟩ := dq_r5 hf
    exact ct_iret hx hb hr hlocks hAe hP hK hD hS dX7_feed_15
