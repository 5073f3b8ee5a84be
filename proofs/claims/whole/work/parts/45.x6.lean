def w_X6_isOnBehind (y : Nat → ClassId) (a : Nat → Nat) (g_hasImage : Int32) (g_toldCount : Int32) (g_n_shutBits : Int64) (g_n_airs : Int32) (g_n_crownedBits : Int32) (g_n_sitters : Int32) (g_n_onBits : Int32) (g_n_turn : Int32) (g_n_taken : Int32) (g_n_warmth : (Nat → UInt32)) (g_n_kind : (Nat → Int32)) (g_n_figure : (Nat → Int32)) (g_n_airCell : (Nat → Int32)) (g_n_way : (Nat → Int32)) (g_n_seat : (Nat → Int32)) (g_n_shawls : (Nat → Int32)) (g_n_count : Int32) (g_n_steps : (Nat → Int32)) (g_n_numbers : (Nat → Int32)) (g_m_shutBits : Int64) (g_m_airs : Int32) (g_m_crownedBits : Int32) (g_m_sitters : Int32) (g_m_onBits : Int32) (g_m_turn : Int32) (g_m_taken : Int32) (g_m_warmth : (Nat → UInt32)) (g_m_kind : (Nat → Int32)) (g_m_figure : (Nat → Int32)) (g_m_airCell : (Nat → Int32)) (g_m_way : (Nat → Int32)) (g_m_seat : (Nat → Int32)) (g_m_shawls : (Nat → Int32)) (g_m_count : Int32) (g_m_steps : (Nat → Int32)) (g_m_numbers : (Nat → Int32)) : va_W := [((a 0), .inr (5, [.ref (a 1), .ref (a 12), .ref (a 23), .int g_hasImage, .ref (a 34), .ref (a 124), .ref (a 126), .ref (a 134), .int g_toldCount, .ref (a 135), .ref (a 136), .ref (a 137)])), ((a 1), .inr (1, [.ref (a 2), .long g_n_shutBits, .int g_n_airs, .ref (a 3), .ref (a 4), .ref (a 5), .ref (a 6), .int g_n_crownedBits, .int g_n_sitters, .ref (a 7), .ref (a 8), .int g_n_onBits, .int g_n_turn, .int g_n_taken, .ref (a 9)])), ((a 2), .inl (y 0, 36, .inr (.inr (.inl g_n_warmth)))), ((a 3), .inl (y 1, 5, .inl g_n_kind)), ((a 4), .inl (y 1, 5, .inl g_n_figure)), ((a 5), .inl (y 1, 5, .inl g_n_airCell)), ((a 6), .inl (y 1, 5, .inl g_n_way)), ((a 7), .inl (y 1, 6, .inl g_n_seat)), ((a 8), .inl (y 1, 6, .inl g_n_shawls)), ((a 9), .inr (0, [.ref (a 10), .ref (a 11), .int g_n_count])), ((a 10), .inl (y 1, 6, .inl g_n_steps)), ((a 11), .inl (y 1, 6, .inl g_n_numbers)), ((a 12), .inr (1, [.ref (a 13), .long g_m_shutBits, .int g_m_airs, .ref (a 14), .ref (a 15), .ref (a 16), .ref (a 17), .int g_m_crownedBits, .int g_m_sitters, .ref (a 18), .ref (a 19), .int g_m_onBits, .int g_m_turn, .int g_m_taken, .ref (a 20)])), ((a 13), .inl (y 0, 36, .inr (.inr (.inl g_m_warmth)))), ((a 14), .inl (y 1, 5, .inl g_m_kind)), ((a 15), .inl (y 1, 5, .inl g_m_figure)), ((a 16), .inl (y 1, 5, .inl g_m_airCell)), ((a 17), .inl (y 1, 5, .inl g_m_way)), ((a 18), .inl (y 1, 6, .inl g_m_seat)), ((a 19), .inl (y 1, 6, .inl g_m_shawls)), ((a 20), .inr (0, [.ref (a 21), .ref (a 22), .int g_m_count])), ((a 21), .inl (y 1, 6, .inl g_m_steps)), ((a 22), .inl (y 1, 6, .inl g_m_numbers))]
noncomputable def f_X6_isOnBehind_b14 (n0 : Int32) (n1 : Int32) (n2 : Int32) (g_m_shutBits_1 : Int64) (g_m_airs_2 : Int32) (g_m_sitters_4 : Int32) (g_m_kind_9 : (Nat → Int32)) (g_m_figure_10 : (Nat → Int32)) (g_m_seat_13 : (Nat → Int32)) (g_m_count_15 : Int32) (g_m_steps_16 : (Nat → Int32)) (g_m_numbers_17 : (Nat → Int32))  : Nat → Int32 → Int32 → Int32 → Int32 → Int32 → (Nat → UInt32) → (Nat → Int32) → (Nat → Int32) → (Nat → Int32) → Option (Int32 × Int64 × Int32 × Int32 × Int32 × Int32 × Int32 × Int32 × (Nat → UInt32) × (Nat → Int32) × (Nat → Int32) × (Nat → Int32) × (Nat → Int32) × (Nat → Int32) × (Nat → Int32) × Int32 × (Nat → Int32) × (Nat → Int32))
  | 0, _, _, _, _, _, _, _, _, _ => none
  | m14 + 1, x19, g_m_crownedBits_20, g_m_onBits_21, g_m_turn_22, g_m_taken_23, g_m_warmth_24, g_m_airCell_25, g_m_way_26, g_m_shawls_27 => dq_if (n1 ≤ x19) (dq_bd (f_X2_isOn g_m_onBits_21 n0) (fun (x29 : Int32) => dq_gd (dq_z x29) (some (x29, g_m_shutBits_1, g_m_airs_2, g_m_crownedBits_20, g_m_sitters_4, g_m_onBits_21, g_m_turn_22, g_m_taken_23, g_m_warmth_24, g_m_kind_9, g_m_figure_10, g_m_airCell_25, g_m_way_26, g_m_seat_13, g_m_shawls_27, g_m_count_15, g_m_steps_16, g_m_numbers_17)))) (dq_bd (f_X2_isOn g_m_onBits_21 n0) (fun (x32 : Int32) => dq_if (x32 = 0) (dq_bd (f_X2_isOn g_m_onBits_21 n0) (fun (x35 : Int32) => dq_gd (dq_z x35) (some (x35, g_m_shutBits_1, g_m_airs_2, g_m_crownedBits_20, g_m_sitters_4, g_m_onBits_21, g_m_turn_22, g_m_taken_23, g_m_warmth_24, g_m_kind_9, g_m_figure_10, g_m_airCell_25, g_m_way_26, g_m_seat_13, g_m_shawls_27, g_m_count_15, g_m_steps_16, g_m_numbers_17)))) (dq_if (((n2 >>> (x19 &&& 31)) &&& (1 : Int32)) = (1 : Int32)) (dq_bd3 (f_X2_goOnStill g_m_sitters_4 g_m_onBits_21 g_m_turn_22 g_m_warmth_24 g_m_seat_13 g_m_shawls_27 g_m_count_15 g_m_steps_16 g_m_numbers_17) (fun (g_m_onBits_49 : Int32) (g_m_turn_50 : Int32) (g_m_warmth_51 : (Nat → UInt32)) => dq_let (x19 + (1 : Int32)) (fun (x53 : Int32) => (f_X6_isOnBehind_b14 n0 n1 n2 g_m_shutBits_1 g_m_airs_2 g_m_sitters_4 g_m_kind_9 g_m_figure_10 g_m_seat_13 g_m_count_15 g_m_steps_16 g_m_numbers_17 m14) x53 g_m_crownedBits_20 g_m_onBits_49 g_m_turn_50 g_m_taken_23 g_m_warmth_51 g_m_airCell_25 g_m_way_26 g_m_shawls_27))) (dq_bd8 (f_X2_goOn g_m_shutBits_1 g_m_airs_2 g_m_crownedBits_20 g_m_sitters_4 g_m_onBits_21 g_m_turn_22 g_m_taken_23 g_m_warmth_24 g_m_kind_9 g_m_figure_10 g_m_airCell_25 g_m_way_26 g_m_seat_13 g_m_shawls_27 g_m_count_15 g_m_steps_16 g_m_numbers_17 (1 : Int32)) (fun (g_m_crownedBits_39 : Int32) (g_m_onBits_40 : Int32) (g_m_turn_41 : Int32) (g_m_taken_42 : Int32) (g_m_warmth_43 : (Nat → UInt32)) (g_m_airCell_44 : (Nat → Int32)) (g_m_way_45 : (Nat → Int32)) (g_m_shawls_46 : (Nat → Int32)) => dq_let (x19 + (1 : Int32)) (fun (x48 : Int32) => (f_X6_isOnBehind_b14 n0 n1 n2 g_m_shutBits_1 g_m_airs_2 g_m_sitters_4 g_m_kind_9 g_m_figure_10 g_m_seat_13 g_m_count_15 g_m_steps_16 g_m_numbers_17 m14) x48 g_m_crownedBits_39 g_m_onBits_40 g_m_turn_41 g_m_taken_42 g_m_warmth_43 g_m_airCell_44 g_m_way_45 g_m_shawls_46))))))
noncomputable def f_X6_isOnBehind (g_n_shutBits : Int64) (g_n_airs : Int32) (g_n_crownedBits : Int32) (g_n_sitters : Int32) (g_n_onBits : Int32) (g_n_turn : Int32) (g_n_taken : Int32) (g_n_warmth : (Nat → UInt32)) (g_n_kind : (Nat → Int32)) (g_n_figure : (Nat → Int32)) (g_n_airCell : (Nat → Int32)) (g_n_way : (Nat → Int32)) (g_n_seat : (Nat → Int32)) (g_n_shawls : (Nat → Int32)) (g_n_count : Int32) (g_n_steps : (Nat → Int32)) (g_n_numbers : (Nat → Int32)) (g_m_warmth : (Nat → UInt32)) (g_m_kind : (Nat → Int32)) (g_m_figure : (Nat → Int32)) (g_m_airCell : (Nat → Int32)) (g_m_way : (Nat → Int32)) (g_m_seat : (Nat → Int32)) (g_m_shawls : (Nat → Int32)) (g_m_steps : (Nat → Int32)) (g_m_numbers : (Nat → Int32)) (n0 : Int32) (n1 : Int32) (n2 : Int32) : Option (Int32 × Int64 × Int32 × Int32 × Int32 × Int32 × Int32 × Int32 × (Nat → UInt32) × (Nat → Int32) × (Nat → Int32) × (Nat → Int32) × (Nat → Int32) × (Nat → Int32) × (Nat → Int32) × Int32 × (Nat → Int32) × (Nat → Int32)) := dq_bd17 (f_X2_take g_m_warmth g_m_kind g_m_figure g_m_airCell g_m_way g_m_seat g_m_shawls g_m_steps g_m_numbers g_n_shutBits g_n_airs g_n_crownedBits g_n_sitters g_n_onBits g_n_turn g_n_taken g_n_warmth g_n_kind g_n_figure g_n_airCell g_n_way g_n_seat g_n_shawls g_n_count g_n_steps g_n_numbers) (fun (g_m_shutBits_1 : Int64) (g_m_airs_2 : Int32) (g_m_crownedBits_3 : Int32) (g_m_sitters_4 : Int32) (g_m_onBits_5 : Int32) (g_m_turn_6 : Int32) (g_m_taken_7 : Int32) (g_m_warmth_8 : (Nat → UInt32)) (g_m_kind_9 : (Nat → Int32)) (g_m_figure_10 : (Nat → Int32)) (g_m_airCell_11 : (Nat → Int32)) (g_m_way_12 : (Nat → Int32)) (g_m_seat_13 : (Nat → Int32)) (g_m_shawls_14 : (Nat → Int32)) (g_m_count_15 : Int32) (g_m_steps_16 : (Nat → Int32)) (g_m_numbers_17 : (Nat → Int32)) => f_X6_isOnBehind_b14 n0 n1 n2 g_m_shutBits_1 g_m_airs_2 g_m_sitters_4 g_m_kind_9 g_m_figure_10 g_m_seat_13 g_m_count_15 g_m_steps_16 g_m_numbers_17 4096 (0 : Int32) g_m_crownedBits_3 g_m_onBits_5 g_m_turn_6 g_m_taken_7 g_m_warmth_8 g_m_airCell_11 g_m_way_12 g_m_shawls_14)
-- DraughtsTake.isOnBehind(III)Z
set_option maxHeartbeats 4000000 in
set_option maxRecDepth 100000 in
theorem m_X6_isOnBehind (l : Launch) (D : va_G) (y : Nat → ClassId) (a : (Nat → Nat)) (g_hasImage : Int32) (g_toldCount : Int32) (g_n_shutBits : Int64) (g_n_airs : Int32) (g_n_crownedBits : Int32) (g_n_sitters : Int32) (g_n_onBits : Int32) (g_n_turn : Int32) (g_n_taken : Int32) (g_n_warmth : (Nat → UInt32)) (g_n_kind : (Nat → Int32)) (g_n_figure : (Nat → Int32)) (g_n_airCell : (Nat → Int32)) (g_n_way : (Nat → Int32)) (g_n_seat : (Nat → Int32)) (g_n_shawls : (Nat → Int32)) (g_n_count : Int32) (g_n_steps : (Nat → Int32)) (g_n_numbers : (Nat → Int32)) (g_m_shutBits : Int64) (g_m_airs : Int32) (g_m_crownedBits : Int32) (g_m_sitters : Int32) (g_m_onBits : Int32) (g_m_turn : Int32) (g_m_taken : Int32) (g_m_warmth : (Nat → UInt32)) (g_m_kind : (Nat → Int32)) (g_m_figure : (Nat → Int32)) (g_m_airCell : (Nat → Int32)) (g_m_way : (Nat → Int32)) (g_m_seat : (Nat → Int32)) (g_m_shawls : (Nat → Int32)) (g_m_count : Int32) (g_m_steps : (Nat → Int32)) (g_m_numbers : (Nat → Int32)) (n0 : Int32) (n1 : Int32) (n2 : Int32) (z0 : Int32) (z1 : Int64) (z2 : Int32) (z3 : Int32) (z4 : Int32) (z5 : Int32) (z6 : Int32) (z7 : Int32) (z8 : (Nat → UInt32)) (z9 : (Nat → Int32)) (z10 : (Nat → Int32)) (z11 : (Nat → Int32)) (z12 : (Nat → Int32)) (z13 : (Nat → Int32)) (z14 : (Nat → Int32)) (z15 : Int32) (z16 : (Nat → Int32)) (z17 : (Nat → Int32)) (hf : f_X6_isOnBehind g_n_shutBits g_n_airs g_n_crownedBits g_n_sitters g_n_onBits g_n_turn g_n_taken g_n_warmth g_n_kind g_n_figure g_n_airCell g_n_way g_n_seat g_n_shawls g_n_count g_n_steps g_n_numbers g_m_warmth g_m_kind g_m_figure g_m_airCell g_m_way g_m_seat g_m_shawls g_m_steps g_m_numbers n0 n1 n2 = some (z0, z1, z2, z3, z4, z5, z6, z7, z8, z9, z10, z11, z12, z13, z14, z15, z16, z17)) : Ct l D y yX6_isOnBehind wsX6_isOnBehind 5 118 [.ref (a 0), .int n0, .int n1, .int n2] (w_X6_isOnBehind y a g_hasImage g_toldCount g_n_shutBits g_n_airs g_n_crownedBits g_n_sitters g_n_onBits g_n_turn g_n_taken g_n_warmth g_n_kind g_n_figure g_n_airCell g_n_way g_n_seat g_n_shawls g_n_count g_n_steps g_n_numbers g_m_shutBits g_m_airs g_m_crownedBits g_m_sitters g_m_onBits g_m_turn g_m_taken g_m_warmth g_m_kind g_m_figure g_m_airCell g_m_way g_m_seat g_m_shawls g_m_count g_m_steps g_m_numbers) (w_X6_isOnBehind y a g_hasImage g_toldCount g_n_shutBits g_n_airs g_n_crownedBits g_n_sitters g_n_onBits g_n_turn g_n_taken g_n_warmth g_n_kind g_n_figure g_n_airCell g_n_way g_n_seat g_n_shawls g_n_count g_n_steps g_n_numbers z1 z2 z3 z4 z5 z6 z7 z8 z9 z10 z11 z12 z13 z14 z15 z16 z17) (some (.int z0)) := by
  refine ct_head (cc := cX6_isOnBehind) (n := 5) (ret := (some .boolean)) (by decide) rfl (Nat.le_of_ble_eq_true rfl) ?_
  intro p e s m below meth c A ls hx hb hr hml hown hlocks hts hA hAe hP hK hD hl
  have hS : va_S A s.heap s.heap [] := va_S.rf
  have hl : lv_has ls 5 [(0, .ref (a 0)), (1, .int n0), (2, .int n1), (3, .int n2)] := hl
  have hown : s.vm.findClass RX6 = some m.cls := hown
  have hw1 := hts (.fieldLink RX6 16 "DraughtsTake" "mind" "LDraughtsTake$House;") (List.mem_of_getElem? (i := 1) rfl)
  have hw2 := hts (.fieldLink RX6 10 "DraughtsTake" "now" "LDraughtsTake$House;") (List.mem_of_getElem? (i := 2) rfl)
  have hiX6 : ∀ w ∈ wsX60, w ∈ wsX6_isOnBehind := fun w h => List.mem_cons_of_mem _ (List.mem_append_left _ (List.mem_append_left _ (List.mem_append_right _ (h))))
  unfold f_X6_isOnBehind at hf
  refine lv_aload_n hx hb dX6_isOnBehind_0 rfl (lv_at hl 0 rfl) ?_
  refine va_get (D := D) (ci := 5) (v := .ref (a 12)) (C := RX6) (T := TX6) (N := 12) hx hb hts hiX6 hown hK hP 0 rfl rfl 1 (by decide) hw1 (fun _ h9 => h9) rfl dX6_isOnBehind_1 ?_
  refine lv_aload_n hx hb dX6_isOnBehind_4 rfl (lv_at hl 0 rfl) ?_
  refine va_get (D := D) (ci := 5) (v := .ref (a 1)) (C := RX6) (T := TX6) (N := 12) hx hb hts hiX6 hown hK hP 0 rfl rfl 0 (by decide) hw2 (fun _ h9 => h9) rfl dX6_isOnBehind_5 ?_
  obtain ⟨g_m_shutBits_1, g_m_airs_2, g_m_crownedBits_3, g_m_sitters_4, g_m_onBits_5, g_m_turn_6, g_m_taken_7, g_m_warmth_8, g_m_kind_9, g_m_figure_10, g_m_airCell_11, g_m_way_12, g_m_seat_13, g_m_shawls_14, g_m_count_15, g_m_steps_16, g_m_numbers_17, hy18, hf⟩ := dq_b17 hf
  refine ct_callV (ci := 1) (q0 := 0) (own := RX6) (As := [.ref (a 1)]) (rest := []) (ws' := (w_X6_isOnBehind y a g_hasImage g_toldCount g_n_shutBits g_n_airs g_n_crownedBits g_n_sitters g_n_onBits g_n_turn g_n_taken g_n_warmth g_n_kind g_n_figure g_n_airCell g_n_way g_n_seat g_n_shawls g_n_count g_n_steps g_n_numbers g_m_shutBits_1 g_m_airs_2 g_m_crownedBits_3 g_m_sitters_4 g_m_onBits_5 g_m_turn_6 g_m_taken_7 g_m_warmth_8 g_m_kind_9 g_m_figure_10 g_m_airCell_11 g_m_way_12 g_m_seat_13 g_m_shawls_14 g_m_count_15 g_m_steps_16 g_m_numbers_17)) ⟨hx, hb, hml, hown, hts⟩ (m_X2_take l D y (fun k => a (12 + k)) (fun k => a (1 + k)) g_m_shutBits g_m_airs g_m_crownedBits g_m_sitters g_m_onBits g_m_turn g_m_taken g_m_warmth g_m_kind g_m_figure g_m_airCell g_m_way g_m_seat g_m_shawls g_m_count g_m_steps g_m_numbers g_n_shutBits g_n_airs g_n_crownedBits g_n_sitters g_n_onBits g_n_turn g_n_taken g_n_warmth g_n_kind g_n_figure g_n_airCell g_n_way g_n_seat g_n_shawls g_n_count g_n_steps g_n_numbers g_m_shutBits_1 g_m_airs_2 g_m_crownedBits_3 g_m_sitters_4 g_m_onBits_5 g_m_turn_6 g_m_taken_7 g_m_warmth_8 g_m_kind_9 g_m_figure_10 g_m_airCell_11 g_m_way_12 g_m_seat_13 g_m_shawls_14 g_m_count_15 g_m_steps_16 g_m_numbers_17 hy18) (cwV 1 hts gX6_isOnBehind_X2_take rfl rfl rfl (by decide +kernel) ⟨Nat.le_of_ble_eq_true rfl, Nat.le_of_ble_eq_true rfl⟩) rfl rfl rfl hl.1 rfl (Nat.le_of_ble_eq_true rfl) dX6_isOnBehind_8 ⟨Nat.zero_le _, Nat.zero_le _⟩ hK hP hD hS hA [12, 13, 14, 15, 16, 17, 18, 19, 20, 21, 22, 1, 2, 3, 4, 5, 6, 7, 8, 9, 10, 11] [0] rfl rfl rfl (by decide) (by decide) 23 rfl (by decide +kernel) (fun H locs hP hD hS => ?_)
  refine lv_iconst (v := 0) hx hb dX6_isOnBehind_11 (by decide) ?_
  refine lv_istore (lv' := [(4, .int (0 : Int32)), (0, .ref (a 0)), (1, .int n0), (2, .int n1), (3, .int n2)]) hx hb dX6_isOnBehind_12 hl (by decide) rfl (fun ls hl => ?_)
  have J14 : ∀ (m14 : Nat) (x19 : Int32) (g_m_crownedBits_20 : Int32) (g_m_onBits_21 : Int32) (g_m_turn_22 : Int32) (g_m_taken_23 : Int32) (g_m_warmth_24 : (Nat → UInt32)) (g_m_airCell_25 : (Nat → Int32)) (g_m_way_26 : (Nat → Int32)) (g_m_shawls_27 : (Nat → Int32)), f_X6_isOnBehind_b14 n0 n1 n2 g_m_shutBits_1 g_m_airs_2 g_m_sitters_4 g_m_kind_9 g_m_figure_10 g_m_seat_13 g_m_count_15 g_m_steps_16 g_m_numbers_17 m14 x19 g_m_crownedBits_20 g_m_onBits_21 g_m_turn_22 g_m_taken_23 g_m_warmth_24 g_m_airCell_25 g_m_way_26 g_m_shawls_27 = some (z0, z1, z2, z3, z4, z5, z6, z7, z8, z9, z10, z11, z12, z13, z14, z15, z16, z17) → ∀ (H : Heap) (locs : List Loc), va_P D vwCl (w_X6_isOnBehind y a g_hasImage g_toldCount g_n_shutBits g_n_airs g_n_crownedBits g_n_sitters g_n_onBits g_n_turn g_n_taken g_n_warmth g_n_kind g_n_figure g_n_airCell g_n_way g_n_seat g_n_shawls g_n_count g_n_steps g_n_numbers g_m_shutBits_1 g_m_airs_2 g_m_crownedBits_20 g_m_sitters_4 g_m_onBits_21 g_m_turn_22 g_m_taken_23 g_m_warmth_24 g_m_kind_9 g_m_figure_10 g_m_airCell_25 g_m_way_26 g_m_seat_13 g_m_shawls_27 g_m_count_15 g_m_steps_16 g_m_numbers_17) H → va_D A (w_X6_isOnBehind y a g_hasImage g_toldCount g_n_shutBits g_n_airs g_n_crownedBits g_n_sitters g_n_onBits g_n_turn g_n_taken g_n_warmth g_n_kind g_n_figure g_n_airCell g_n_way g_n_seat g_n_shawls g_n_count g_n_steps g_n_numbers g_m_shutBits_1 g_m_airs_2 g_m_crownedBits_20 g_m_sitters_4 g_m_onBits_21 g_m_turn_22 g_m_taken_23 g_m_warmth_24 g_m_kind_9 g_m_figure_10 g_m_airCell_25 g_m_way_26 g_m_seat_13 g_m_shawls_27 g_m_count_15 g_m_steps_16 g_m_numbers_17) → va_S A s.heap H locs → ∀ ls : Array Slot, lv_has ls 5 [(0, .ref (a 0)), (1, .int n0), (2, .int n1), (3, .int n2), (4, .int x19)] → W p l e ({ frames := 5, cells := 0, slots := 0, locals := 118 } : Room) s m [.ref (a 0), .int n0, .int n1, .int n2].toArray below meth c H locs 0 0 (MQ below (dQ D y (some (.int z0)) s.heap.size (w_X6_isOnBehind y a g_hasImage g_toldCount g_n_shutBits g_n_airs g_n_crownedBits g_n_sitters g_n_onBits g_n_turn g_n_taken g_n_warmth g_n_kind g_n_figure g_n_airCell g_n_way g_n_seat g_n_shawls g_n_count g_n_steps g_n_numbers g_m_shutBits g_m_airs g_m_crownedBits g_m_sitters g_m_onBits g_m_turn g_m_taken g_m_warmth g_m_kind g_m_figure g_m_airCell g_m_way g_m_seat g_m_shawls g_m_count g_m_steps g_m_numbers) (w_X6_isOnBehind y a g_hasImage g_toldCount g_n_shutBits g_n_airs g_n_crownedBits g_n_sitters g_n_onBits g_n_turn g_n_taken g_n_warmth g_n_kind g_n_figure g_n_airCell g_n_way g_n_seat g_n_shawls g_n_count g_n_steps g_n_numbers z1 z2 z3 z4 z5 z6 z7 z8 z9 z10 z11 z12 z13 z14 z15 z16 z17)) [.ref (a 0), .int n0, .int n1, .int n2].toArray s 0 0 A) (F0 m 14 ls []) := by
    intro m14
    induction m14 with
    | zero => intro x19 g_m_crownedBits_20 g_m_onBits_21 g_m_turn_22 g_m_taken_23 g_m_warmth_24 g_m_airCell_25 g_m_way_26 g_m_shawls_27 hf; exact absurd hf (by unfold f_X6_isOnBehind_b14; exact fun h => by cases h)
    | succ m14 I14 =>
      intro x19 g_m_crownedBits_20 g_m_onBits_21 g_m_turn_22 g_m_taken_23 g_m_warmth_24 g_m_airCell_25 g_m_way_26 g_m_shawls_27 hf H locs hP hD hS ls hl
      unfold f_X6_isOnBehind_b14 at hf
      refine lv_iload hx hb dX6_isOnBehind_14 (lv_at hl 4 rfl) ?_
      refine lv_iload_n hx hb dX6_isOnBehind_16 rfl (lv_at hl 2 rfl) ?_
      refine lv_icmp_ge (tgt := 65) hx hb dX6_isOnBehind_17 (by decide) (fun c28 => ?_) (fun c28 => ?_)
      · have hf := dq_t hf c28
        clear c28
        refine lv_aload_n hx hb dX6_isOnBehind_65 rfl (lv_at hl 0 rfl) ?_
        refine va_get (D := D) (ci := 5) (v := .ref (a 12)) (C := RX6) (T := TX6) (N := 12) hx hb hts hiX6 hown hK hP 0 rfl rfl 1 (by decide) hw1 (fun _ h9 => h9) rfl dX6_isOnBehind_66 ?_
        refine lv_iload_n hx hb dX6_isOnBehind_69 rfl (lv_at hl 1 rfl) ?_
        obtain ⟨x29, hy30, hf⟩ := dq_b hf
        refine ct_callV (ci := 1) (q0 := 0) (own := RX6) (As := [.int n0]) (rest := []) (ws' := (w_X6_isOnBehind y a g_hasImage g_toldCount g_n_shutBits g_n_airs g_n_crownedBits g_n_sitters g_n_onBits g_n_turn g_n_taken g_n_warmth g_n_kind g_n_figure g_n_airCell g_n_way g_n_seat g_n_shawls g_n_count g_n_steps g_n_numbers g_m_shutBits_1 g_m_airs_2 g_m_crownedBits_20 g_m_sitters_4 g_m_onBits_21 g_m_turn_22 g_m_taken_23 g_m_warmth_24 g_m_kind_9 g_m_figure_10 g_m_airCell_25 g_m_way_26 g_m_seat_13 g_m_shawls_27 g_m_count_15 g_m_steps_16 g_m_numbers_17)) ⟨hx, hb, hml, hown, hts⟩ (m_X2_isOn l D y (fun k => a (12 + k)) g_m_shutBits_1 g_m_airs_2 g_m_crownedBits_20 g_m_sitters_4 g_m_onBits_21 g_m_turn_22 g_m_taken_23 g_m_warmth_24 g_m_kind_9 g_m_figure_10 g_m_airCell_25 g_m_way_26 g_m_seat_13 g_m_shawls_27 g_m_count_15 g_m_steps_16 g_m_numbers_17 n0 x29 hy30) (cwV 1 hts gX6_isOnBehind_X2_isOn rfl rfl rfl (by decide +kernel) ⟨Nat.le_of_ble_eq_true rfl, Nat.le_of_ble_eq_true rfl⟩) rfl rfl rfl hl.1 rfl (Nat.le_of_ble_eq_true rfl) dX6_isOnBehind_70 ⟨Nat.zero_le _, Nat.zero_le _⟩ hK hP hD hS hA [12, 13, 14, 15, 16, 17, 18, 19, 20, 21, 22] [0, 1, 2, 3, 4, 5, 6, 7, 8, 9, 10, 11] rfl rfl rfl (by decide) (by decide) 23 rfl (by decide +kernel) (fun H locs hP hD hS => ?_)
        obtain ⟨h31, hf⟩ := dq_g hf
        obtain ⟨rfl, rfl, rfl, rfl, rfl, rfl, rfl, rfl, rfl, rfl, rfl, rfl, rfl, rfl, rfl, rfl, rfl, rfl⟩ := dq_r18 hf
        exact ct_zret hx hb hr (dq_zn h31) hlocks hAe hP hK hD hS dX6_isOnBehind_73
      · have hf := dq_f hf c28
        clear c28
        refine lv_aload_n hx hb dX6_isOnBehind_20 rfl (lv_at hl 0 rfl) ?_
        refine va_get (D := D) (ci := 5) (v := .ref (a 12)) (C := RX6) (T := TX6) (N := 12) hx hb hts hiX6 hown hK hP 0 rfl rfl 1 (by decide) hw1 (fun _ h9 => h9) rfl dX6_isOnBehind_21 ?_
        refine lv_iload_n hx hb dX6_isOnBehind_24 rfl (lv_at hl 1 rfl) ?_
        obtain ⟨x32, hy33, hf⟩ := dq_b hf
        refine ct_callV (ci := 1) (q0 := 0) (own := RX6) (As := [.int n0]) (rest := []) (ws' := (w_X6_isOnBehind y a g_hasImage g_toldCount g_n_shutBits g_n_airs g_n_crownedBits g_n_sitters g_n_onBits g_n_turn g_n_taken g_n_warmth g_n_kind g_n_figure g_n_airCell g_n_way g_n_seat g_n_shawls g_n_count g_n_steps g_n_numbers g_m_shutBits_1 g_m_airs_2 g_m_crownedBits_20 g_m_sitters_4 g_m_onBits_21 g_m_turn_22 g_m_taken_23 g_m_warmth_24 g_m_kind_9 g_m_figure_10 g_m_airCell_25 g_m_way_26 g_m_seat_13 g_m_shawls_27 g_m_count_15 g_m_steps_16 g_m_numbers_17)) ⟨hx, hb, hml, hown, hts⟩ (m_X2_isOn l D y (fun k => a (12 + k)) g_m_shutBits_1 g_m_airs_2 g_m_crownedBits_20 g_m_sitters_4 g_m_onBits_21 g_m_turn_22 g_m_taken_23 g_m_warmth_24 g_m_kind_9 g_m_figure_10 g_m_airCell_25 g_m_way_26 g_m_seat_13 g_m_shawls_27 g_m_count_15 g_m_steps_16 g_m_numbers_17 n0 x32 hy33) (cwV 1 hts gX6_isOnBehind_X2_isOn rfl rfl rfl (by decide +kernel) ⟨Nat.le_of_ble_eq_true rfl, Nat.le_of_ble_eq_true rfl⟩) rfl rfl rfl hl.1 rfl (Nat.le_of_ble_eq_true rfl) dX6_isOnBehind_25 ⟨Nat.zero_le _, Nat.zero_le _⟩ hK hP hD hS hA [12, 13, 14, 15, 16, 17, 18, 19, 20, 21, 22] [0, 1, 2, 3, 4, 5, 6, 7, 8, 9, 10, 11] rfl rfl rfl (by decide) (by decide) 23 rfl (by decide +kernel) (fun H locs hP hD hS => ?_)
        refine lv_if_eq (tgt := 65) hx hb dX6_isOnBehind_28 (by decide) (fun c34 => ?_) (fun c34 => ?_)
        · have hf := dq_t hf c34
          clear c34
          refine lv_aload_n hx hb dX6_isOnBehind_65 rfl (lv_at hl 0 rfl) ?_
          refine va_get (D := D) (ci := 5) (v := .ref (a 12)) (C := RX6) (T := TX6) (N := 12) hx hb hts hiX6 hown hK hP 0 rfl rfl 1 (by decide) hw1 (fun _ h9 => h9) rfl dX6_isOnBehind_66 ?_
          refine lv_iload_n hx hb dX6_isOnBehind_69 rfl (lv_at hl 1 rfl) ?_
          obtain ⟨x35, hy36, hf⟩ := dq_b hf
          refine ct_callV (ci := 1) (q0 := 0) (own := RX6) (As := [.int n0]) (rest := []) (ws' := (w_X6_isOnBehind y a g_hasImage g_toldCount g_n_shutBits g_n_airs g_n_crownedBits g_n_sitters g_n_onBits g_n_turn g_n_taken g_n_warmth g_n_kind g_n_figure g_n_airCell g_n_way g_n_seat g_n_shawls g_n_count g_n_steps g_n_numbers g_m_shutBits_1 g_m_airs_2 g_m_crownedBits_20 g_m_sitters_4 g_m_onBits_21 g_m_turn_22 g_m_taken_23 g_m_warmth_24 g_m_kind_9 g_m_figure_10 g_m_airCell_25 g_m_way_26 g_m_seat_13 g_m_shawls_27 g_m_count_15 g_m_steps_16 g_m_numbers_17)) ⟨hx, hb, hml, hown, hts⟩ (m_X2_isOn l D y (fun k => a (12 + k)) g_m_shutBits_1 g_m_airs_2 g_m_crownedBits_20 g_m_sitters_4 g_m_onBits_21 g_m_turn_22 g_m_taken_23 g_m_warmth_24 g_m_kind_9 g_m_figure_10 g_m_airCell_25 g_m_way_26 g_m_seat_13 g_m_shawls_27 g_m_count_15 g_m_steps_16 g_m_numbers_17 n0 x35 hy36) (cwV 1 hts gX6_isOnBehind_X2_isOn rfl rfl rfl (by decide +kernel) ⟨Nat.le_of_ble_eq_true rfl, Nat.le_of_ble_eq_true rfl⟩) rfl rfl rfl hl.1 rfl (Nat.le_of_ble_eq_true rfl) dX6_isOnBehind_70 ⟨Nat.zero_le _, Nat.zero_le _⟩ hK hP hD hS hA [12, 13, 14, 15, 16, 17, 18, 19, 20, 21, 22] [0, 1, 2, 3, 4, 5, 6, 7, 8, 9, 10, 11] rfl rfl rfl (by decide) (by decide) 23 rfl (by decide +kernel) (fun H locs hP hD hS => ?_)
          obtain ⟨h37, hf⟩ := dq_g hf
          obtain ⟨rfl, rfl, rfl, rfl, rfl, rfl, rfl, rfl, rfl, rfl, rfl, rfl, rfl, rfl, rfl, rfl, rfl, rfl⟩ := dq_r18 hf
          exact ct_zret hx hb hr (dq_zn h37) hlocks hAe hP hK hD hS dX6_isOnBehind_73
        · have hf := dq_f hf c34
          clear c34
          refine lv_iload_n hx hb dX6_isOnBehind_31 rfl (lv_at hl 3 rfl) ?_
          refine lv_iload hx hb dX6_isOnBehind_32 (lv_at hl 4 rfl) ?_
          refine lv_ishr hx hb dX6_isOnBehind_34 ?_
          refine lv_iconst (v := 1) hx hb dX6_isOnBehind_35 (by decide) ?_
          refine lv_iand hx hb dX6_isOnBehind_36 ?_
          refine lv_iconst (v := 1) hx hb dX6_isOnBehind_37 (by decide) ?_
          refine lv_icmp_ne (tgt := 51) hx hb dX6_isOnBehind_38 (by decide) (fun c38 => ?_) (fun c38 => ?_)
          · have hf := dq_f hf c38
            clear c38
            refine lv_aload_n hx hb dX6_isOnBehind_51 rfl (lv_at hl 0 rfl) ?_
            refine va_get (D := D) (ci := 5) (v := .ref (a 12)) (C := RX6) (T := TX6) (N := 12) hx hb hts hiX6 hown hK hP 0 rfl rfl 1 (by decide) hw1 (fun _ h9 => h9) rfl dX6_isOnBehind_52 ?_
            refine lv_iconst (v := 1) hx hb dX6_isOnBehind_55 (by decide) ?_
            obtain ⟨g_m_crownedBits_39, g_m_onBits_40, g_m_turn_41, g_m_taken_42, g_m_warmth_43, g_m_airCell_44, g_m_way_45, g_m_shawls_46, hy47, hf⟩ := dq_b8 hf
            refine ct_callV (ci := 1) (q0 := 0) (own := RX6) (As := [.int (1 : Int32)]) (rest := []) (ws' := (w_X6_isOnBehind y a g_hasImage g_toldCount g_n_shutBits g_n_airs g_n_crownedBits g_n_sitters g_n_onBits g_n_turn g_n_taken g_n_warmth g_n_kind g_n_figure g_n_airCell g_n_way g_n_seat g_n_shawls g_n_count g_n_steps g_n_numbers g_m_shutBits_1 g_m_airs_2 g_m_crownedBits_39 g_m_sitters_4 g_m_onBits_40 g_m_turn_41 g_m_taken_42 g_m_warmth_43 g_m_kind_9 g_m_figure_10 g_m_airCell_44 g_m_way_45 g_m_seat_13 g_m_shawls_46 g_m_count_15 g_m_steps_16 g_m_numbers_17)) ⟨hx, hb, hml, hown, hts⟩ (m_X2_goOn l D y (fun k => a (12 + k)) g_m_shutBits_1 g_m_airs_2 g_m_crownedBits_20 g_m_sitters_4 g_m_onBits_21 g_m_turn_22 g_m_taken_23 g_m_warmth_24 g_m_kind_9 g_m_figure_10 g_m_airCell_25 g_m_way_26 g_m_seat_13 g_m_shawls_27 g_m_count_15 g_m_steps_16 g_m_numbers_17 (1 : Int32) g_m_crownedBits_39 g_m_onBits_40 g_m_turn_41 g_m_taken_42 g_m_warmth_43 g_m_airCell_44 g_m_way_45 g_m_shawls_46 hy47) (cwV 1 hts gX6_isOnBehind_X2_goOn rfl rfl rfl (by decide +kernel) ⟨Nat.le_of_ble_eq_true rfl, Nat.le_of_ble_eq_true rfl⟩) rfl rfl rfl hl.1 rfl (Nat.le_of_ble_eq_true rfl) dX6_isOnBehind_56 ⟨Nat.zero_le _, Nat.zero_le _⟩ hK hP hD hS hA [12, 13, 14, 15, 16, 17, 18, 19, 20, 21, 22] [0, 1, 2, 3, 4, 5, 6, 7, 8, 9, 10, 11] rfl rfl rfl (by decide) (by decide) 23 rfl (by decide +kernel) (fun H locs hP hD hS => ?_)
            obtain ⟨x48, ex48⟩ : ∃ z : Int32, z = (x19 + (1 : Int32)) := ⟨_, rfl⟩
            have hf := dq_l hf x48 ex48
            refine lv_iinc (v := x48) (lv' := [(4, .int x48), (0, .ref (a 0)), (1, .int n0), (2, .int n1), (3, .int n2)]) hx hb dX6_isOnBehind_59 hl (k := 4) rfl (by rw [ex48]; rfl) (by decide) rfl (fun ls hl => ?_)
            clear ex48
            refine lv_goto (tgt := 14) hx hb dX6_isOnBehind_62 (by decide) ?_
            exact I14 _ _ _ _ _ _ _ _ _ hf _ _ hP hD hS _ (lv_sub hl [1, 2, 3, 4, 0] rfl)
          · have hf := dq_t hf c38
            clear c38
            refine lv_aload_n hx hb dX6_isOnBehind_41 rfl (lv_at hl 0 rfl) ?_
            refine va_get (D := D) (ci := 5) (v := .ref (a 12)) (C := RX6) (T := TX6) (N := 12) hx hb hts hiX6 hown hK hP 0 rfl rfl 1 (by decide) hw1 (fun _ h9 => h9) rfl dX6_isOnBehind_42 ?_
            obtain ⟨g_m_onBits_49, g_m_turn_50, g_m_warmth_51, hy52, hf⟩ := dq_b3 hf
            refine ct_callV (ci := 1) (q0 := 0) (own := RX6) (As := []) (rest := []) (ws' := (w_X6_isOnBehind y a g_hasImage g_toldCount g_n_shutBits g_n_airs g_n_crownedBits g_n_sitters g_n_onBits g_n_turn g_n_taken g_n_warmth g_n_kind g_n_figure g_n_airCell g_n_way g_n_seat g_n_shawls g_n_count g_n_steps g_n_numbers g_m_shutBits_1 g_m_airs_2 g_m_crownedBits_20 g_m_sitters_4 g_m_onBits_49 g_m_turn_50 g_m_taken_23 g_m_warmth_51 g_m_kind_9 g_m_figure_10 g_m_airCell_25 g_m_way_26 g_m_seat_13 g_m_shawls_27 g_m_count_15 g_m_steps_16 g_m_numbers_17)) ⟨hx, hb, hml, hown, hts⟩ (m_X2_goOnStill l D y (fun k => a (12 + k)) g_m_shutBits_1 g_m_airs_2 g_m_crownedBits_20 g_m_sitters_4 g_m_onBits_21 g_m_turn_22 g_m_taken_23 g_m_warmth_24 g_m_kind_9 g_m_figure_10 g_m_airCell_25 g_m_way_26 g_m_seat_13 g_m_shawls_27 g_m_count_15 g_m_steps_16 g_m_numbers_17 g_m_onBits_49 g_m_turn_50 g_m_warmth_51 hy52) (cwV 0 hts gX6_isOnBehind_X2_goOnStill rfl rfl rfl (by decide +kernel) ⟨Nat.le_of_ble_eq_true rfl, Nat.le_of_ble_eq_true rfl⟩) rfl rfl rfl hl.1 rfl (Nat.le_of_ble_eq_true rfl) dX6_isOnBehind_45 ⟨Nat.zero_le _, Nat.zero_le _⟩ hK hP hD hS hA [12, 13, 14, 15, 16, 17, 18, 19, 20, 21, 22] [0, 1, 2, 3, 4, 5, 6, 7, 8, 9, 10, 11] rfl rfl rfl (by decide) (by decide) 23 rfl (by decide +kernel) (fun H locs hP hD hS => ?_)
            refine lv_goto (tgt := 59) hx hb dX6_isOnBehind_48 (by decide) ?_
            obtain ⟨x53, ex53⟩ : ∃ z : Int32, z = (x19 + (1 : Int32)) := ⟨_, rfl⟩
            have hf := dq_l hf x53 ex53
            refine lv_iinc (v := x53) (lv' := [(4, .int x53), (0, .ref (a 0)), (1, .int n0), (2, .int n1), (3, .int n2)]) hx hb dX6_isOnBehind_59 hl (k := 4) rfl (by rw [ex53]; rfl) (by decide) rfl (fun ls hl => ?_)
            clear ex53
            refine lv_goto (tgt := 14) hx hb dX6_isOnBehind_62 (by decide) ?_
            exact I14 _ _ _ _ _ _ _ _ _ hf _ _ hP hD hS _ (lv_sub hl [1, 2, 3, 4, 0] rfl)
  exact J14 4096 _ _ _ _ _ _ _ _ _ hf _ _ hP hD hS _ (lv_sub hl [1, 2, 3, 4, 0] rfl)
noncomputable def f_X6_power_b5 (n0 : Int32) (n1 : Int32)  : Nat → Int64 → Int32 → Option Int64
  | 0, _, _ => none
  | m5 + 1, x1, x2 => dq_if (n1 ≤ x2) (some x1) (dq_let (x1 * n0.toInt64) (fun (x4 : Int64) => dq_let (x2 + (1 : Int32)) (fun (x5 : Int32) => (f_X6_power_b5 n0 n1 m5) x4 x5)))
noncomputable def f_X6_power (n0 : Int32) (n1 : Int32) : Option Int64 := f_X6_power_b5 n0 n1 4096 (1 : Int64) (0 : Int32)
-- DraughtsTake.power(II)J
set_option maxHeartbeats 4000000 in
set_option maxRecDepth 100000 in
theorem m_X6_power (l : Launch) (D : va_G) (y : Nat → ClassId) (n0 : Int32) (n1 : Int32) (z0 : Int64) (hf : f_X6_power n0 n1 = some z0) : Ct l D y yX6_power wsX6_power 0 0 [.int n0, .int n1] [] [] (some (.long z0)) := by
  refine ct_head (cc := cX6_power) (n := 5) (ret := (some .long)) (by decide) rfl (Nat.le_of_ble_eq_true rfl) ?_
  intro p e s m below meth c A ls hx hb hr hml hown hlocks hts hA hAe hP hK hD hl
  have hS : va_S A s.heap s.heap [] := va_S.rf
  have hl : lv_has ls 5 [(0, .int n0), (1, .int n1)] := hl
  have hown : s.vm.findClass RX6 = some m.cls := hown
  unfold f_X6_power at hf
  refine lv_lconst (v := 1) hx hb dX6_power_0 (by decide) ?_
  refine lv_lstore_n (lv' := [(2, .long (1 : Int64)), (0, .int n0), (1, .int n1)]) hx hb dX6_power_1 rfl hl (by decide) rfl (fun ls hl => ?_)
  refine lv_iconst (v := 0) hx hb dX6_power_2 (by decide) ?_
  refine lv_istore (lv' := [(4, .int (0 : Int32)), (2, .long (1 : Int64)), (0, .int n0), (1, .int n1)]) hx hb dX6_power_3 hl (by decide) rfl (fun ls hl => ?_)
  have J5 : ∀ (m5 : Nat) (x1 : Int64) (x2 : Int32), f_X6_power_b5 n0 n1 m5 x1 x2 = some z0 → ∀ (H : Heap) (locs : List Loc), va_P D vwCl [] H → va_D A [] → va_S A s.heap H locs → ∀ ls : Array Slot, lv_has ls 5 [(0, .int n0), (1, .int n1), (2, .long x1), (4, .int x2)] → W p l e ({ frames := 0, cells := 0, slots := 0, locals := 0 } : Room) s m [.int n0, .int n1].toArray below meth c H locs 0 0 (MQ below (dQ D y (some (.long z0)) s.heap.size [] []) [.int n0, .int n1].toArray s 0 0 A) (F0 m 5 ls []) := by
    intro m5
    induction m5 with
    | zero => intro x1 x2 hf; exact absurd hf (by unfold f_X6_power_b5; exact fun h => by cases h)
    | succ m5 I5 =>
      intro x1 x2 hf H locs hP hD hS ls hl
      unfold f_X6_power_b5 at hf
      refine lv_iload hx hb dX6_power_5 (lv_at hl 3 rfl) ?_
      refine lv_iload_n hx hb dX6_power_7 rfl (lv_at hl 1 rfl) ?_
      refine lv_icmp_ge (tgt := 22) hx hb dX6_power_8 (by decide) (fun c3 => ?_) (fun c3 => ?_)
      · have hf := dq_t hf c3
        clear c3
        refine lv_lload_n hx hb dX6_power_22 rfl (lv_at hl 2 rfl) ?_
        obtain rfl := dq_r1 hf
        exact ct_lret hx hb hr hlocks hAe hP hK hD hS dX6_power_23
      · have hf := dq_f hf c3
        clear c3
        refine lv_lload_n hx hb dX6_power_11 rfl (lv_at hl 2 rfl) ?_
        refine lv_iload_n hx hb dX6_power_12 rfl (lv_at hl 0 rfl) ?_
        refine lv_i2l hx hb dX6_power_13 rfl ?_
        refine lv_lmul hx hb dX6_power_14 ?_
        refine lv_topl (fun x4 ex4 => ?_)
        have hf := dq_l hf x4 ex4
        clear ex4
        refine lv_lstore_n (lv' := [(2, .long x4), (0, .int n0), (1, .int n1), (4, .int x2)]) hx hb dX6_power_15 rfl hl (by decide) rfl (fun ls hl => ?_)
        obtain ⟨x5, ex5⟩ : ∃ z : Int32, z = (x2 + (1 : Int32)) := ⟨_, rfl⟩
        have hf := dq_l hf x5 ex5
        refine lv_iinc (v := x5) (lv' := [(4, .int x5), (2, .long x4), (0, .int n0), (1, .int n1)]) hx hb dX6_power_16 hl (k := 3) rfl (by rw [ex5]; rfl) (by decide) rfl (fun ls hl => ?_)
        clear ex5
        refine lv_goto (tgt := 5) hx hb dX6_power_19 (by decide) ?_
        exact I5 _ _ hf _ _ hP hD hS _ (lv_sub hl [2, 3, 1, 0] rfl)
  exact J5 4096 _ _ hf _ _ hP hD hS _ (lv_sub hl [2, 3, 1, 0] rfl)
noncomputable def f_X6_commonDivisor_b9   : Nat → Int64 → Int64 → Int32 → Option Int64
  | 0, _, _, _ => none
  | m9 + 1, x1, x2, x3 => dq_if ((100 : Int32) ≤ x3) (some x1) (dq_if ((lg_cmp x2 (0 : Int64)) = 0) (some x1) (dq_gd (¬ x2 = 0) (dq_let (x1 - x1 / x2 * x2) (fun (x7 : Int64) => dq_let (x3 + (1 : Int32)) (fun (x8 : Int32) => (f_X6_commonDivisor_b9 m9) x2 x7 x8)))))
noncomputable def f_X6_commonDivisor (n0 : Int64) (n1 : Int64) : Option Int64 := f_X6_commonDivisor_b9 4096 n0 n1 (0 : Int32)
-- DraughtsTake.commonDivisor(JJ)J
set_option maxHeartbeats 4000000 in
set_option maxRecDepth 100000 in
theorem m_X6_commonDivisor (l : Launch) (D : va_G) (y : Nat → ClassId) (n0 : Int64) (n1 : Int64) (z0 : Int64) (hf : f_X6_commonDivisor n0 n1 = some z0) : Ct l D y yX6_commonDivisor wsX6_commonDivisor 0 0 [.long n0, .long n1] [] [] (some (.long z0)) := by
  refine ct_head (cc := cX6_commonDivisor) (n := 11) (ret := (some .long)) (by decide) rfl (Nat.le_of_ble_eq_true rfl) ?_
  intro p e s m below meth c A ls hx hb hr hml hown hlocks hts hA hAe hP hK hD hl
  have hS : va_S A s.heap s.heap [] := va_S.rf
  have hl : lv_has ls 11 [(0, .long n0), (2, .long n1)] := hl
  have hown : s.vm.findClass RX6 = some m.cls := hown
  unfold f_X6_commonDivisor at hf
  refine lv_lload_n hx hb dX6_commonDivisor_0 rfl (lv_at hl 0 rfl) ?_
  refine lv_lstore (lv' := [(4, .long n0), (0, .long n0), (2, .long n1)]) hx hb dX6_commonDivisor_1 hl (by decide) rfl (fun ls hl => ?_)
  refine lv_lload_n hx hb dX6_commonDivisor_3 rfl (lv_at hl 2 rfl) ?_
  refine lv_lstore (lv' := [(6, .long n1), (4, .long n0), (0, .long n0), (2, .long n1)]) hx hb dX6_commonDivisor_4 hl (by decide) rfl (fun ls hl => ?_)
  refine lv_iconst (v := 0) hx hb dX6_commonDivisor_6 (by decide) ?_
  refine lv_istore (lv' := [(8, .int (0 : Int32)), (6, .long n1), (4, .long n0), (0, .long n0), (2, .long n1)]) hx hb dX6_commonDivisor_7 hl (by decide) rfl (fun ls hl => ?_)
  have J9 : ∀ (m9 : Nat) (x1 : Int64) (x2 : Int64) (x3 : Int32), f_X6_commonDivisor_b9 m9 x1 x2 x3 = some z0 → ∀ (H : Heap) (locs : List Loc), va_P D vwCl [] H → va_D A [] → va_S A s.heap H locs → ∀ ls : Array Slot, lv_has ls 11 [(4, .long x1), (6, .long x2), (8, .int x3)] → W p l e ({ frames := 0, cells := 0, slots := 0, locals := 0 } : Room) s m [.long n0, .long n1].toArray below meth c H locs 0 0 (MQ below (dQ D y (some (.long z0)) s.heap.size [] []) [.long n0, .long n1].toArray s 0 0 A) (F0 m 9 ls []) := by
    intro m9
    induction m9 with
    | zero => intro x1 x2 x3 hf; exact absurd hf (by unfold f_X6_commonDivisor_b9; exact fun h => by cases h)
    | succ m9 I9 =>
      intro x1 x2 x3 hf H locs hP hD hS ls hl
      unfold f_X6_commonDivisor_b9 at hf
      refine lv_iload hx hb dX6_commonDivisor_9 (lv_at hl 2 rfl) ?_
      refine lv_bipush (v := 100) hx hb dX6_commonDivisor_11 (by decide) ?_
      refine lv_icmp_ge (tgt := 44) hx hb dX6_commonDivisor_13 (by decide) (fun c4 => ?_) (fun c4 => ?_)
      · have hf := dq_t hf c4
        clear c4
        refine lv_lload hx hb dX6_commonDivisor_44 (lv_at hl 0 rfl) ?_
        obtain rfl := dq_r1 hf
        exact ct_lret hx hb hr hlocks hAe hP hK hD hS dX6_commonDivisor_46
      · have hf := dq_f hf c4
        clear c4
        refine lv_lload hx hb dX6_commonDivisor_16 (lv_at hl 1 rfl) ?_
        refine lv_lconst (v := 0) hx hb dX6_commonDivisor_18 (by decide) ?_
        refine W.lcmp hx hb dX6_commonDivisor_19 ?_
        refine lv_if_eq (tgt := 44) hx hb dX6_commonDivisor_20 (by decide) (fun c5 => ?_) (fun c5 => ?_)
        · have hf := dq_t hf c5
          clear c5
          refine lv_lload hx hb dX6_commonDivisor_44 (lv_at hl 0 rfl) ?_
          obtain rfl := dq_r1 hf
          exact ct_lret hx hb hr hlocks hAe hP hK hD hS dX6_commonDivisor_46
        · have hf := dq_f hf c5
          clear c5
          refine lv_lload hx hb dX6_commonDivisor_23 (lv_at hl 0 rfl) ?_
          refine lv_lload hx hb dX6_commonDivisor_25 (lv_at hl 1 rfl) ?_
          obtain ⟨h6, hf⟩ := dq_g hf
          refine lv_lrem hx hb dX6_commonDivisor_27 h6 ?_
          refine lv_topl (fun x7 ex7 => ?_)
          have hf := dq_l hf x7 ex7
          clear ex7
          refine lv_lstore (lv' := [(9, .long x7), (4, .long x1), (6, .long x2), (8, .int x3)]) hx hb dX6_commonDivisor_28 hl (by decide) rfl (fun ls hl => ?_)
          refine lv_lload hx hb dX6_commonDivisor_30 (lv_at hl 2 rfl) ?_
          refine lv_lstore (lv' := [(4, .long x2), (9, .long x7), (6, .long x2), (8, .int x3)]) hx hb dX6_commonDivisor_32 hl (by decide) rfl (fun ls hl => ?_)
          refine lv_lload hx hb dX6_commonDivisor_34 (lv_at hl 1 rfl) ?_
          refine lv_lstore (lv' := [(6, .long x7), (4, .long x2), (9, .long x7), (8, .int x3)]) hx hb dX6_commonDivisor_36 hl (by decide) rfl (fun ls hl => ?_)
          obtain ⟨x8, ex8⟩ : ∃ z : Int32, z = (x3 + (1 : Int32)) := ⟨_, rfl⟩
          have hf := dq_l hf x8 ex8
          refine lv_iinc (v := x8) (lv' := [(8, .int x8), (6, .long x7), (4, .long x2), (9, .long x7)]) hx hb dX6_commonDivisor_38 hl (k := 3) rfl (by rw [ex8]; rfl) (by decide) rfl (fun ls hl => ?_)
          clear ex8
          refine lv_goto (tgt := 9) hx hb dX6_commonDivisor_41 (by decide) ?_
          exact I9 _ _ _ hf _ _ hP hD hS _ (lv_sub hl [2, 1, 0] rfl)
  exact J9 4096 _ _ _ hf _ _ hP hD hS _ (lv_sub hl [2, 1, 0] rfl)
def w_X6_still (y : Nat → ClassId) (a : Nat → Nat) (g_hasImage : Int32) (g_toldCount : Int32) (g_n_shutBits : Int64) (g_n_airs : Int32) (g_n_crownedBits : Int32) (g_n_sitters : Int32) (g_n_onBits : Int32) (g_n_turn : Int32) (g_n_taken : Int32) (g_n_warmth : (Nat → UInt32)) (g_n_kind : (Nat → Int32)) (g_n_figure : (Nat → Int32)) (g_n_airCell : (Nat → Int32)) (g_n_way : (Nat → Int32)) (g_n_seat : (Nat → Int32)) (g_n_shawls : (Nat → Int32)) (g_n_count : Int32) (g_n_steps : (Nat → Int32)) (g_n_numbers : (Nat → Int32)) (g_m_shutBits : Int64) (g_m_airs : Int32) (g_m_crownedBits : Int32) (g_m_sitters : Int32) (g_m_onBits : Int32) (g_m_turn : Int32) (g_m_taken : Int32) (g_m_warmth : (Nat → UInt32)) (g_m_kind : (Nat → Int32)) (g_m_figure : (Nat → Int32)) (g_m_airCell : (Nat → Int32)) (g_m_way : (Nat → Int32)) (g_m_seat : (Nat → Int32)) (g_m_shawls : (Nat → Int32)) (g_m_count : Int32) (g_m_steps : (Nat → Int32)) (g_m_numbers : (Nat → Int32)) (g_refused : (Nat → Int32)) : va_W := [((a 0), .inr (5, [.ref (a 1), .ref (a 12), .ref (a 23), .int g_hasImage, .ref (a 34), .ref (a 124), .ref (a 126), .ref (a 134), .int g_toldCount, .ref (a 135), .ref (a 136), .ref (a 137)])), ((a 1), .inr (1, [.ref (a 2), .long g_n_shutBits, .int g_n_airs, .ref (a 3), .ref (a 4), .ref (a 5), .ref (a 6), .int g_n_crownedBits, .int g_n_sitters, .ref (a 7), .ref (a 8), .int g_n_onBits, .int g_n_turn, .int g_n_taken, .ref (a 9)])), ((a 2), .inl (y 0, 36, .inr (.inr (.inl g_n_warmth)))), ((a 3), .inl (y 1, 5, .inl g_n_kind)), ((a 4), .inl (y 1, 5, .inl g_n_figure)), ((a 5), .inl (y 1, 5, .inl g_n_airCell)), ((a 6), .inl (y 1, 5, .inl g_n_way)), ((a 7), .inl (y 1, 6, .inl g_n_seat)), ((a 8), .inl (y 1, 6, .inl g_n_shawls)), ((a 9), .inr (0, [.ref (a 10), .ref (a 11), .int g_n_count])), ((a 10), .inl (y 1, 6, .inl g_n_steps)), ((a 11), .inl (y 1, 6, .inl g_n_numbers)), ((a 12), .inr (1, [.ref (a 13), .long g_m_shutBits, .int g_m_airs, .ref (a 14), .ref (a 15), .ref (a 16), .ref (a 17), .int g_m_crownedBits, .int g_m_sitters, .ref (a 18), .ref (a 19), .int g_m_onBits, .int g_m_turn, .int g_m_taken, .ref (a 20)])), ((a 13), .inl (y 0, 36, .inr (.inr (.inl g_m_warmth)))), ((a 14), .inl (y 1, 5, .inl g_m_kind)), ((a 15), .inl (y 1, 5, .inl g_m_figure)), ((a 16), .inl (y 1, 5, .inl g_m_airCell)), ((a 17), .inl (y 1, 5, .inl g_m_way)), ((a 18), .inl (y 1, 6, .inl g_m_seat)), ((a 19), .inl (y 1, 6, .inl g_m_shawls)), ((a 20), .inr (0, [.ref (a 21), .ref (a 22), .int g_m_count])), ((a 21), .inl (y 1, 6, .inl g_m_steps)), ((a 22), .inl (y 1, 6, .inl g_m_numbers)), ((a 135), .inl (y 1, 7, .inl g_refused))]
noncomputable def f_X6_still_b73 (n0 : Int32) (n1 : Int32) (n2 : Int32) (n3 : Int32) (g_n_shutBits : Int64) (g_n_airs : Int32) (g_n_crownedBits : Int32) (g_n_sitters : Int32) (g_n_onBits : Int32) (g_n_turn : Int32) (g_n_taken : Int32) (g_n_warmth : (Nat → UInt32)) (g_n_kind : (Nat → Int32)) (g_n_figure : (Nat → Int32)) (g_n_airCell : (Nat → Int32)) (g_n_way : (Nat → Int32)) (g_n_seat : (Nat → Int32)) (g_n_shawls : (Nat → Int32)) (g_n_count : Int32) (g_n_steps : (Nat → Int32)) (g_n_numbers : (Nat → Int32)) (g_refused : (Nat → Int32))  : Nat → Int64 → Int32 → Int64 → Int32 → Int32 → Int32 → Int32 → Int32 → Int32 → (Nat → UInt32) → (Nat → Int32) → (Nat → Int32) → (Nat → Int32) → (Nat → Int32) → (Nat → Int32) → (Nat → Int32) → Int32 → (Nat → Int32) → (Nat → Int32) → Option (Int64 × Int64 × Int32 × Int32 × Int32 × Int32 × Int32 × Int32 × (Nat → UInt32) × (Nat → Int32) × (Nat → Int32) × (Nat → Int32) × (Nat → Int32) × (Nat → Int32) × (Nat → Int32) × Int32 × (Nat → Int32) × (Nat → Int32) × (Nat → Int32))
  | 0, _, _, _, _, _, _, _, _, _, _, _, _, _, _, _, _, _, _, _ => none
  | m73 + 1, x19, x20, g_m_shutBits_21, g_m_airs_22, g_m_crownedBits_23, g_m_sitters_24, g_m_onBits_25, g_m_turn_26, g_m_taken_27, g_m_warmth_28, g_m_kind_29, g_m_figure_30, g_m_airCell_31, g_m_way_32, g_m_seat_33, g_m_shawls_34, g_m_count_35, g_m_steps_36, g_m_numbers_37 => dq_if (((1 : Int32) <<< (n1 &&& 31)) ≤ x20) (dq_bd (f_X6_power n2 n1) (fun (x39 : Int64) => dq_bd (f_X6_commonDivisor x19 x39) (fun (x41 : Int64) => dq_if (0 ≤ (lg_cmp x41 (1 : Int64))) (dq_if (n3 = 0) (dq_gd (¬ x41 = 0) (some ((x19 / x41), g_m_shutBits_21, g_m_airs_22, g_m_crownedBits_23, g_m_sitters_24, g_m_onBits_25, g_m_turn_26, g_m_taken_27, g_m_warmth_28, g_m_kind_29, g_m_figure_30, g_m_airCell_31, g_m_way_32, g_m_seat_33, g_m_shawls_34, g_m_count_35, g_m_steps_36, g_m_numbers_37, g_refused))) (dq_gd (¬ x41 = 0) (some ((x39 / x41), g_m_shutBits_21, g_m_airs_22, g_m_crownedBits_23, g_m_sitters_24, g_m_onBits_25, g_m_turn_26, g_m_taken_27, g_m_warmth_28, g_m_kind_29, g_m_figure_30, g_m_airCell_31, g_m_way_32, g_m_seat_33, g_m_shawls_34, g_m_count_35, g_m_steps_36, g_m_numbers_37, g_refused)))) (some ((0 : Int64), g_m_shutBits_21, g_m_airs_22, g_m_crownedBits_23, g_m_sitters_24, g_m_onBits_25, g_m_turn_26, g_m_taken_27, g_m_warmth_28, g_m_kind_29, g_m_figure_30, g_m_airCell_31, g_m_way_32, g_m_seat_33, g_m_shawls_34, g_m_count_35, g_m_steps_36, g_m_numbers_37, g_refused))))) (dq_bd18 (f_X6_isOnBehind g_n_shutBits g_n_airs g_n_crownedBits g_n_sitters g_n_onBits g_n_turn g_n_taken g_n_warmth g_n_kind g_n_figure g_n_airCell g_n_way g_n_seat g_n_shawls g_n_count g_n_steps g_n_numbers g_m_warmth_28 g_m_kind_29 g_m_figure_30 g_m_airCell_31 g_m_way_32 g_m_seat_33 g_m_shawls_34 g_m_steps_36 g_m_numbers_37 n0 n1 x20) (fun (x47 : Int32) (g_m_shutBits_48 : Int64) (g_m_airs_49 : Int32) (g_m_crownedBits_50 : Int32) (g_m_sitters_51 : Int32) (g_m_onBits_52 : Int32) (g_m_turn_53 : Int32) (g_m_taken_54 : Int32) (g_m_warmth_55 : (Nat → UInt32)) (g_m_kind_56 : (Nat → Int32)) (g_m_figure_57 : (Nat → Int32)) (g_m_airCell_58 : (Nat → Int32)) (g_m_way_59 : (Nat → Int32)) (g_m_seat_60 : (Nat → Int32)) (g_m_shawls_61 : (Nat → Int32)) (g_m_count_62 : Int32) (g_m_steps_63 : (Nat → Int32)) (g_m_numbers_64 : (Nat → Int32)) => dq_if (x47 = 0) (dq_let (x20 + (1 : Int32)) (fun (x67 : Int32) => (f_X6_still_b73 n0 n1 n2 n3 g_n_shutBits g_n_airs g_n_crownedBits g_n_sitters g_n_onBits g_n_turn g_n_taken g_n_warmth g_n_kind g_n_figure g_n_airCell g_n_way g_n_seat g_n_shawls g_n_count g_n_steps g_n_numbers g_refused m73) x19 x67 g_m_shutBits_48 g_m_airs_49 g_m_crownedBits_50 g_m_sitters_51 g_m_onBits_52 g_m_turn_53 g_m_taken_54 g_m_warmth_55 g_m_kind_56 g_m_figure_57 g_m_airCell_58 g_m_way_59 g_m_seat_60 g_m_shawls_61 g_m_count_62 g_m_steps_63 g_m_numbers_64)) (dq_bd (f_J6_bitCount_0f7a4 x20) (fun (x68 : Int32) => dq_bd (f_X6_power (n2 - (1 : Int32)) (n1 - x68)) (fun (x70 : Int64) => dq_let (x19 + x70) (fun (x72 : Int64) => dq_let (x20 + (1 : Int32)) (fun (x73 : Int32) => (f_X6_still_b73 n0 n1 n2 n3 g_n_shutBits g_n_airs g_n_crownedBits g_n_sitters g_n_onBits g_n_turn g_n_taken g_n_warmth g_n_kind g_n_figure g_n_airCell g_n_way g_n_seat g_n_shawls g_n_count g_n_steps g_n_numbers g_refused m73) x72 x73 g_m_shutBits_48 g_m_airs_49 g_m_crownedBits_50 g_m_sitters_51 g_m_onBits_52 g_m_turn_53 g_m_taken_54 g_m_warmth_55 g_m_kind_56 g_m_figure_57 g_m_airCell_58 g_m_way_59 g_m_seat_60 g_m_shawls_61 g_m_count_62 g_m_steps_63 g_m_numbers_64)))))))
noncomputable def f_X6_still (g_n_shutBits : Int64) (g_n_airs : Int32) (g_n_crownedBits : Int32) (g_n_sitters : Int32) (g_n_onBits : Int32) (g_n_turn : Int32) (g_n_taken : Int32) (g_n_warmth : (Nat → UInt32)) (g_n_kind : (Nat → Int32)) (g_n_figure : (Nat → Int32)) (g_n_airCell : (Nat → Int32)) (g_n_way : (Nat → Int32)) (g_n_seat : (Nat → Int32)) (g_n_shawls : (Nat → Int32)) (g_n_count : Int32) (g_n_steps : (Nat → Int32)) (g_n_numbers : (Nat → Int32)) (g_m_shutBits : Int64) (g_m_airs : Int32) (g_m_crownedBits : Int32) (g_m_sitters : Int32) (g_m_onBits : Int32) (g_m_turn : Int32) (g_m_taken : Int32) (g_m_warmth : (Nat → UInt32)) (g_m_kind : (Nat → Int32)) (g_m_figure : (Nat → Int32)) (g_m_airCell : (Nat → Int32)) (g_m_way : (Nat → Int32)) (g_m_seat : (Nat → Int32)) (g_m_shawls : (Nat → Int32)) (g_m_count : Int32) (g_m_steps : (Nat → Int32)) (g_m_numbers : (Nat → Int32)) (g_refused : (Nat → Int32)) (n0 : Int32) (n1 : Int32) (n2 : Int32) (n3 : Int32) : Option (Int64 × Int64 × Int32 × Int32 × Int32 × Int32 × Int32 × Int32 × (Nat → UInt32) × (Nat → Int32) × (Nat → Int32) × (Nat → Int32) × (Nat → Int32) × (Nat → Int32) × (Nat → Int32) × Int32 × (Nat → Int32) × (Nat → Int32) × (Nat → Int32)) := dq_bd (f_X6_isSitter g_n_sitters n0) (fun (x1 : Int32) => dq_if (x1 = 0) (dq_bd2 (f_X6_refuseLong g_refused (-1 : Int32)) (fun (x83 : Int64) (g_refused_84 : (Nat → Int32)) => some (x83, g_m_shutBits, g_m_airs, g_m_crownedBits, g_m_sitters, g_m_onBits, g_m_turn, g_m_taken, g_m_warmth, g_m_kind, g_m_figure, g_m_airCell, g_m_way, g_m_seat, g_m_shawls, g_m_count, g_m_steps, g_m_numbers, g_refused_84))) (dq_if (n1 < 0) (dq_bd2 (f_X6_refuseLong g_refused (-4 : Int32)) (fun (x5 : Int64) (g_refused_6 : (Nat → Int32)) => some (x5, g_m_shutBits, g_m_airs, g_m_crownedBits, g_m_sitters, g_m_onBits, g_m_turn, g_m_taken, g_m_warmth, g_m_kind, g_m_figure, g_m_airCell, g_m_way, g_m_seat, g_m_shawls, g_m_count, g_m_steps, g_m_numbers, g_refused_6))) (dq_if ((2 : Int32) ≤ n2) (dq_if ((7 : Int32) < n1) (dq_bd2 (f_X6_refuseLong g_refused (-6 : Int32)) (fun (x10 : Int64) (g_refused_11 : (Nat → Int32)) => some (x10, g_m_shutBits, g_m_airs, g_m_crownedBits, g_m_sitters, g_m_onBits, g_m_turn, g_m_taken, g_m_warmth, g_m_kind, g_m_figure, g_m_airCell, g_m_way, g_m_seat, g_m_shawls, g_m_count, g_m_steps, g_m_numbers, g_refused_11))) (dq_if (n2 ≤ (20 : Int32)) (dq_if (n3 < 0) (dq_bd2 (f_X6_refuseLong g_refused (-2 : Int32)) (fun (x15 : Int64) (g_refused_16 : (Nat → Int32)) => some (x15, g_m_shutBits, g_m_airs, g_m_crownedBits, g_m_sitters, g_m_onBits, g_m_turn, g_m_taken, g_m_warmth, g_m_kind, g_m_figure, g_m_airCell, g_m_way, g_m_seat, g_m_shawls, g_m_count, g_m_steps, g_m_numbers, g_refused_16))) (dq_if (n3 ≤ (1 : Int32)) (f_X6_still_b73 n0 n1 n2 n3 g_n_shutBits g_n_airs g_n_crownedBits g_n_sitters g_n_onBits g_n_turn g_n_taken g_n_warmth g_n_kind g_n_figure g_n_airCell g_n_way g_n_seat g_n_shawls g_n_count g_n_steps g_n_numbers g_refused 4096 (0 : Int64) (0 : Int32) g_m_shutBits g_m_airs g_m_crownedBits g_m_sitters g_m_onBits g_m_turn g_m_taken g_m_warmth g_m_kind g_m_figure g_m_airCell g_m_way g_m_seat g_m_shawls g_m_count g_m_steps g_m_numbers) (dq_bd2 (f_X6_refuseLong g_refused (-2 : Int32)) (fun (x74 : Int64) (g_refused_75 : (Nat → Int32)) => some (x74, g_m_shutBits, g_m_airs, g_m_crownedBits, g_m_sitters, g_m_onBits, g_m_turn, g_m_taken, g_m_warmth, g_m_kind, g_m_figure, g_m_airCell, g_m_way, g_m_seat, g_m_shawls, g_m_count, g_m_steps, g_m_numbers, g_refused_75))))) (dq_bd2 (f_X6_refuseLong g_refused (-6 : Int32)) (fun (x77 : Int64) (g_refused_78 : (Nat → Int32)) => some (x77, g_m_shutBits, g_m_airs, g_m_crownedBits, g_m_sitters, g_m_onBits, g_m_turn, g_m_taken, g_m_warmth, g_m_kind, g_m_figure, g_m_airCell, g_m_way, g_m_seat, g_m_shawls, g_m_count, g_m_steps, g_m_numbers, g_refused_78))))) (dq_bd2 (f_X6_refuseLong g_refused (-4 : Int32)) (fun (x80 : Int64) (g_refused_81 : (Nat → Int32)) => some (x80, g_m_shutBits, g_m_airs, g_m_crownedBits, g_m_sitters, g_m_onBits, g_m_turn, g_m_taken, g_m_warmth, g_m_kind, g_m_figure, g_m_airCell, g_m_way, g_m_seat, g_m_shawls, g_m_count, g_m_steps, g_m_numbers, g_refused_81))))))
-- DraughtsTake.still(IIII)J
set_option maxHeartbeats 4000000 in
set_option maxRecDepth 100000 in
theorem m_X6_still (l : Launch) (D : va_G) (y : Nat → ClassId) (a : (Nat → Nat)) (g_hasImage : Int32) (g_toldCount : Int32) (g_n_shutBits : Int64) (g_n_airs : Int32) (g_n_crownedBits : Int32) (g_n_sitters : Int32) (g_n_onBits : Int32) (g_n_turn : Int32) (g_n_taken : Int32) (g_n_warmth : (Nat → UInt32)) (g_n_kind : (Nat → Int32)) (g_n_figure : (Nat → Int32)) (g_n_airCell : (Nat → Int32)) (g_n_way : (Nat → Int32)) (g_n_seat : (Nat → Int32)) (g_n_shawls : (Nat → Int32)) (g_n_count : Int32) (g_n_steps : (Nat → Int32)) (g_n_numbers : (Nat → Int32)) (g_m_shutBits : Int64) (g_m_airs : Int32) (g_m_crownedBits : Int32) (g_m_sitters : Int32) (g_m_onBits : Int32) (g_m_turn : Int32) (g_m_taken : Int32) (g_m_warmth : (Nat → UInt32)) (g_m_kind : (Nat → Int32)) (g_m_figure : (Nat → Int32)) (g_m_airCell : (Nat → Int32)) (g_m_way : (Nat → Int32)) (g_m_seat : (Nat → Int32)) (g_m_shawls : (Nat → Int32)) (g_m_count : Int32) (g_m_steps : (Nat → Int32)) (g_m_numbers : (Nat → Int32)) (g_refused : (Nat → Int32)) (n0 : Int32) (n1 : Int32) (n2 : Int32) (n3 : Int32) (z0 : Int64) (z1 : Int64) (z2 : Int32) (z3 : Int32) (z4 : Int32) (z5 : Int32) (z6 : Int32) (z7 : Int32) (z8 : (Nat → UInt32)) (z9 : (Nat → Int32)) (z10 : (Nat → Int32)) (z11 : (Nat → Int32)) (z12 : (Nat → Int32)) (z13 : (Nat → Int32)) (z14 : (Nat → Int32)) (z15 : Int32) (z16 : (Nat → Int32)) (z17 : (Nat → Int32)) (z18 : (Nat → Int32)) (hf : f_X6_still g_n_shutBits g_n_airs g_n_crownedBits g_n_sitters g_n_onBits g_n_turn g_n_taken g_n_warmth g_n_kind g_n_figure g_n_airCell g_n_way g_n_seat g_n_shawls g_n_count g_n_steps g_n_numbers g_m_shutBits g_m_airs g_m_crownedBits g_m_sitters g_m_onBits g_m_turn g_m_taken g_m_warmth g_m_kind g_m_figure g_m_airCell g_m_way g_m_seat g_m_shawls g_m_count g_m_steps g_m_numbers g_refused n0 n1 n2 n3 = some (z0, z1, z2, z3, z4, z5, z6, z7, z8, z9, z10, z11, z12, z13, z14, z15, z16, z17, z18)) : Ct l D y yX6_still wsX6_still 6 142 [.ref (a 0), .int n0, .int n1, .int n2, .int n3] (w_X6_still y a g_hasImage g_toldCount g_n_shutBits g_n_airs g_n_crownedBits g_n_sitters g_n_onBits g_n_turn g_n_taken g_n_warmth g_n_kind g_n_figure g_n_airCell g_n_way g_n_seat g_n_shawls g_n_count g_n_steps g_n_numbers g_m_shutBits g_m_airs g_m_crownedBits g_m_sitters g_m_onBits g_m_turn g_m_taken g_m_warmth g_m_kind g_m_figure g_m_airCell g_m_way g_m_seat g_m_shawls g_m_count g_m_steps g_m_numbers g_refused) (w_X6_still y a g_hasImage g_toldCount g_n_shutBits g_n_airs g_n_crownedBits g_n_sitters g_n_onBits g_n_turn g_n_taken g_n_warmth g_n_kind g_n_figure g_n_airCell g_n_way g_n_seat g_n_shawls g_n_count g_n_steps g_n_numbers z1 z2 z3 z4 z5 z6 z7 z8 z9 z10 z11 z12 z13 z14 z15 z16 z17 z18) (some (.long z0)) := by
  refine ct_head (cc := cX6_still) (n := 11) (ret := (some .long)) (by decide) rfl (Nat.le_of_ble_eq_true rfl) ?_
  intro p e s m below meth c A ls hx hb hr hml hown hlocks hts hA hAe hP hK hD hl
  have hS : va_S A s.heap s.heap [] := va_S.rf
  have hl : lv_has ls 11 [(0, .ref (a 0)), (1, .int n0), (2, .int n1), (3, .int n2), (4, .int n3)] := hl
  have hown : s.vm.findClass RX6 = some m.cls := hown
  unfold f_X6_still at hf
  refine lv_aload_n hx hb dX6_still_0 rfl (lv_at hl 0 rfl) ?_
  refine lv_iload_n hx hb dX6_still_1 rfl (lv_at hl 1 rfl) ?_
  obtain ⟨x1, hy2, hf⟩ := dq_b hf
  refine ct_callV (ci := 5) (q0 := 0) (own := RX6) (As := [.int n0]) (rest := []) (ws' := (w_X6_still y a g_hasImage g_toldCount g_n_shutBits g_n_airs g_n_crownedBits g_n_sitters g_n_onBits g_n_turn g_n_taken g_n_warmth g_n_kind g_n_figure g_n_airCell g_n_way g_n_seat g_n_shawls g_n_count g_n_steps g_n_numbers g_m_shutBits g_m_airs g_m_crownedBits g_m_sitters g_m_onBits g_m_turn g_m_taken g_m_warmth g_m_kind g_m_figure g_m_airCell g_m_way g_m_seat g_m_shawls g_m_count g_m_steps g_m_numbers g_refused)) ⟨hx, hb, hml, hown, hts⟩ (m_X6_isSitter l D y a g_hasImage g_toldCount g_n_shutBits g_n_airs g_n_crownedBits g_n_sitters g_n_onBits g_n_turn g_n_taken g_n_warmth g_n_kind g_n_figure g_n_airCell g_n_way g_n_seat g_n_shawls g_n_count g_n_steps g_n_numbers n0 x1 hy2) (cwV 1 hts gX6_still_X6_isSitter rfl rfl rfl (by decide +kernel) ⟨Nat.le_of_ble_eq_true rfl, Nat.le_of_ble_eq_true rfl⟩) rfl rfl rfl hl.1 rfl (Nat.le_of_ble_eq_true rfl) dX6_still_2 ⟨Nat.zero_le _, Nat.zero_le _⟩ hK hP hD hS hA [0, 1, 2, 3, 4, 5, 6, 7, 8, 9, 10, 11] [12, 13, 14, 15, 16, 17, 18, 19, 20, 21, 22, 23] rfl rfl rfl (by decide) (by decide) 24 rfl (by decide +kernel) (fun H locs hP hD hS => ?_)
  refine lv_if_ne (tgt := 14) hx hb dX6_still_5 (by decide) (fun c3 => ?_) (fun c3 => ?_)
  · have hf := dq_f hf c3
    clear c3
    refine lv_iload_n hx hb dX6_still_14 rfl (lv_at hl 2 rfl) ?_
    refine lv_if_lt (tgt := 23) hx hb dX6_still_15 (by decide) (fun c4 => ?_) (fun c4 => ?_)
    · have hf := dq_t hf c4
      clear c4
      refine lv_aload_n hx hb dX6_still_23 rfl (lv_at hl 0 rfl) ?_
      refine lv_bipush (v := -4) hx hb dX6_still_24 (by decide) ?_
      obtain ⟨x5, g_refused_6, hy7, hf⟩ := dq_b2 hf
      refine ct_callV (ci := 5) (q0 := 0) (own := RX6) (As := [.int (-4 : Int32)]) (rest := []) (ws' := (w_X6_still y a g_hasImage g_toldCount g_n_shutBits g_n_airs g_n_crownedBits g_n_sitters g_n_onBits g_n_turn g_n_taken g_n_warmth g_n_kind g_n_figure g_n_airCell g_n_way g_n_seat g_n_shawls g_n_count g_n_steps g_n_numbers g_m_shutBits g_m_airs g_m_crownedBits g_m_sitters g_m_onBits g_m_turn g_m_taken g_m_warmth g_m_kind g_m_figure g_m_airCell g_m_way g_m_seat g_m_shawls g_m_count g_m_steps g_m_numbers g_refused_6)) ⟨hx, hb, hml, hown, hts⟩ (m_X6_refuseLong l D y a g_hasImage g_toldCount g_refused (-4 : Int32) x5 g_refused_6 hy7) (cwV 1 hts gX6_still_X6_refuseLong rfl rfl rfl (by decide +kernel) ⟨Nat.le_of_ble_eq_true rfl, Nat.le_of_ble_eq_true rfl⟩) rfl rfl rfl hl.1 rfl (Nat.le_of_ble_eq_true rfl) dX6_still_26 ⟨Nat.zero_le _, Nat.zero_le _⟩ hK hP hD hS hA [0, 23] [1, 2, 3, 4, 5, 6, 7, 8, 9, 10, 11, 12, 13, 14, 15, 16, 17, 18, 19, 20, 21, 22] rfl rfl rfl (by decide) (by decide) 24 rfl (by decide +kernel) (fun H locs hP hD hS => ?_)
      obtain ⟨rfl, rfl, rfl, rfl, rfl, rfl, rfl, rfl, rfl, rfl, rfl, rfl, rfl, rfl, rfl, rfl, rfl, rfl, rfl⟩ := dq_r19 hf
      exact ct_lret hx hb hr hlocks hAe hP hK hD hS dX6_still_29
    · have hf := dq_f hf c4
      clear c4
      refine lv_iload_n hx hb dX6_still_18 rfl (lv_at hl 3 rfl) ?_
      refine lv_iconst (v := 2) hx hb dX6_still_19 (by decide) ?_
      refine lv_icmp_ge (tgt := 30) hx hb dX6_still_20 (by decide) (fun c8 => ?_) (fun c8 => ?_)
      · have hf := dq_t hf c8
        clear c8
        refine lv_iload_n hx hb dX6_still_30 rfl (lv_at hl 2 rfl) ?_
        refine lv_bipush (v := 7) hx hb dX6_still_31 (by decide) ?_
        refine lv_icmp_gt (tgt := 42) hx hb dX6_still_33 (by decide) (fun c9 => ?_) (fun c9 => ?_)
        · have hf := dq_t hf c9
          clear c9
          refine lv_aload_n hx hb dX6_still_42 rfl (lv_at hl 0 rfl) ?_
          refine lv_bipush (v := -6) hx hb dX6_still_43 (by decide) ?_
          obtain ⟨x10, g_refused_11, hy12, hf⟩ := dq_b2 hf
          refine ct_callV (ci := 5) (q0 := 0) (own := RX6) (As := [.int (-6 : Int32)]) (rest := []) (ws' := (w_X6_still y a g_hasImage g_toldCount g_n_shutBits g_n_airs g_n_crownedBits g_n_sitters g_n_onBits g_n_turn g_n_taken g_n_warmth g_n_kind g_n_figure g_n_airCell g_n_way g_n_seat g_n_shawls g_n_count g_n_steps g_n_numbers g_m_shutBits g_m_airs g_m_crownedBits g_m_sitters g_m_onBits g_m_turn g_m_taken g_m_warmth g_m_kind g_m_figure g_m_airCell g_m_way g_m_seat g_m_shawls g_m_count g_m_steps g_m_numbers g_refused_11)) ⟨hx, hb, hml, hown, hts⟩ (m_X6_refuseLong l D y a g_hasImage g_toldCount g_refused (-6 : Int32) x10 g_refused_11 hy12) (cwV 1 hts gX6_still_X6_refuseLong rfl rfl rfl (by decide +kernel) ⟨Nat.le_of_ble_eq_true rfl, Nat.le_of_ble_eq_true rfl⟩) rfl rfl rfl hl.1 rfl (Nat.le_of_ble_eq_true rfl) dX6_still_45 ⟨Nat.zero_le _, Nat.zero_le _⟩ hK hP hD hS hA [0, 23] [1, 2, 3, 4, 5, 6, 7, 8, 9, 10, 11, 12, 13, 14, 15, 16, 17, 18, 19, 20, 21, 22] rfl rfl rfl (by decide) (by decide) 24 rfl (by decide +kernel) (fun H locs hP hD hS => ?_)
          obtain ⟨rfl, rfl, rfl, rfl, rfl, rfl, rfl, rfl, rfl, rfl, rfl, rfl, rfl, rfl, rfl, rfl, rfl, rfl, rfl⟩ := dq_r19 hf
          exact ct_lret hx hb hr hlocks hAe hP hK hD hS dX6_still_48
        · have hf := dq_f hf c9
          clear c9
          refine lv_iload_n hx hb dX6_still_36 rfl (lv_at hl 3 rfl) ?_
          refine lv_bipush (v := 20) hx hb dX6_still_37 (by decide) ?_
          refine lv_icmp_le (tgt := 49) hx hb dX6_still_39 (by decide) (fun c13 => ?_) (fun c13 => ?_)
          · have hf := dq_t hf c13
            clear c13
            refine lv_iload hx hb dX6_still_49 (lv_at hl 4 rfl) ?_
            refine lv_if_lt (tgt := 60) hx hb dX6_still_51 (by decide) (fun c14 => ?_) (fun c14 => ?_)
            · have hf := dq_t hf c14
              clear c14
              refine lv_aload_n hx hb dX6_still_60 rfl (lv_at hl 0 rfl) ?_
              refine lv_bipush (v := -2) hx hb dX6_still_61 (by decide) ?_
              obtain ⟨x15, g_refused_16, hy17, hf⟩ := dq_b2 hf
              refine ct_callV (ci := 5) (q0 := 0) (own := RX6) (As := [.int (-2 : Int32)]) (rest := []) (ws' := (w_X6_still y a g_hasImage g_toldCount g_n_shutBits g_n_airs g_n_crownedBits g_n_sitters g_n_onBits g_n_turn g_n_taken g_n_warmth g_n_kind g_n_figure g_n_airCell g_n_way g_n_seat g_n_shawls g_n_count g_n_steps g_n_numbers g_m_shutBits g_m_airs g_m_crownedBits g_m_sitters g_m_onBits g_m_turn g_m_taken g_m_warmth g_m_kind g_m_figure g_m_airCell g_m_way g_m_seat g_m_shawls g_m_count g_m_steps g_m_numbers g_refused_16)) ⟨hx, hb, hml, hown, hts⟩ (m_X6_refuseLong l D y a g_hasImage g_toldCount g_refused (-2 : Int32) x15 g_refused_16 hy17) (cwV 1 hts gX6_still_X6_refuseLong rfl rfl rfl (by decide +kernel) ⟨Nat.le_of_ble_eq_true rfl, Nat.le_of_ble_eq_true rfl⟩) rfl rfl rfl hl.1 rfl (Nat.le_of_ble_eq_true rfl) dX6_still_63 ⟨Nat.zero_le _, Nat.zero_le _⟩ hK hP hD hS hA [0, 23] [1, 2, 3, 4, 5, 6, 7, 8, 9, 10, 11, 12, 13, 14, 15, 16, 17, 18, 19, 20, 21, 22] rfl rfl rfl (by decide) (by decide) 24 rfl (by decide +kernel) (fun H locs hP hD hS => ?_)
              obtain ⟨rfl, rfl, rfl, rfl, rfl, rfl, rfl, rfl, rfl, rfl, rfl, rfl, rfl, rfl, rfl, rfl, rfl, rfl, rfl⟩ := dq_r19 hf
              exact ct_lret hx hb hr hlocks hAe hP hK hD hS dX6_still_66
            · have hf := dq_f hf c14
              clear c14
              refine lv_iload hx hb dX6_still_54 (lv_at hl 4 rfl) ?_
              refine lv_iconst (v := 1) hx hb dX6_still_56 (by decide) ?_
              refine lv_icmp_le (tgt := 67) hx hb dX6_still_57 (by decide) (fun c18 => ?_) (fun c18 => ?_)
              · have hf := dq_t hf c18
                clear c18
                refine lv_lconst (v := 0) hx hb dX6_still_67 (by decide) ?_
                refine lv_lstore (lv' := [(5, .long (0 : Int64)), (0, .ref (a 0)), (1, .int n0), (2, .int n1), (3, .int n2), (4, .int n3)]) hx hb dX6_still_68 hl (by decide) rfl (fun ls hl => ?_)
                refine lv_iconst (v := 0) hx hb dX6_still_70 (by decide) ?_
                refine lv_istore (lv' := [(7, .int (0 : Int32)), (5, .long (0 : Int64)), (0, .ref (a 0)), (1, .int n0), (2, .int n1), (3, .int n2), (4, .int n3)]) hx hb dX6_still_71 hl (by decide) rfl (fun ls hl => ?_)
                have J73 : ∀ (m73 : Nat) (x19 : Int64) (x20 : Int32) (g_m_shutBits_21 : Int64) (g_m_airs_22 : Int32) (g_m_crownedBits_23 : Int32) (g_m_sitters_24 : Int32) (g_m_onBits_25 : Int32) (g_m_turn_26 : Int32) (g_m_taken_27 : Int32) (g_m_warmth_28 : (Nat → UInt32)) (g_m_kind_29 : (Nat → Int32)) (g_m_figure_30 : (Nat → Int32)) (g_m_airCell_31 : (Nat → Int32)) (g_m_way_32 : (Nat → Int32)) (g_m_seat_33 : (Nat → Int32)) (g_m_shawls_34 : (Nat → Int32)) (g_m_count_35 : Int32) (g_m_steps_36 : (Nat → Int32)) (g_m_numbers_37 : (Nat → Int32)), f_X6_still_b73 n0 n1 n2 n3 g_n_shutBits g_n_airs g_n_crownedBits g_n_sitters g_n_onBits g_n_turn g_n_taken g_n_warmth g_n_kind g_n_figure g_n_airCell g_n_way g_n_seat g_n_shawls g_n_count g_n_steps g_n_numbers g_refused m73 x19 x20 g_m_shutBits_21 g_m_airs_22 g_m_crownedBits_23 g_m_sitters_24 g_m_onBits_25 g_m_turn_26 g_m_taken_27 g_m_warmth_28 g_m_kind_29 g_m_figure_30 g_m_airCell_31 g_m_way_32 g_m_seat_33 g_m_shawls_34 g_m_count_35 g_m_steps_36 g_m_numbers_37 = some (z0, z1, z2, z3, z4, z5, z6, z7, z8, z9, z10, z11, z12, z13, z14, z15, z16, z17, z18) → ∀ (H : Heap) (locs : List Loc), va_P D vwCl (w_X6_still y a g_hasImage g_toldCount g_n_shutBits g_n_airs g_n_crownedBits g_n_sitters g_n_onBits g_n_turn g_n_taken g_n_warmth g_n_kind g_n_figure g_n_airCell g_n_way g_n_seat g_n_shawls g_n_count g_n_steps g_n_numbers g_m_shutBits_21 g_m_airs_22 g_m_crownedBits_23 g_m_sitters_24 g_m_onBits_25 g_m_turn_26 g_m_taken_27 g_m_warmth_28 g_m_kind_29 g_m_figure_30 g_m_airCell_31 g_m_way_32 g_m_seat_33 g_m_shawls_34 g_m_count_35 g_m_steps_36 g_m_numbers_37 g_refused) H → va_D A (w_X6_still y a g_hasImage g_toldCount g_n_shutBits g_n_airs g_n_crownedBits g_n_sitters g_n_onBits g_n_turn g_n_taken g_n_warmth g_n_kind g_n_figure g_n_airCell g_n_way g_n_seat g_n_shawls g_n_count g_n_steps g_n_numbers g_m_shutBits_21 g_m_airs_22 g_m_crownedBits_23 g_m_sitters_24 g_m_onBits_25 g_m_turn_26 g_m_taken_27 g_m_warmth_28 g_m_kind_29 g_m_figure_30 g_m_airCell_31 g_m_way_32 g_m_seat_33 g_m_shawls_34 g_m_count_35 g_m_steps_36 g_m_numbers_37 g_refused) → va_S A s.heap H locs → ∀ ls : Array Slot, lv_has ls 11 [(0, .ref (a 0)), (1, .int n0), (2, .int n1), (3, .int n2), (4, .int n3), (5, .long x19), (7, .int x20)] → W p l e ({ frames := 6, cells := 0, slots := 0, locals := 142 } : Room) s m [.ref (a 0), .int n0, .int n1, .int n2, .int n3].toArray below meth c H locs 0 0 (MQ below (dQ D y (some (.long z0)) s.heap.size (w_X6_still y a g_hasImage g_toldCount g_n_shutBits g_n_airs g_n_crownedBits g_n_sitters g_n_onBits g_n_turn g_n_taken g_n_warmth g_n_kind g_n_figure g_n_airCell g_n_way g_n_seat g_n_shawls g_n_count g_n_steps g_n_numbers g_m_shutBits g_m_airs g_m_crownedBits g_m_sitters g_m_onBits g_m_turn g_m_taken g_m_warmth g_m_kind g_m_figure g_m_airCell g_m_way g_m_seat g_m_shawls g_m_count g_m_steps g_m_numbers g_refused) (w_X6_still y a g_hasImage g_toldCount g_n_shutBits g_n_airs g_n_crownedBits g_n_sitters g_n_onBits g_n_turn g_n_taken g_n_warmth g_n_kind g_n_figure g_n_airCell g_n_way g_n_seat g_n_shawls g_n_count g_n_steps g_n_numbers z1 z2 z3 z4 z5 z6 z7 z8 z9 z10 z11 z12 z13 z14 z15 z16 z17 z18)) [.ref (a 0), .int n0, .int n1, .int n2, .int n3].toArray s 0 0 A) (F0 m 73 ls []) := by
                  intro m73
                  induction m73 with
                  | zero => intro x19 x20 g_m_shutBits_21 g_m_airs_22 g_m_crownedBits_23 g_m_sitters_24 g_m_onBits_25 g_m_turn_26 g_m_taken_27 g_m_warmth_28 g_m_kind_29 g_m_figure_30 g_m_airCell_31 g_m_way_32 g_m_seat_33 g_m_shawls_34 g_m_count_35 g_m_steps_36 g_m_numbers_37 hf; exact absurd hf (by unfold f_X6_still_b73; exact fun h => by cases h)
                  | succ m73 I73 =>
                    intro x19 x20 g_m_shutBits_21 g_m_airs_22 g_m_crownedBits_23 g_m_sitters_24 g_m_onBits_25 g_m_turn_26 g_m_taken_27 g_m_warmth_28 g_m_kind_29 g_m_figure_30 g_m_airCell_31 g_m_way_32 g_m_seat_33 g_m_shawls_34 g_m_count_35 g_m_steps_36 g_m_numbers_37 hf H locs hP hD hS ls hl
                    unfold f_X6_still_b73 at hf
                    refine lv_iload hx hb dX6_still_73 (lv_at hl 6 rfl) ?_
                    refine lv_iconst (v := 1) hx hb dX6_still_75 (by decide) ?_
                    refine lv_iload_n hx hb dX6_still_76 rfl (lv_at hl 2 rfl) ?_
                    refine lv_ishl hx hb dX6_still_77 ?_
                    refine lv_icmp_ge (tgt := 116) hx hb dX6_still_78 (by decide) (fun c38 => ?_) (fun c38 => ?_)
                    · have hf := dq_t hf c38
                      clear c38
                      refine lv_iload_n hx hb dX6_still_116 rfl (lv_at hl 3 rfl) ?_
                      refine lv_iload_n hx hb dX6_still_117 rfl (lv_at hl 2 rfl) ?_
                      obtain ⟨x39, hy40, hf⟩ := dq_b hf
                      refine ct_callS0 (own := RX6) (As := [.int n2, .int n1]) (rest := []) ⟨hx, hb, hml, hown, hts⟩ (m_X6_power l D y n2 n1 x39 hy40) (va_cwS 2 hts gX6_still_X6_power rfl rfl rfl (by decide +kernel) ⟨Nat.le_of_ble_eq_true rfl, Nat.le_of_ble_eq_true rfl⟩) rfl hl.1 rfl (Nat.le_of_ble_eq_true rfl) dX6_still_118 ⟨Nat.zero_le _, Nat.zero_le _⟩ hK hP hD hS hA (fun H locs hP hD hS => ?_)
                      refine lv_lstore (lv' := [(7, .long x39), (0, .ref (a 0)), (1, .int n0), (2, .int n1), (3, .int n2), (4, .int n3), (5, .long x19)]) hx hb dX6_still_121 hl (by decide) rfl (fun ls hl => ?_)
                      refine lv_lload hx hb dX6_still_123 (lv_at hl 6 rfl) ?_
                      refine lv_lload hx hb dX6_still_125 (lv_at hl 0 rfl) ?_
                      obtain ⟨x41, hy42, hf⟩ := dq_b hf
                      refine ct_callS0 (own := RX6) (As := [.long x19, .long x39]) (rest := []) ⟨hx, hb, hml, hown, hts⟩ (m_X6_commonDivisor l D y x19 x39 x41 hy42) (va_cwS 2 hts gX6_still_X6_commonDivisor rfl rfl rfl (by decide +kernel) ⟨Nat.le_of_ble_eq_true rfl, Nat.le_of_ble_eq_true rfl⟩) rfl hl.1 rfl (Nat.le_of_ble_eq_true rfl) dX6_still_127 ⟨Nat.zero_le _, Nat.zero_le _⟩ hK hP hD hS hA (fun H locs hP hD hS => ?_)
                      refine lv_lstore (lv' := [(9, .long x41), (7, .long x39), (0, .ref (a 0)), (1, .int n0), (2, .int n1), (3, .int n2), (4, .int n3), (5, .long x19)]) hx hb dX6_still_130 hl (by decide) rfl (fun ls hl => ?_)
                      refine lv_lload hx hb dX6_still_132 (lv_at hl 0 rfl) ?_
                      refine lv_lconst (v := 1) hx hb dX6_still_134 (by decide) ?_
                      refine W.lcmp hx hb dX6_still_135 ?_
                      refine lv_if_ge (tgt := 141) hx hb dX6_still_136 (by decide) (fun c43 => ?_) (fun c43 => ?_)
                      · have hf := dq_t hf c43
                        clear c43
                        refine lv_iload hx hb dX6_still_141 (lv_at hl 6 rfl) ?_
                        refine lv_if_ne (tgt := 154) hx hb dX6_still_143 (by decide) (fun c44 => ?_) (fun c44 => ?_)
                        · have hf := dq_f hf c44
                          clear c44
                          refine lv_lload hx hb dX6_still_154 (lv_at hl 1 rfl) ?_
                          refine lv_lload hx hb dX6_still_156 (lv_at hl 0 rfl) ?_
                          obtain ⟨h45, hf⟩ := dq_g hf
                          refine lv_ldiv hx hb dX6_still_158 h45 ?_
                          obtain ⟨rfl, rfl, rfl, rfl, rfl, rfl, rfl, rfl, rfl, rfl, rfl, rfl, rfl, rfl, rfl, rfl, rfl, rfl, rfl⟩ := dq_r19 hf
                          exact ct_lret hx hb hr hlocks hAe hP hK hD hS dX6_still_159
                        · have hf := dq_t hf c44
                          clear c44
                          refine lv_lload hx hb dX6_still_146 (lv_at hl 7 rfl) ?_
                          refine lv_lload hx hb dX6_still_148 (lv_at hl 0 rfl) ?_
                          obtain ⟨h46, hf⟩ := dq_g hf
                          refine lv_ldiv hx hb dX6_still_150 h46 ?_
                          refine lv_goto (tgt := 159) hx hb dX6_still_151 (by decide) ?_
                          obtain ⟨rfl, rfl, rfl, rfl, rfl, rfl, rfl, rfl, rfl, rfl, rfl, rfl, rfl, rfl, rfl, rfl, rfl, rfl, rfl⟩ := dq_r19 hf
                          exact ct_lret hx hb hr hlocks hAe hP hK hD hS dX6_still_159
                      · have hf := dq_f hf c43
                        clear c43
                        refine lv_lconst (v := 0) hx hb dX6_still_139 (by decide) ?_
                        obtain ⟨rfl, rfl, rfl, rfl, rfl, rfl, rfl, rfl, rfl, rfl, rfl, rfl, rfl, rfl, rfl, rfl, rfl, rfl, rfl⟩ := dq_r19 hf
                        exact ct_lret hx hb hr hlocks hAe hP hK hD hS dX6_still_140
                    · have hf := dq_f hf c38
                      clear c38
                      refine lv_aload_n hx hb dX6_still_81 rfl (lv_at hl 0 rfl) ?_
                      refine lv_iload_n hx hb dX6_still_82 rfl (lv_at hl 1 rfl) ?_
                      refine lv_iload_n hx hb dX6_still_83 rfl (lv_at hl 2 rfl) ?_
                      refine lv_iload hx hb dX6_still_84 (lv_at hl 6 rfl) ?_
                      obtain ⟨x47, g_m_shutBits_48, g_m_airs_49, g_m_crownedBits_50, g_m_sitters_51, g_m_onBits_52, g_m_turn_53, g_m_taken_54, g_m_warmth_55, g_m_kind_56, g_m_figure_57, g_m_airCell_58, g_m_way_59, g_m_seat_60, g_m_shawls_61, g_m_count_62, g_m_steps_63, g_m_numbers_64, hy65, hf⟩ := dq_b18 hf
                      refine ct_callV (ci := 5) (q0 := 0) (own := RX6) (As := [.int n0, .int n1, .int x20]) (rest := []) (ws' := (w_X6_still y a g_hasImage g_toldCount g_n_shutBits g_n_airs g_n_crownedBits g_n_sitters g_n_onBits g_n_turn g_n_taken g_n_warmth g_n_kind g_n_figure g_n_airCell g_n_way g_n_seat g_n_shawls g_n_count g_n_steps g_n_numbers g_m_shutBits_48 g_m_airs_49 g_m_crownedBits_50 g_m_sitters_51 g_m_onBits_52 g_m_turn_53 g_m_taken_54 g_m_warmth_55 g_m_kind_56 g_m_figure_57 g_m_airCell_58 g_m_way_59 g_m_seat_60 g_m_shawls_61 g_m_count_62 g_m_steps_63 g_m_numbers_64 g_refused)) ⟨hx, hb, hml, hown, hts⟩ (m_X6_isOnBehind l D y a g_hasImage g_toldCount g_n_shutBits g_n_airs g_n_crownedBits g_n_sitters g_n_onBits g_n_turn g_n_taken g_n_warmth g_n_kind g_n_figure g_n_airCell g_n_way g_n_seat g_n_shawls g_n_count g_n_steps g_n_numbers g_m_shutBits_21 g_m_airs_22 g_m_crownedBits_23 g_m_sitters_24 g_m_onBits_25 g_m_turn_26 g_m_taken_27 g_m_warmth_28 g_m_kind_29 g_m_figure_30 g_m_airCell_31 g_m_way_32 g_m_seat_33 g_m_shawls_34 g_m_count_35 g_m_steps_36 g_m_numbers_37 n0 n1 x20 x47 g_m_shutBits_48 g_m_airs_49 g_m_crownedBits_50 g_m_sitters_51 g_m_onBits_52 g_m_turn_53 g_m_taken_54 g_m_warmth_55 g_m_kind_56 g_m_figure_57 g_m_airCell_58 g_m_way_59 g_m_seat_60 g_m_shawls_61 g_m_count_62 g_m_steps_63 g_m_numbers_64 hy65) (cwV 3 hts gX6_still_X6_isOnBehind rfl rfl rfl (by decide +kernel) ⟨Nat.le_of_ble_eq_true rfl, Nat.le_of_ble_eq_true rfl⟩) rfl rfl rfl hl.1 rfl (Nat.le_of_ble_eq_true rfl) dX6_still_86 ⟨Nat.zero_le _, Nat.zero_le _⟩ hK hP hD hS hA [0, 1, 2, 3, 4, 5, 6, 7, 8, 9, 10, 11, 12, 13, 14, 15, 16, 17, 18, 19, 20, 21, 22] [23] rfl rfl rfl (by decide) (by decide) 24 rfl (by decide +kernel) (fun H locs hP hD hS => ?_)
                      refine lv_if_eq (tgt := 110) hx hb dX6_still_89 (by decide) (fun c66 => ?_) (fun c66 => ?_)
                      · have hf := dq_t hf c66
                        clear c66
                        obtain ⟨x67, ex67⟩ : ∃ z : Int32, z = (x20 + (1 : Int32)) := ⟨_, rfl⟩
                        have hf := dq_l hf x67 ex67
                        refine lv_iinc (v := x67) (lv' := [(7, .int x67), (0, .ref (a 0)), (1, .int n0), (2, .int n1), (3, .int n2), (4, .int n3), (5, .long x19)]) hx hb dX6_still_110 hl (k := 6) rfl (by rw [ex67]; rfl) (by decide) rfl (fun ls hl => ?_)
                        clear ex67
                        refine lv_goto (tgt := 73) hx hb dX6_still_113 (by decide) ?_
                        exact I73 _ _ _ _ _ _ _ _ _ _ _ _ _ _ _ _ _ _ _ hf _ _ hP hD hS _ (lv_sub hl [1, 2, 3, 4, 5, 6, 0] rfl)
                      · have hf := dq_f hf c66
                        clear c66
                        refine lv_lload hx hb dX6_still_92 (lv_at hl 5 rfl) ?_
                        refine lv_iload_n hx hb dX6_still_94 rfl (lv_at hl 3 rfl) ?_
                        refine lv_iconst (v := 1) hx hb dX6_still_95 (by decide) ?_
                        refine lv_isub hx hb dX6_still_96 ?_
                        refine lv_iload_n hx hb dX6_still_97 rfl (lv_at hl 2 rfl) ?_
                        refine lv_iload hx hb dX6_still_98 (lv_at hl 6 rfl) ?_
                        obtain ⟨x68, hy69, hf⟩ := dq_b hf
                        refine ct_callS0 (own := RX6) (As := [.int x20]) (rest := [.int n1, .int (n2 - (1 : Int32)), .long x19]) ⟨hx, hb, hml, hown, hts⟩ (m_J6_bitCount_0f7a4 l D y x20 x68 hy69) (va_cwS 1 hts gX6_still_J6_bitCount_0f7a4 rfl rfl rfl (by decide +kernel) ⟨Nat.le_of_ble_eq_true rfl, Nat.le_of_ble_eq_true rfl⟩) rfl hl.1 rfl (Nat.le_of_ble_eq_true rfl) dX6_still_100 ⟨Nat.zero_le _, Nat.zero_le _⟩ hK hP hD hS hA (fun H locs hP hD hS => ?_)
                        refine lv_isub hx hb dX6_still_103 ?_
                        obtain ⟨x70, hy71, hf⟩ := dq_b hf
                        refine ct_callS0 (own := RX6) (As := [.int (n2 - (1 : Int32)), .int (n1 - x68)]) (rest := [.long x19]) ⟨hx, hb, hml, hown, hts⟩ (m_X6_power l D y (n2 - (1 : Int32)) (n1 - x68) x70 hy71) (va_cwS 2 hts gX6_still_X6_power rfl rfl rfl (by decide +kernel) ⟨Nat.le_of_ble_eq_true rfl, Nat.le_of_ble_eq_true rfl⟩) rfl hl.1 rfl (Nat.le_of_ble_eq_true rfl) dX6_still_104 ⟨Nat.zero_le _, Nat.zero_le _⟩ hK hP hD hS hA (fun H locs hP hD hS => ?_)
                        refine lv_ladd hx hb dX6_still_107 ?_
                        refine lv_topl (fun x72 ex72 => ?_)
                        have hf := dq_l hf x72 ex72
                        clear ex72
                        refine lv_lstore (lv' := [(5, .long x72), (0, .ref (a 0)), (1, .int n0), (2, .int n1), (3, .int n2), (4, .int n3), (7, .int x20)]) hx hb dX6_still_108 hl (by decide) rfl (fun ls hl => ?_)
                        obtain ⟨x73, ex73⟩ : ∃ z : Int32, z = (x20 + (1 : Int32)) := ⟨_, rfl⟩
                        have hf := dq_l hf x73 ex73
                        refine lv_iinc (v := x73) (lv' := [(7, .int x73), (5, .long x72), (0, .ref (a 0)), (1, .int n0), (2, .int n1), (3, .int n2), (4, .int n3)]) hx hb dX6_still_110 hl (k := 6) rfl (by rw [ex73]; rfl) (by decide) rfl (fun ls hl => ?_)
                        clear ex73
                        refine lv_goto (tgt := 73) hx hb dX6_still_113 (by decide) ?_
                        exact I73 _ _ _ _ _ _ _ _ _ _ _ _ _ _ _ _ _ _ _ hf _ _ hP hD hS _ (lv_sub hl [2, 3, 4, 5, 6, 1, 0] rfl)
                exact J73 4096 _ _ _ _ _ _ _ _ _ _ _ _ _ _ _ _ _ _ _ hf _ _ hP hD hS _ (lv_sub hl [2, 3, 4, 5, 6, 1, 0] rfl)
              · have hf := dq_f hf c18
                clear c18
                refine lv_aload_n hx hb dX6_still_60 rfl (lv_at hl 0 rfl) ?_
                refine lv_bipush (v := -2) hx hb dX6_still_61 (by decide) ?_
                obtain ⟨x74, g_refused_75, hy76, hf⟩ := dq_b2 hf
                refine ct_callV (ci := 5) (q0 := 0) (own := RX6) (As := [.int (-2 : Int32)]) (rest := []) (ws' := (w_X6_still y a g_hasImage g_toldCount g_n_shutBits g_n_airs g_n_crownedBits g_n_sitters g_n_onBits g_n_turn g_n_taken g_n_warmth g_n_kind g_n_figure g_n_airCell g_n_way g_n_seat g_n_shawls g_n_count g_n_steps g_n_numbers g_m_shutBits g_m_airs g_m_crownedBits g_m_sitters g_m_onBits g_m_turn g_m_taken g_m_warmth g_m_kind g_m_figure g_m_airCell g_m_way g_m_seat g_m_shawls g_m_count g_m_steps g_m_numbers g_refused_75)) ⟨hx, hb, hml, hown, hts⟩ (m_X6_refuseLong l D y a g_hasImage g_toldCount g_refused (-2 : Int32) x74 g_refused_75 hy76) (cwV 1 hts gX6_still_X6_refuseLong rfl rfl rfl (by decide +kernel) ⟨Nat.le_of_ble_eq_true rfl, Nat.le_of_ble_eq_true rfl⟩) rfl rfl rfl hl.1 rfl (Nat.le_of_ble_eq_true rfl) dX6_still_63 ⟨Nat.zero_le _, Nat.zero_le _⟩ hK hP hD hS hA [0, 23] [1, 2, 3, 4, 5, 6, 7, 8, 9, 10, 11, 12, 13, 14, 15, 16, 17, 18, 19, 20, 21, 22] rfl rfl rfl (by decide) (by decide) 24 rfl (by decide +kernel) (fun H locs hP hD hS => ?_)
                obtain ⟨rfl, rfl, rfl, rfl, rfl, rfl, rfl, rfl, rfl, rfl, rfl, rfl, rfl, rfl, rfl, rfl, rfl, rfl, rfl⟩ := dq_r19 hf
                exact ct_lret hx hb hr hlocks hAe hP hK hD hS dX6_still_66
          · have hf := dq_f hf c13
            clear c13
            refine lv_aload_n hx hb dX6_still_42 rfl (lv_at hl 0 rfl) ?_
            refine lv_bipush (v := -6) hx hb dX6_still_43 (by decide) ?_
            obtain ⟨x77, g_refused_78, hy79, hf⟩ := dq_b2 hf
            refine ct_callV (ci := 5) (q0 := 0) (own := RX6) (As := [.int (-6 : Int32)]) (rest := []) (ws' := (w_X6_still y a g_hasImage g_toldCount g_n_shutBits g_n_airs g_n_crownedBits g_n_sitters g_n_onBits g_n_turn g_n_taken g_n_warmth g_n_kind g_n_figure g_n_airCell g_n_way g_n_seat g_n_shawls g_n_count g_n_steps g_n_numbers g_m_shutBits g_m_airs g_m_crownedBits g_m_sitters g_m_onBits g_m_turn g_m_taken g_m_warmth g_m_kind g_m_figure g_m_airCell g_m_way g_m_seat g_m_shawls g_m_count g_m_steps g_m_numbers g_refused_78)) ⟨hx, hb, hml, hown, hts⟩ (m_X6_refuseLong l D y a g_hasImage g_toldCount g_refused (-6 : Int32) x77 g_refused_78 hy79) (cwV 1 hts gX6_still_X6_refuseLong rfl rfl rfl (by decide +kernel) ⟨Nat.le_of_ble_eq_true rfl, Nat.le_of_ble_eq_true rfl⟩) rfl rfl rfl hl.1 rfl (Nat.le_of_ble_eq_true rfl) dX6_still_45 ⟨Nat.zero_le _, Nat.zero_le _⟩ hK hP hD hS hA [0, 23] [1, 2, 3, 4, 5, 6, 7, 8, 9, 10, 11, 12, 13, 14, 15, 16, 17, 18, 19, 20, 21, 22] rfl rfl rfl (by decide) (by decide) 24 rfl (by decide +kernel) (fun H locs hP hD hS => ?_)
            obtain ⟨rfl, rfl, rfl, rfl, rfl, rfl, rfl, rfl, rfl, rfl, rfl, rfl, rfl, rfl, rfl, rfl, rfl, rfl, rfl⟩ := dq_r19 hf
            exact ct_lret hx hb hr hlocks hAe hP hK hD hS dX6_still_48
      · have hf := dq_f hf c8
        clear c8
        refine lv_aload_n hx hb dX6_still_23 rfl (lv_at hl 0 rfl) ?_
        refine lv_bipush (v := -4) hx hb dX6_still_24 (by decide) ?_
        obtain ⟨x80, g_refused_81, hy82, hf⟩ := dq_b2 hf
        refine ct_callV (ci := 5) (q0 := 0) (own := RX6) (As := [.int (-4 : Int32)]) (rest := []) (ws' := (w_X6_still y a g_hasImage g_toldCount g_n_shutBits g_n_airs g_n_crownedBits g_n_sitters g_n_onBits g_n_turn g_n_taken g_n_warmth g_n_kind g_n_figure g_n_airCell g_n_way g_n_seat g_n_shawls g_n_count g_n_steps g_n_numbers g_m_shutBits g_m_airs g_m_crownedBits g_m_sitters g_m_onBits g_m_turn g_m_taken g_m_warmth g_m_kind g_m_figure g_m_airCell g_m_way g_m_seat g_m_shawls g_m_count g_m_steps g_m_numbers g_refused_81)) ⟨hx, hb, hml, hown, hts⟩ (m_X6_refuseLong l D y a g_hasImage g_toldCount g_refused (-4 : Int32) x80 g_refused_81 hy82) (cwV 1 hts gX6_still_X6_refuseLong rfl rfl rfl (by decide +kernel) ⟨Nat.le_of_ble_eq_true rfl, Nat.le_of_ble_eq_true rfl⟩) rfl rfl rfl hl.1 rfl (Nat.le_of_ble_eq_true rfl) dX6_still_26 ⟨Nat.zero_le _, Nat.zero_le _⟩ hK hP hD hS hA [0, 23] [1, 2, 3, 4, 5, 6, 7, 8, 9, 10, 11, 12, 13, 14, 15, 16, 17, 18, 19, 20, 21, 22] rfl rfl rfl (by decide) (by decide) 24 rfl (by decide +kernel) (fun H locs hP hD hS => ?_)
        obtain ⟨rfl, rfl, rfl, rfl, rfl, rfl, rfl, rfl, rfl, rfl, rfl, rfl, rfl, rfl, rfl, rfl, rfl, rfl, rfl⟩ := dq_r19 hf
        exact ct_lret hx hb hr hlocks hAe hP hK hD hS dX6_still_29
  · have hf := dq_t hf c3
    clear c3
    refine lv_aload_n hx hb dX6_still_8 rfl (lv_at hl 0 rfl) ?_
    refine lv_iconst (v := -1) hx hb dX6_still_9 (by decide) ?_
    obtain ⟨x83, g_refused_84, hy85, hf⟩ := dq_b2 hf
    refine ct_callV (ci := 5) (q0 := 0) (own := RX6) (As := [.int (-1 : Int32)]) (rest := []) (ws' := (w_X6_still y a g_hasImage g_toldCount g_n_shutBits g_n_airs g_n_crownedBits g_n_sitters g_n_onBits g_n_turn g_n_taken g_n_warmth g_n_kind g_n_figure g_n_airCell g_n_way g_n_seat g_n_shawls g_n_count g_n_steps g_n_numbers g_m_shutBits g_m_airs g_m_crownedBits g_m_sitters g_m_onBits g_m_turn g_m_taken g_m_warmth g_m_kind g_m_figure g_m_airCell g_m_way g_m_seat g_m_shawls g_m_count g_m_steps g_m_numbers g_refused_84)) ⟨hx, hb, hml, hown, hts⟩ (m_X6_refuseLong l D y a g_hasImage g_toldCount g_refused (-1 : Int32) x83 g_refused_84 hy85) (cwV 1 hts gX6_still_X6_refuseLong rfl rfl rfl (by decide +kernel) ⟨Nat.le_of_ble_eq_true rfl, Nat.le_of_ble_eq_true rfl⟩) rfl rfl rfl hl.1 rfl (Nat.le_of_ble_eq_true rfl) dX6_still_10 ⟨Nat.zero_le _, Nat.zero_le _⟩ hK hP hD hS hA [0, 23] [1, 2, 3, 4, 5, 6, 7, 8, 9, 10, 11, 12, 13, 14, 15, 16, 17, 18, 19, 20, 21, 22] rfl rfl rfl (by decide) (by decide) 24 rfl (by decide +kernel) (fun H locs hP hD hS => ?_)
    obtain ⟨rfl, rfl, rfl, rfl, rfl, rfl, rfl, rfl, rfl, rfl, rfl, rfl, rfl, rfl, rfl, rfl, rfl, rfl, rfl⟩ := dq_r19 hf
    exact ct_lret hx hb hr hlocks hAe hP hK hD hS dX6_still_13
def w_X6_coldestCell (y : Nat → ClassId) (a : Nat → Nat) (g_hasImage : Int32) (g_toldCount : Int32) (g_n_shutBits : Int64) (g_n_airs : Int32) (g_n_crownedBits : Int32) (g_n_sitters : Int32) (g_n_onBits : Int32) (g_n_turn : Int32) (g_n_taken : Int32) (g_n_warmth : (Nat → UInt32)) (g_n_kind : (Nat → Int32)) (g_n_figure : (Nat → Int32)) (g_n_airCell : (Nat → Int32)) (g_n_way : (Nat → Int32)) (g_n_seat : (Nat → Int32)) (g_n_shawls : (Nat → Int32)) (g_n_count : Int32) (g_n_steps : (Nat → Int32)) (g_n_numbers : (Nat → Int32)) : va_W := [((a 0), .inr (5, [.ref (a 1), .ref (a 12), .ref (a 23), .int g_hasImage, .ref (a 34), .ref (a 124), .ref (a 126), .ref (a 134), .int g_toldCount, .ref (a 135), .ref (a 136), .ref (a 137)])), ((a 1), .inr (1, [.ref (a 2), .long g_n_shutBits, .int g_n_airs, .ref (a 3), .ref (a 4), .ref (a 5), .ref (a 6), .int g_n_crownedBits, .int g_n_sitters, .ref (a 7), .ref (a 8), .int g_n_onBits, .int g_n_turn, .int g_n_taken, .ref (a 9)])), ((a 2), .inl (y 0, 36, .inr (.inr (.inl g_n_warmth)))), ((a 3), .inl (y 1, 5, .inl g_n_kind)), ((a 4), .inl (y 1, 5, .inl g_n_figure)), ((a 5), .inl (y 1, 5, .inl g_n_airCell)), ((a 6), .inl (y 1, 5, .inl g_n_way)), ((a 7), .inl (y 1, 6, .inl g_n_seat)), ((a 8), .inl (y 1, 6, .inl g_n_shawls)), ((a 9), .inr (0, [.ref (a 10), .ref (a 11), .int g_n_count])), ((a 10), .inl (y 1, 6, .inl g_n_steps)), ((a 11), .inl (y 1, 6, .inl g_n_numbers))]
noncomputable def f_X6_coldestCell_b4 (g_n_warmth : (Nat → UInt32))  : Nat → Int32 → Int32 → Option Int32
  | 0, _, _ => none
  | m4 + 1, x1, x2 => dq_if ((36 : Int32) ≤ x2) (some x1) (dq_gd (vp_in x2 36) (dq_gd (vp_in x1 36) (dq_if (0 ≤ (Op.cmpValue (FP.fcmp (g_n_warmth x2.toNatClampNeg) (g_n_warmth x1.toNatClampNeg)) .g)) (dq_let (x2 + (1 : Int32)) (fun (x7 : Int32) => (f_X6_coldestCell_b4 g_n_warmth m4) x1 x7)) (dq_let (x2 + (1 : Int32)) (fun (x8 : Int32) => (f_X6_coldestCell_b4 g_n_warmth m4) x2 x8)))))
noncomputable def f_X6_coldestCell (g_n_warmth : (Nat → UInt32)) : Option Int32 := f_X6_coldestCell_b4 g_n_warmth 4096 (0 : Int32) (1 : Int32)
-- DraughtsTake.coldestCell()I
set_option maxHeartbeats 4000000 in
set_option maxRecDepth 100000 in
theorem m_X6_coldestCell (l : Launch) (D : va_G) (y : Nat → ClassId) (a : (Nat → Nat)) (g_hasImage : Int32) (g_toldCount : Int32) (g_n_shutBits : Int64) (g_n_airs : Int32) (g_n_crownedBits : Int32) (g_n_sitters : Int32) (g_n_onBits : Int32) (g_n_turn : Int32) (g_n_taken : Int32) (g_n_warmth : (Nat → UInt32)) (g_n_kind : (Nat → Int32)) (g_n_figure : (Nat → Int32)) (g_n_airCell : (Nat → Int32)) (g_n_way : (Nat → Int32)) (g_n_seat : (Nat → Int32)) (g_n_shawls : (Nat → Int32)) (g_n_count : Int32) (g_n_steps : (Nat → Int32)) (g_n_numbers : (Nat → Int32)) (z0 : Int32) (hf : f_X6_coldestCell g_n_warmth = some z0) : Ct l D y yX6_coldestCell wsX6_coldestCell 0 0 [.ref (a 0)] (w_X6_coldestCell y a g_hasImage g_toldCount g_n_shutBits g_n_airs g_n_crownedBits g_n_sitters g_n_onBits g_n_turn g_n_taken g_n_warmth g_n_kind g_n_figure g_n_airCell g_n_way g_n_seat g_n_shawls g_n_count g_n_steps g_n_numbers) (w_X6_coldestCell y a g_hasImage g_toldCount g_n_shutBits g_n_airs g_n_crownedBits g_n_sitters g_n_onBits g_n_turn g_n_taken g_n_warmth g_n_kind g_n_figure g_n_airCell g_n_way g_n_seat g_n_shawls g_n_count g_n_steps g_n_numbers) (some (.int z0)) := by
  refine ct_head (cc := cX6_coldestCell) (n := 3) (ret := (some .int)) (by decide) rfl (Nat.le_of_ble_eq_true rfl) ?_
  intro p e s m below meth c A ls hx hb hr hml hown hlocks hts hA hAe hP hK hD hl
  have hS : va_S A s.heap s.heap [] := va_S.rf
  have hl : lv_has ls 3 [(0, .ref (a 0))] := hl
  have hown : s.vm.findClass RX6 = some m.cls := hown
  have hw1 := hts (.fieldLink RX6 10 "DraughtsTake" "now" "LDraughtsTake$House;") (List.mem_of_getElem? (i := 1) rfl)
  have hw2 := hts (.fieldLink RX6 140 "DraughtsTake$House" "warmth" "[F") (List.mem_of_getElem? (i := 2) rfl)
  have hiX6 : ∀ w ∈ wsX60, w ∈ wsX6_coldestCell := fun w h => List.mem_cons_of_mem _ (List.mem_append_left _ (List.mem_append_right _ (h)))
  have hiX2 : ∀ w ∈ wsX20, w ∈ wsX6_coldestCell := fun w h => List.mem_cons_of_mem _ (List.mem_append_right _ (h))
  unfold f_X6_coldestCell at hf
  refine lv_iconst (v := 0) hx hb dX6_coldestCell_0 (by decide) ?_
  refine lv_istore_n (lv' := [(1, .int (0 : Int32)), (0, .ref (a 0))]) hx hb dX6_coldestCell_1 rfl hl (by decide) rfl (fun ls hl => ?_)
  refine lv_iconst (v := 1) hx hb dX6_coldestCell_2 (by decide) ?_
  refine lv_istore_n (lv' := [(2, .int (1 : Int32)), (1, .int (0 : Int32)), (0, .ref (a 0))]) hx hb dX6_coldestCell_3 rfl hl (by decide) rfl (fun ls hl => ?_)
  have J4 : ∀ (m4 : Nat) (x1 : Int32) (x2 : Int32), f_X6_coldestCell_b4 g_n_warmth m4 x1 x2 = some z0 → ∀ (H : Heap) (locs : List Loc), va_P D vwCl (w_X6_coldestCell y a g_hasImage g_toldCount g_n_shutBits g_n_airs g_n_crownedBits g_n_sitters g_n_onBits g_n_turn g_n_taken g_n_warmth g_n_kind g_n_figure g_n_airCell g_n_way g_n_seat g_n_shawls g_n_count g_n_steps g_n_numbers) H → va_D A (w_X6_coldestCell y a g_hasImage g_toldCount g_n_shutBits g_n_airs g_n_crownedBits g_n_sitters g_n_onBits g_n_turn g_n_taken g_n_warmth g_n_kind g_n_figure g_n_airCell g_n_way g_n_seat g_n_shawls g_n_count g_n_steps g_n_numbers) → va_S A s.heap H locs → ∀ ls : Array Slot, lv_has ls 3 [(0, .ref (a 0)), (1, .int x1), (2, .int x2)] → W p l e ({ frames := 0, cells := 0, slots := 0, locals := 0 } : Room) s m [.ref (a 0)].toArray below meth c H locs 0 0 (MQ below (dQ D y (some (.int z0)) s.heap.size (w_X6_coldestCell y a g_hasImage g_toldCount g_n_shutBits g_n_airs g_n_crownedBits g_n_sitters g_n_onBits g_n_turn g_n_taken g_n_warmth g_n_kind g_n_figure g_n_airCell g_n_way g_n_seat g_n_shawls g_n_count g_n_steps g_n_numbers) (w_X6_coldestCell y a g_hasImage g_toldCount g_n_shutBits g_n_airs g_n_crownedBits g_n_sitters g_n_onBits g_n_turn g_n_taken g_n_warmth g_n_kind g_n_figure g_n_airCell g_n_way g_n_seat g_n_shawls g_n_count g_n_steps g_n_numbers)) [.ref (a 0)].toArray s 0 0 A) (F0 m 4 ls []) := by
    intro m4
    induction m4 with
    | zero => intro x1 x2 hf; exact absurd hf (by unfold f_X6_coldestCell_b4; exact fun h => by cases h)
    | succ m4 I4 =>
      intro x1 x2 hf H locs hP hD hS ls hl
      unfold f_X6_coldestCell_b4 at hf
      refine lv_iload_n hx hb dX6_coldestCell_4 rfl (lv_at hl 2 rfl) ?_
      refine lv_bipush (v := 36) hx hb dX6_coldestCell_5 (by decide) ?_
      refine lv_icmp_ge (tgt := 40) hx hb dX6_coldestCell_7 (by decide) (fun c3 => ?_) (fun c3 => ?_)
      · have hf := dq_t hf c3
        clear c3
        refine lv_iload_n hx hb dX6_coldestCell_40 rfl (lv_at hl 1 rfl) ?_
        obtain rfl := dq_r1 hf
        exact ct_iret hx hb hr hlocks hAe hP hK hD hS dX6_coldestCell_41
      · have hf := dq_f hf c3
        clear c3
        refine lv_aload_n hx hb dX6_coldestCell_10 rfl (lv_at hl 0 rfl) ?_
        refine va_get (D := D) (ci := 5) (v := .ref (a 1)) (C := RX6) (T := TX6) (N := 12) hx hb hts hiX6 hown hK hP 0 rfl rfl 0 (by decide) hw1 (fun _ h9 => h9) rfl dX6_coldestCell_11 ?_
        refine va_get (D := D) (ci := 1) (v := .ref (a 2)) (C := RX2) (T := TX2) (N := 15) hx hb hts hiX2 hown hK hP 1 rfl rfl 0 (by decide) hw2 (fun _ h9 => h9) rfl dX6_coldestCell_14 ?_
        refine lv_iload_n hx hb dX6_coldestCell_17 rfl (lv_at hl 2 rfl) ?_
        obtain ⟨h4, hf⟩ := dq_g hf
        refine va_fald (cA := y 0) (n := 36) (f := g_n_warmth) hx hb hK hP 2 0 rfl rfl h4 dX6_coldestCell_18 ?_
        refine lv_aload_n hx hb dX6_coldestCell_19 rfl (lv_at hl 0 rfl) ?_
        refine va_get (D := D) (ci := 5) (v := .ref (a 1)) (C := RX6) (T := TX6) (N := 12) hx hb hts hiX6 hown hK hP 0 rfl rfl 0 (by decide) hw1 (fun _ h9 => h9) rfl dX6_coldestCell_20 ?_
        refine va_get (D := D) (ci := 1) (v := .ref (a 2)) (C := RX2) (T := TX2) (N := 15) hx hb hts hiX2 hown hK hP 1 rfl rfl 0 (by decide) hw2 (fun _ h9 => h9) rfl dX6_coldestCell_23 ?_
        refine lv_iload_n hx hb dX6_coldestCell_26 rfl (lv_at hl 1 rfl) ?_
        obtain ⟨h5, hf⟩ := dq_g hf
        refine va_fald (cA := y 0) (n := 36) (f := g_n_warmth) hx hb hK hP 2 0 rfl rfl h5 dX6_coldestCell_27 ?_
        refine lv_fcmp hx hb dX6_coldestCell_28 ?_
        refine lv_if_ge (tgt := 34) hx hb dX6_coldestCell_29 (by decide) (fun c6 => ?_) (fun c6 => ?_)
        · have hf := dq_t hf c6
          clear c6
          obtain ⟨x7, ex7⟩ : ∃ z : Int32, z = (x2 + (1 : Int32)) := ⟨_, rfl⟩
          have hf := dq_l hf x7 ex7
          refine lv_iinc (v := x7) (lv' := [(2, .int x7), (0, .ref (a 0)), (1, .int x1)]) hx hb dX6_coldestCell_34 hl (k := 2) rfl (by rw [ex7]; rfl) (by decide) rfl (fun ls hl => ?_)
          clear ex7
          refine lv_goto (tgt := 4) hx hb dX6_coldestCell_37 (by decide) ?_
          exact I4 _ _ hf _ _ hP hD hS _ (lv_sub hl [1, 2, 0] rfl)
        · have hf := dq_f hf c6
          clear c6
          refine lv_iload_n hx hb dX6_coldestCell_32 rfl (lv_at hl 2 rfl) ?_
          refine lv_istore_n (lv' := [(1, .int x2), (0, .ref (a 0)), (2, .int x2)]) hx hb dX6_coldestCell_33 rfl hl (by decide) rfl (fun ls hl => ?_)
          obtain ⟨x8, ex8⟩ : ∃ z : Int32, z = (x2 + (1 : Int32)) := ⟨_, rfl⟩
          have hf := dq_l hf x8 ex8
          refine lv_iinc (v := x8) (lv' := [(2, .int x8), (1, .int x2), (0, .ref (a 0))]) hx hb dX6_coldestCell_34 hl (k := 2) rfl (by rw [ex8]; rfl) (by decide) rfl (fun ls hl => ?_)
          clear ex8
          refine lv_goto (tgt := 4) hx hb dX6_coldestCell_37 (by decide) ?_
          exact I4 _ _ hf _ _ hP hD hS _ (lv_sub hl [2, 1, 0] rfl)
  exact J4 4096 _ _ hf _ _ hP hD hS _ (lv_sub hl [2, 1, 0] rfl)
def w_X6_coldest (y : Nat → ClassId) (a : Nat → Nat) (g_hasImage : Int32) (g_toldCount : Int32) (g_n_shutBits : Int64) (g_n_airs : Int32) (g_n_crownedBits : Int32) (g_n_sitters : Int32) (g_n_onBits : Int32) (g_n_turn : Int32) (g_n_taken : Int32) (g_n_warmth : (Nat → UInt32)) (g_n_kind : (Nat → Int32)) (g_n_figure : (Nat → Int32)) (g_n_airCell : (Nat → Int32)) (g_n_way : (Nat → Int32)) (g_n_seat : (Nat → Int32)) (g_n_shawls : (Nat → Int32)) (g_n_count : Int32) (g_n_steps : (Nat → Int32)) (g_n_numbers : (Nat → Int32)) (g_refused : (Nat → Int32)) : va_W := [((a 0), .inr (5, [.ref (a 1), .ref (a 12), .ref (a 23), .int g_hasImage, .ref (a 34), .ref (a 124), .ref (a 126), .ref (a 134), .int g_toldCount, .ref (a 135), .ref (a 136), .ref (a 137)])), ((a 1), .inr (1, [.ref (a 2), .long g_n_shutBits, .int g_n_airs, .ref (a 3), .ref (a 4), .ref (a 5), .ref (a 6), .int g_n_crownedBits, .int g_n_sitters, .ref (a 7), .ref (a 8), .int g_n_onBits, .int g_n_turn, .int g_n_taken, .ref (a 9)])), ((a 2), .inl (y 0, 36, .inr (.inr (.inl g_n_warmth)))), ((a 3), .inl (y 1, 5, .inl g_n_kind)), ((a 4), .inl (y 1, 5, .inl g_n_figure)), ((a 5), .inl (y 1, 5, .inl g_n_airCell)), ((a 6), .inl (y 1, 5, .inl g_n_way)), ((a 7), .inl (y 1, 6, .inl g_n_seat)), ((a 8), .inl (y 1, 6, .inl g_n_shawls)), ((a 9), .inr (0, [.ref (a 10), .ref (a 11), .int g_n_count])), ((a 10), .inl (y 1, 6, .inl g_n_steps)), ((a 11), .inl (y 1, 6, .inl g_n_numbers)), ((a 135), .inl (y 1, 7, .inl g_refused))]
noncomputable def f_X6_coldest_b27 (n0 : Int32) (g_n_warmth : (Nat → UInt32)) (g_refused : (Nat → Int32))  : Nat → Int32 → Int32 → Option (Int32 × (Nat → Int32))
  | 0, _, _ => none
  | m27 + 1, x5, x6 => dq_if ((36 : Int32) ≤ x6) (some (x5, g_refused)) (dq_gd (vp_in x6 36) (dq_gd (vp_in n0 36) (dq_if (0 < (Op.cmpValue (FP.fcmp (g_n_warmth x6.toNatClampNeg) (g_n_warmth n0.toNatClampNeg)) .g)) (dq_let (x6 + (1 : Int32)) (fun (x11 : Int32) => (f_X6_coldest_b27 n0 g_n_warmth g_refused m27) x5 x11)) (dq_let (x5 + (1 : Int32)) (fun (x12 : Int32) => dq_let (x6 + (1 : Int32)) (fun (x13 : Int32) => (f_X6_coldest_b27 n0 g_n_warmth g_refused m27) x12 x13))))))
noncomputable def f_X6_coldest (g_n_warmth : (Nat → UInt32)) (g_refused : (Nat → Int32)) (n0 : Int32) : Option (Int32 × (Nat → Int32)) := dq_if (n0 = (-1 : Int32)) (dq_bd (f_X6_coldestCell g_n_warmth) (fun (x17 : Int32) => some (x17, g_refused))) (dq_bd (f_X6_isCell n0) (fun (x2 : Int32) => dq_if (x2 = 0) (dq_bd2 (f_X6_refuse g_refused (-1 : Int32)) (fun (x14 : Int32) (g_refused_15 : (Nat → Int32)) => some (x14, g_refused_15))) (f_X6_coldest_b27 n0 g_n_warmth g_refused 4096 (0 : Int32) (0 : Int32))))
-- DraughtsTake.coldest(I)I
set_option maxHeartbeats 4000000 in
set_option maxRecDepth 100000 in
theorem m_X6_coldest (l : Launch) (D : va_G) (y : Nat → ClassId) (a : (Nat → Nat)) (g_hasImage : Int32) (g_toldCount : Int32) (g_n_shutBits : Int64) (g_n_airs : Int32) (g_n_crownedBits : Int32) (g_n_sitters : Int32) (g_n_onBits : Int32) (g_n_turn : Int32) (g_n_taken : Int32) (g_n_warmth : (Nat → UInt32)) (g_n_kind : (Nat → Int32)) (g_n_figure : (Nat → Int32)) (g_n_airCell : (Nat → Int32)) (g_n_way : (Nat → Int32)) (g_n_seat : (Nat → Int32)) (g_n_shawls : (Nat → Int32)) (g_n_count : Int32) (g_n_steps : (Nat → Int32)) (g_n_numbers : (Nat → Int32)) (g_refused : (Nat → Int32)) (n0 : Int32) (z0 : Int32) (z1 : (Nat → Int32)) (hf : f_X6_coldest g_n_warmth g_refused n0 = some (z0, z1)) : Ct l D y yX6_coldest wsX6_coldest 1 22 [.ref (a 0), .int n0] (w_X6_coldest y a g_hasImage g_toldCount g_n_shutBits g_n_airs g_n_crownedBits g_n_sitters g_n_onBits g_n_turn g_n_taken g_n_warmth g_n_kind g_n_figure g_n_airCell g_n_way g_n_seat g_n_shawls g_n_count g_n_steps g_n_numbers g_refused) (w_X6_coldest y a g_hasImage g_toldCount g_n_shutBits g_n_airs g_n_crownedBits g_n_sitters g_n_onBits g_n_turn g_n_taken g_n_warmth g_n_kind g_n_figure g_n_airCell g_n_way g_n_seat g_n_shawls g_n_count g_n_steps g_n_numbers z1) (some (.int z0)) := by
  refine ct_head (cc := cX6_coldest) (n := 4) (ret := (some .int)) (by decide) rfl (Nat.le_of_ble_eq_true rfl) ?_
  intro p e s m below meth c A ls hx hb hr hml hown hlocks hts hA hAe hP hK hD hl
  have hS : va_S A s.heap s.heap [] := va_S.rf
  have hl : lv_has ls 4 [(0, .ref (a 0)), (1, .int n0)] := hl
  have hown : s.vm.findClass RX6 = some m.cls := hown
  have hw1 := hts (.fieldLink RX6 10 "DraughtsTake" "now" "LDraughtsTake$House;") (List.mem_of_getElem? (i := 1) rfl)
  have hw2 := hts (.fieldLink RX6 140 "DraughtsTake$House" "warmth" "[F") (List.mem_of_getElem? (i := 2) rfl)
  have hiX6 : ∀ w ∈ wsX60, w ∈ wsX6_coldest := fun w h => List.mem_cons_of_mem _ (List.mem_append_left _ (List.mem_append_right _ (h)))
  have hiX2 : ∀ w ∈ wsX20, w ∈ wsX6_coldest := fun w h => List.mem_cons_of_mem _ (List.mem_append_right _ (h))
  unfold f_X6_coldest at hf
  refine lv_iload_n hx hb dX6_coldest_0 rfl (lv_at hl 1 rfl) ?_
  refine lv_iconst (v := -1) hx hb dX6_coldest_1 (by decide) ?_
  refine lv_icmp_ne (tgt := 10) hx hb dX6_coldest_2 (by decide) (fun c1 => ?_) (fun c1 => ?_)
  · have hf := dq_f hf c1
    clear c1
    refine lv_iload_n hx hb dX6_coldest_10 rfl (lv_at hl 1 rfl) ?_
    obtain ⟨x2, hy3, hf⟩ := dq_b hf
    refine ct_callS0 (own := RX6) (As := [.int n0]) (rest := []) ⟨hx, hb, hml, hown, hts⟩ (m_X6_isCell l D y n0 x2 hy3) (va_cwS 1 hts gX6_coldest_X6_isCell rfl rfl rfl (by decide +kernel) ⟨Nat.le_of_ble_eq_true rfl, Nat.le_of_ble_eq_true rfl⟩) rfl hl.1 rfl (Nat.le_of_ble_eq_true rfl) dX6_coldest_11 ⟨Nat.zero_le _, Nat.zero_le _⟩ hK hP hD hS hA (fun H locs hP hD hS => ?_)
    refine lv_if_ne (tgt := 23) hx hb dX6_coldest_14 (by decide) (fun c4 => ?_) (fun c4 => ?_)
    · have hf := dq_f hf c4
      clear c4
      refine lv_iconst (v := 0) hx hb dX6_coldest_23 (by decide) ?_
      refine lv_istore_n (lv' := [(2, .int (0 : Int32)), (0, .ref (a 0)), (1, .int n0)]) hx hb dX6_coldest_24 rfl hl (by decide) rfl (fun ls hl => ?_)
      refine lv_iconst (v := 0) hx hb dX6_coldest_25 (by decide) ?_
      refine lv_istore_n (lv' := [(3, .int (0 : Int32)), (2, .int (0 : Int32)), (0, .ref (a 0)), (1, .int n0)]) hx hb dX6_coldest_26 rfl hl (by decide) rfl (fun ls hl => ?_)
      have J27 : ∀ (m27 : Nat) (x5 : Int32) (x6 : Int32), f_X6_coldest_b27 n0 g_n_warmth g_refused m27 x5 x6 = some (z0, z1) → ∀ (H : Heap) (locs : List Loc), va_P D vwCl (w_X6_coldest y a g_hasImage g_toldCount g_n_shutBits g_n_airs g_n_crownedBits g_n_sitters g_n_onBits g_n_turn g_n_taken g_n_warmth g_n_kind g_n_figure g_n_airCell g_n_way g_n_seat g_n_shawls g_n_count g_n_steps g_n_numbers g_refused) H → va_D A (w_X6_coldest y a g_hasImage g_toldCount g_n_shutBits g_n_airs g_n_crownedBits g_n_sitters g_n_onBits g_n_turn g_n_taken g_n_warmth g_n_kind g_n_figure g_n_airCell g_n_way g_n_seat g_n_shawls g_n_count g_n_steps g_n_numbers g_refused) → va_S A s.heap H locs → ∀ ls : Array Slot, lv_has ls 4 [(0, .ref (a 0)), (1, .int n0), (2, .int x5), (3, .int x6)] → W p l e ({ frames := 1, cells := 0, slots := 0, locals := 22 } : Room) s m [.ref (a 0), .int n0].toArray below meth c H locs 0 0 (MQ below (dQ D y (some (.int z0)) s.heap.size (w_X6_coldest y a g_hasImage g_toldCount g_n_shutBits g_n_airs g_n_crownedBits g_n_sitters g_n_onBits g_n_turn g_n_taken g_n_warmth g_n_kind g_n_figure g_n_airCell g_n_way g_n_seat g_n_shawls g_n_count g_n_steps g_n_numbers g_refused) (w_X6_coldest y a g_hasImage g_toldCount g_n_shutBits g_n_airs g_n_crownedBits g_n_sitters g_n_onBits g_n_turn g_n_taken g_n_warmth g_n_kind g_n_figure g_n_airCell g_n_way g_n_seat g_n_shawls g_n_count g_n_steps g_n_numbers z1)) [.ref (a 0), .int n0].toArray s 0 0 A) (F0 m 27 ls []) := by
        intro m27
        induction m27 with
        | zero => intro x5 x6 hf; exact absurd hf (by unfold f_X6_coldest_b27; exact fun h => by cases h)
        | succ m27 I27 =>
          intro x5 x6 hf H locs hP hD hS ls hl
          unfold f_X6_coldest_b27 at hf
          refine lv_iload_n hx hb dX6_coldest_27 rfl (lv_at hl 3 rfl) ?_
          refine lv_bipush (v := 36) hx hb dX6_coldest_28 (by decide) ?_
          refine lv_icmp_ge (tgt := 64) hx hb dX6_coldest_30 (by decide) (fun c7 => ?_) (fun c7 => ?_)
          · have hf := dq_t hf c7
            clear c7
            refine lv_iload_n hx hb dX6_coldest_64 rfl (lv_at hl 2 rfl) ?_
            obtain ⟨rfl, rfl⟩ := dq_r2 hf
            exact ct_iret hx hb hr hlocks hAe hP hK hD hS dX6_coldest_65
          · have hf := dq_f hf c7
            clear c7
            refine lv_aload_n hx hb dX6_coldest_33 rfl (lv_at hl 0 rfl) ?_
            refine va_get (D := D) (ci := 5) (v := .ref (a 1)) (C := RX6) (T := TX6) (N := 12) hx hb hts hiX6 hown hK hP 0 rfl rfl 0 (by decide) hw1 (fun _ h9 => h9) rfl dX6_coldest_34 ?_
            refine va_get (D := D) (ci := 1) (v := .ref (a 2)) (C := RX2) (T := TX2) (N := 15) hx hb hts hiX2 hown hK hP 1 rfl rfl 0 (by decide) hw2 (fun _ h9 => h9) rfl dX6_coldest_37 ?_
            refine lv_iload_n hx hb dX6_coldest_40 rfl (lv_at hl 3 rfl) ?_
            obtain ⟨h8, hf⟩ := dq_g hf
            refine va_fald (cA := y 0) (n := 36) (f := g_n_warmth) hx hb hK hP 2 0 rfl rfl h8 dX6_coldest_41 ?_
            refine lv_aload_n hx hb dX6_coldest_42 rfl (lv_at hl 0 rfl) ?_
            refine va_get (D := D) (ci := 5) (v := .ref (a 1)) (C := RX6) (T := TX6) (N := 12) hx hb hts hiX6 hown hK hP 0 rfl rfl 0 (by decide) hw1 (fun _ h9 => h9) rfl dX6_coldest_43 ?_
            refine va_get (D := D) (ci := 1) (v := .ref (a 2)) (C := RX2) (T := TX2) (N := 15) hx hb hts hiX2 hown hK hP 1 rfl rfl 0 (by decide) hw2 (fun _ h9 => h9) rfl dX6_coldest_46 ?_
            refine lv_iload_n hx hb dX6_coldest_49 rfl (lv_at hl 1 rfl) ?_
            obtain ⟨h9, hf⟩ := dq_g hf
            refine va_fald (cA := y 0) (n := 36) (f := g_n_warmth) hx hb hK hP 2 0 rfl rfl h9 dX6_coldest_50 ?_
            refine lv_fcmp hx hb dX6_coldest_51 ?_
            refine lv_if_gt (tgt := 58) hx hb dX6_coldest_52 (by decide) (fun c10 => ?_) (fun c10 => ?_)
            · have hf := dq_t hf c10
              clear c10
              obtain ⟨x11, ex11⟩ : ∃ z : Int32, z = (x6 + (1 : Int32)) := ⟨_, rfl⟩
              have hf := dq_l hf x11 ex11
              refine lv_iinc (v := x11) (lv' := [(3, .int x11), (0, .ref (a 0)), (1, .int n0), (2, .int x5)]) hx hb dX6_coldest_58 hl (k := 3) rfl (by rw [ex11]; rfl) (by decide) rfl (fun ls hl => ?_)
              clear ex11
              refine lv_goto (tgt := 27) hx hb dX6_coldest_61 (by decide) ?_
              exact I27 _ _ hf _ _ hP hD hS _ (lv_sub hl [1, 2, 3, 0] rfl)
            · have hf := dq_f hf c10
              clear c10
              obtain ⟨x12, ex12⟩ : ∃ z : Int32, z = (x5 + (1 : Int32)) := ⟨_, rfl⟩
              have hf := dq_l hf x12 ex12
              refine lv_iinc (v := x12) (lv' := [(2, .int x12), (0, .ref (a 0)), (1, .int n0), (3, .int x6)]) hx hb dX6_coldest_55 hl (k := 2) rfl (by rw [ex12]; rfl) (by decide) rfl (fun ls hl => ?_)
              clear ex12
              obtain ⟨x13, ex13⟩ : ∃ z : Int32, z = (x6 + (1 : Int32)) := ⟨_, rfl⟩
              have hf := dq_l hf x13 ex13
              refine lv_iinc (v := x13) (lv' := [(3, .int x13), (2, .int x12), (0, .ref (a 0)), (1, .int n0)]) hx hb dX6_coldest_58 hl (k := 3) rfl (by rw [ex13]; rfl) (by decide) rfl (fun ls hl => ?_)
              clear ex13
              refine lv_goto (tgt := 27) hx hb dX6_coldest_61 (by decide) ?_
              exact I27 _ _ hf _ _ hP hD hS _ (lv_sub hl [2, 3, 1, 0] rfl)
      exact J27 4096 _ _ hf _ _ hP hD hS _ (lv_sub hl [2, 3, 1, 0] rfl)
    · have hf := dq_t hf c4
      clear c4
      refine lv_aload_n hx hb dX6_coldest_17 rfl (lv_at hl 0 rfl) ?_
      refine lv_iconst (v := -1) hx hb dX6_coldest_18 (by decide) ?_
      obtain ⟨x14, g_refused_15, hy16, hf⟩ := dq_b2 hf
      refine ct_callV (ci := 5) (q0 := 0) (own := RX6) (As := [.int (-1 : Int32)]) (rest := []) (ws' := (w_X6_coldest y a g_hasImage g_toldCount g_n_shutBits g_n_airs g_n_crownedBits g_n_sitters g_n_onBits g_n_turn g_n_taken g_n_warmth g_n_kind g_n_figure g_n_airCell g_n_way g_n_seat g_n_shawls g_n_count g_n_steps g_n_numbers g_refused_15)) ⟨hx, hb, hml, hown, hts⟩ (m_X6_refuse l D y a g_hasImage g_toldCount g_refused (-1 : Int32) x14 g_refused_15 hy16) (cwV 1 hts gX6_coldest_X6_refuse rfl rfl rfl (by decide +kernel) ⟨Nat.le_of_ble_eq_true rfl, Nat.le_of_ble_eq_true rfl⟩) rfl rfl rfl hl.1 rfl (Nat.le_of_ble_eq_true rfl) dX6_coldest_19 ⟨Nat.zero_le _, Nat.zero_le _⟩ hK hP hD hS hA [0, 12] [1, 2, 3, 4, 5, 6, 7, 8, 9, 10, 11] rfl rfl rfl (by decide) (by decide) 13 rfl (by decide +kernel) (fun H locs hP hD hS => ?_)
      obtain ⟨rfl, rfl⟩ := dq_r2 hf
      exact ct_iret hx hb hr hlocks hAe hP hK hD hS dX6_coldest_22
  · have hf := dq_t hf c1
    clear c1
    refine lv_aload_n hx hb dX6_coldest_5 rfl (lv_at hl 0 rfl) ?_
    obtain ⟨x17, hy18, hf⟩ := dq_b hf
    refine ct_callV (ci := 5) (q0 := 0) (own := RX6) (As := []) (rest := []) (ws' := (w_X6_coldest y a g_hasImage g_toldCount g_n_shutBits g_n_airs g_n_crownedBits g_n_sitters g_n_onBits g_n_turn g_n_taken g_n_warmth g_n_kind g_n_figure g_n_airCell g_n_way g_n_seat g_n_shawls g_n_count g_n_steps g_n_numbers g_refused)) ⟨hx, hb, hml, hown, hts⟩ (m_X6_coldestCell l D y a g_hasImage g_toldCount g_n_shutBits g_n_airs g_n_crownedBits g_n_sitters g_n_onBits g_n_turn g_n_taken g_n_warmth g_n_kind g_n_figure g_n_airCell g_n_way g_n_seat g_n_shawls g_n_count g_n_steps g_n_numbers x17 hy18) (cwV 0 hts gX6_coldest_X6_coldestCell rfl rfl rfl (by decide +kernel) ⟨Nat.le_of_ble_eq_true rfl, Nat.le_of_ble_eq_true rfl⟩) rfl rfl rfl hl.1 rfl (Nat.le_of_ble_eq_true rfl) dX6_coldest_6 ⟨Nat.zero_le _, Nat.zero_le _⟩ hK hP hD hS hA [0, 1, 2, 3, 4, 5, 6, 7, 8, 9, 10, 11] [12] rfl rfl rfl (by decide) (by decide) 13 rfl (by decide +kernel) (fun H locs hP hD hS => ?_)
    obtain ⟨rfl, rfl⟩ := dq_r2 hf
    exact ct_iret hx hb hr hlocks hAe hP hK hD hS dX6_coldest_9
def w_X6_sum (y : Nat → ClassId) (a : Nat → Nat) (g_hasImage : Int32) (g_toldCount : Int32) (g_n_shutBits : Int64) (g_n_airs : Int32) (g_n_crownedBits : Int32) (g_n_sitters : Int32) (g_n_onBits : Int32) (g_n_turn : Int32) (g_n_taken : Int32) (g_n_warmth : (Nat → UInt32)) (g_n_kind : (Nat → Int32)) (g_n_figure : (Nat → Int32)) (g_n_airCell : (Nat → Int32)) (g_n_way : (Nat → Int32)) (g_n_seat : (Nat → Int32)) (g_n_shawls : (Nat → Int32)) (g_n_count : Int32) (g_n_steps : (Nat → Int32)) (g_n_numbers : (Nat → Int32)) (g_refused : (Nat → Int32)) : va_W := [((a 0), .inr (5, [.ref (a 1), .ref (a 12), .ref (a 23), .int g_hasImage, .ref (a 34), .ref (a 124), .ref (a 126), .ref (a 134), .int g_toldCount, .ref (a 135), .ref (a 136), .ref (a 137)])), ((a 1), .inr (1, [.ref (a 2), .long g_n_shutBits, .int g_n_airs, .ref (a 3), .ref (a 4), .ref (a 5), .ref (a 6), .int g_n_crownedBits, .int g_n_sitters, .ref (a 7), .ref (a 8), .int g_n_onBits, .int g_n_turn, .int g_n_taken, .ref (a 9)])), ((a 2), .inl (y 0, 36, .inr (.inr (.inl g_n_warmth)))), ((a 3), .inl (y 1, 5, .inl g_n_kind)), ((a 4), .inl (y 1, 5, .inl g_n_figure)), ((a 5), .inl (y 1, 5, .inl g_n_airCell)), ((a 6), .inl (y 1, 5, .inl g_n_way)), ((a 7), .inl (y 1, 6, .inl g_n_seat)), ((a 8), .inl (y 1, 6, .inl g_n_shawls)), ((a 9), .inr (0, [.ref (a 10), .ref (a 11), .int g_n_count])), ((a 10), .inl (y 1, 6, .inl g_n_steps)), ((a 11), .inl (y 1, 6, .inl g_n_numbers)), ((a 135), .inl (y 1, 7, .inl g_refused))]
noncomputable def f_X6_sum_b20 (n0 : Int32) (g_n_warmth : (Nat → UInt32)) (g_refused : (Nat → Int32))  : Nat → UInt32 → Int32 → Option (Int32 × (Nat → Int32))
  | 0, _, _ => none
  | m20 + 1, x6, x7 => dq_if ((36 : Int32) ≤ x7) (dq_if (n0 = 0) (dq_bd (f_X6_bitsOf x6) (fun (x14 : Int32) => some (x14, g_refused))) (dq_gd (vf_n32 (FP.fdiv x6 (1108344832 : UInt32))) (dq_let (FP.fdiv x6 (1108344832 : UInt32)) (fun (x11 : UInt32) => dq_gd (vf_n32 (FP.fmul x11 (1120403456 : UInt32))) (dq_let (FP.fmul x11 (1120403456 : UInt32)) (fun (x13 : UInt32) => some ((FP.f2i x13), g_refused))))))) (dq_gd (vp_in x7 36) (dq_gd (vf_n32 (FP.fadd x6 (g_n_warmth x7.toNatClampNeg))) (dq_let (FP.fadd x6 (g_n_warmth x7.toNatClampNeg)) (fun (x18 : UInt32) => dq_let (x7 + (1 : Int32)) (fun (x19 : Int32) => (f_X6_sum_b20 n0 g_n_warmth g_refused m20) x18 x19)))))
noncomputable def f_X6_sum (g_n_warmth : (Nat → UInt32)) (g_refused : (Nat → Int32)) (n0 : Int32) : Option (Int32 × (Nat → Int32)) := dq_if (n0 < 0) (dq_bd2 (f_X6_refuse g_refused (-2 : Int32)) (fun (x2 : Int32) (g_refused_3 : (Nat → Int32)) => some (x2, g_refused_3))) (dq_if (n0 ≤ (1 : Int32)) (f_X6_sum_b20 n0 g_n_warmth g_refused 4096 FP.fconst0 (0 : Int32)) (dq_bd2 (f_X6_refuse g_refused (-2 : Int32)) (fun (x20 : Int32) (g_refused_21 : (Nat → Int32)) => some (x20, g_refused_21))))
-- DraughtsTake.sum(I)I
set_option maxHeartbeats 4000000 in
set_option maxRecDepth 100000 in
theorem m_X6_sum (l : Launch) (D : va_G) (y : Nat → ClassId) (a : (Nat → Nat)) (g_hasImage : Int32) (g_toldCount : Int32) (g_n_shutBits : Int64) (g_n_airs : Int32) (g_n_crownedBits : Int32) (g_n_sitters : Int32) (g_n_onBits : Int32) (g_n_turn : Int32) (g_n_taken : Int32) (g_n_warmth : (Nat → UInt32)) (g_n_kind : (Nat → Int32)) (g_n_figure : (Nat → Int32)) (g_n_airCell : (Nat → Int32)) (g_n_way : (Nat → Int32)) (g_n_seat : (Nat → Int32)) (g_n_shawls : (Nat → Int32)) (g_n_count : Int32) (g_n_steps : (Nat → Int32)) (g_n_numbers : (Nat → Int32)) (g_refused : (Nat → Int32)) (n0 : Int32) (z0 : Int32) (z1 : (Nat → Int32)) (hf : f_X6_sum g_n_warmth g_refused n0 = some (z0, z1)) : Ct l D y yX6_sum wsX6_sum 1 24 [.ref (a 0), .int n0] (w_X6_sum y a g_hasImage g_toldCount g_n_shutBits g_n_airs g_n_crownedBits g_n_sitters g_n_onBits g_n_turn g_n_taken g_n_warmth g_n_kind g_n_figure g_n_airCell g_n_way g_n_seat g_n_shawls g_n_count g_n_steps g_n_numbers g_refused) (w_X6_sum y a g_hasImage g_toldCount g_n_shutBits g_n_airs g_n_crownedBits g_n_sitters g_n_onBits g_n_turn g_n_taken g_n_warmth g_n_kind g_n_figure g_n_airCell g_n_way g_n_seat g_n_shawls g_n_count g_n_steps g_n_numbers z1) (some (.int z0)) := by
  refine ct_head (cc := cX6_sum) (n := 4) (ret := (some .int)) (by decide) rfl (Nat.le_of_ble_eq_true rfl) ?_
  intro p e s m below meth c A ls hx hb hr hml hown hlocks hts hA hAe hP hK hD hl
  have hS : va_S A s.heap s.heap [] := va_S.rf
  have hl : lv_has ls 4 [(0, .ref (a 0)), (1, .int n0)] := hl
  have hown : s.vm.findClass RX6 = some m.cls := hown
  have hw1 := hts (.fieldLink RX6 10 "DraughtsTake" "now" "LDraughtsTake$House;") (List.mem_of_getElem? (i := 1) rfl)
  have hw2 := hts (.fieldLink RX6 140 "DraughtsTake$House" "warmth" "[F") (List.mem_of_getElem? (i := 2) rfl)
  have hw3 := hts (.constantFloat RX6 255 (1108344832)) (List.mem_of_getElem? (i := 3) rfl)
  have hw4 := hts (.constantFloat RX6 256 (1120403456)) (List.mem_of_getElem? (i := 4) rfl)
  have hiX6 : ∀ w ∈ wsX60, w ∈ wsX6_sum := fun w h => List.mem_cons_of_mem _ (List.mem_append_left _ (List.mem_append_right _ (h)))
  have hiX2 : ∀ w ∈ wsX20, w ∈ wsX6_sum := fun w h => List.mem_cons_of_mem _ (List.mem_append_right _ (h))
  unfold f_X6_sum at hf
  refine lv_iload_n hx hb dX6_sum_0 rfl (lv_at hl 1 rfl) ?_
  refine lv_if_lt (tgt := 9) hx hb dX6_sum_1 (by decide) (fun c1 => ?_) (fun c1 => ?_)
  · have hf := dq_t hf c1
    clear c1
    refine lv_aload_n hx hb dX6_sum_9 rfl (lv_at hl 0 rfl) ?_
    refine lv_bipush (v := -2) hx hb dX6_sum_10 (by decide) ?_
    obtain ⟨x2, g_refused_3, hy4, hf⟩ := dq_b2 hf
    refine ct_callV (ci := 5) (q0 := 0) (own := RX6) (As := [.int (-2 : Int32)]) (rest := []) (ws' := (w_X6_sum y a g_hasImage g_toldCount g_n_shutBits g_n_airs g_n_crownedBits g_n_sitters g_n_onBits g_n_turn g_n_taken g_n_warmth g_n_kind g_n_figure g_n_airCell g_n_way g_n_seat g_n_shawls g_n_count g_n_steps g_n_numbers g_refused_3)) ⟨hx, hb, hml, hown, hts⟩ (m_X6_refuse l D y a g_hasImage g_toldCount g_refused (-2 : Int32) x2 g_refused_3 hy4) (cwV 1 hts gX6_sum_X6_refuse rfl rfl rfl (by decide +kernel) ⟨Nat.le_of_ble_eq_true rfl, Nat.le_of_ble_eq_true rfl⟩) rfl rfl rfl hl.1 rfl (Nat.le_of_ble_eq_true rfl) dX6_sum_12 ⟨Nat.zero_le _, Nat.zero_le _⟩ hK hP hD hS hA [0, 12] [1, 2, 3, 4, 5, 6, 7, 8, 9, 10, 11] rfl rfl rfl (by decide) (by decide) 13 rfl (by decide +kernel) (fun H locs hP hD hS => ?_)
    obtain ⟨rfl, rfl⟩ := dq_r2 hf
    exact ct_iret hx hb hr hlocks hAe hP hK hD hS dX6_sum_15
  · have hf := dq_f hf c1
    clear c1
    refine lv_iload_n hx hb dX6_sum_4 rfl (lv_at hl 1 rfl) ?_
    refine lv_iconst (v := 1) hx hb dX6_sum_5 (by decide) ?_
    refine lv_icmp_le (tgt := 16) hx hb dX6_sum_6 (by decide) (fun c5 => ?_) (fun c5 => ?_)
    · have hf := dq_t hf c5
      clear c5
      refine lv_fconst0 hx hb dX6_sum_16 ?_
      refine lv_fstore_n (lv' := [(2, .float FP.fconst0), (0, .ref (a 0)), (1, .int n0)]) hx hb dX6_sum_17 rfl hl (by decide) rfl (fun ls hl => ?_)
      refine lv_iconst (v := 0) hx hb dX6_sum_18 (by decide) ?_
      refine lv_istore_n (lv' := [(3, .int (0 : Int32)), (2, .float FP.fconst0), (0, .ref (a 0)), (1, .int n0)]) hx hb dX6_sum_19 rfl hl (by decide) rfl (fun ls hl => ?_)
      have J20 : ∀ (m20 : Nat) (x6 : UInt32) (x7 : Int32), f_X6_sum_b20 n0 g_n_warmth g_refused m20 x6 x7 = some (z0, z1) → ∀ (H : Heap) (locs : List Loc), va_P D vwCl (w_X6_sum y a g_hasImage g_toldCount g_n_shutBits g_n_airs g_n_crownedBits g_n_sitters g_n_onBits g_n_turn g_n_taken g_n_warmth g_n_kind g_n_figure g_n_airCell g_n_way g_n_seat g_n_shawls g_n_count g_n_steps g_n_numbers g_refused) H → va_D A (w_X6_sum y a g_hasImage g_toldCount g_n_shutBits g_n_airs g_n_crownedBits g_n_sitters g_n_onBits g_n_turn g_n_taken g_n_warmth g_n_kind g_n_figure g_n_airCell g_n_way g_n_seat g_n_shawls g_n_count g_n_steps g_n_numbers g_refused) → va_S A s.heap H locs → ∀ ls : Array Slot, lv_has ls 4 [(0, .ref (a 0)), (1, .int n0), (2, .float x6), (3, .int x7)] → W p l e ({ frames := 1, cells := 0, slots := 0, locals := 24 } : Room) s m [.ref (a 0), .int n0].toArray below meth c H locs 0 0 (MQ below (dQ D y (some (.int z0)) s.heap.size (w_X6_sum y a g_hasImage g_toldCount g_n_shutBits g_n_airs g_n_crownedBits g_n_sitters g_n_onBits g_n_turn g_n_taken g_n_warmth g_n_kind g_n_figure g_n_airCell g_n_way g_n_seat g_n_shawls g_n_count g_n_steps g_n_numbers g_refused) (w_X6_sum y a g_hasImage g_toldCount g_n_shutBits g_n_airs g_n_crownedBits g_n_sitters g_n_onBits g_n_turn g_n_taken g_n_warmth g_n_kind g_n_figure g_n_airCell g_n_way g_n_seat g_n_shawls g_n_count g_n_steps g_n_numbers z1)) [.ref (a 0), .int n0].toArray s 0 0 A) (F0 m 20 ls []) := by
        intro m20
        induction m20 with
        | zero => intro x6 x7 hf; exact absurd hf (by unfold f_X6_sum_b20; exact fun h => by cases h)
        | succ m20 I20 =>
          intro x6 x7 hf H locs hP hD hS ls hl
          unfold f_X6_sum_b20 at hf
          refine lv_iload_n hx hb dX6_sum_20 rfl (lv_at hl 3 rfl) ?_
          refine lv_bipush (v := 36) hx hb dX6_sum_21 (by decide) ?_
          refine lv_icmp_ge (tgt := 44) hx hb dX6_sum_23 (by decide) (fun c8 => ?_) (fun c8 => ?_)
          · have hf := dq_t hf c8
            clear c8
            refine lv_iload_n hx hb dX6_sum_44 rfl (lv_at hl 1 rfl) ?_
            refine lv_if_ne (tgt := 55) hx hb dX6_sum_45 (by decide) (fun c9 => ?_) (fun c9 => ?_)
            · have hf := dq_f hf c9
              clear c9
              refine lv_fload_n hx hb dX6_sum_55 rfl (lv_at hl 2 rfl) ?_
              refine lv_ldcf hx hb hown hw3 dX6_sum_56 ?_
              obtain ⟨h10, hf⟩ := dq_g hf
              refine lv_fdiv hx hb dX6_sum_58 h10 ?_
              refine lv_topf (fun x11 ex11 => ?_)
              have hf := dq_l hf x11 ex11
              clear ex11
              refine lv_ldcwf hx hb hown hw4 dX6_sum_59 ?_
              obtain ⟨h12, hf⟩ := dq_g hf
              refine lv_fmul hx hb dX6_sum_62 h12 ?_
              refine lv_topf (fun x13 ex13 => ?_)
              have hf := dq_l hf x13 ex13
              clear ex13
              refine lv_f2i hx hb dX6_sum_63 ?_
              obtain ⟨rfl, rfl⟩ := dq_r2 hf
              exact ct_iret hx hb hr hlocks hAe hP hK hD hS dX6_sum_64
            · have hf := dq_t hf c9
              clear c9
              refine lv_fload_n hx hb dX6_sum_48 rfl (lv_at hl 2 rfl) ?_
              obtain ⟨x14, hy15, hf⟩ := dq_b hf
              refine ct_callS0 (own := RX6) (As := [.float x6]) (rest := []) ⟨hx, hb, hml, hown, hts⟩ (m_X6_bitsOf l D y x6 x14 hy15) (va_cwS 1 hts gX6_sum_X6_bitsOf rfl rfl rfl (by decide +kernel) ⟨Nat.le_of_ble_eq_true rfl, Nat.le_of_ble_eq_true rfl⟩) rfl hl.1 rfl (Nat.le_of_ble_eq_true rfl) dX6_sum_49 ⟨Nat.zero_le _, Nat.zero_le _⟩ hK hP hD hS hA (fun H locs hP hD hS => ?_)
              refine lv_goto (tgt := 64) hx hb dX6_sum_52 (by decide) ?_
              obtain ⟨rfl, rfl⟩ := dq_r2 hf
              exact ct_iret hx hb hr hlocks hAe hP hK hD hS dX6_sum_64
          · have hf := dq_f hf c8
            clear c8
            refine lv_fload_n hx hb dX6_sum_26 rfl (lv_at hl 2 rfl) ?_
            refine lv_aload_n hx hb dX6_sum_27 rfl (lv_at hl 0 rfl) ?_
            refine va_get (D := D) (ci := 5) (v := .ref (a 1)) (C := RX6) (T := TX6) (N := 12) hx hb hts hiX6 hown hK hP 0 rfl rfl 0 (by decide) hw1 (fun _ h9 => h9) rfl dX6_sum_28 ?_
            refine va_get (D := D) (ci := 1) (v := .ref (a 2)) (C := RX2) (T := TX2) (N := 15) hx hb hts hiX2 hown hK hP 1 rfl rfl 0 (by decide) hw2 (fun _ h9 => h9) rfl dX6_sum_31 ?_
            refine lv_iload_n hx hb dX6_sum_34 rfl (lv_at hl 3 rfl) ?_
            obtain ⟨h16, hf⟩ := dq_g hf
            refine va_fald (cA := y 0) (n := 36) (f := g_n_warmth) hx hb hK hP 2 0 rfl rfl h16 dX6_sum_35 ?_
            obtain ⟨h17, hf⟩ := dq_g hf
            refine lv_fadd hx hb dX6_sum_36 h17 ?_
            refine lv_topf (fun x18 ex18 => ?_)
            have hf := dq_l hf x18 ex18
            clear ex18
            refine lv_fstore_n (lv' := [(2, .float x18), (0, .ref (a 0)), (1, .int n0), (3, .int x7)]) hx hb dX6_sum_37 rfl hl (by decide) rfl (fun ls hl => ?_)
            obtain ⟨x19, ex19⟩ : ∃ z : Int32, z = (x7 + (1 : Int32)) := ⟨_, rfl⟩
            have hf := dq_l hf x19 ex19
            refine lv_iinc (v := x19) (lv' := [(3, .int x19), (2, .float x18), (0, .ref (a 0)), (1, .int n0)]) hx hb dX6_sum_38 hl (k := 3) rfl (by rw [ex19]; rfl) (by decide) rfl (fun ls hl => ?_)
            clear ex19
            refine lv_goto (tgt := 20) hx hb dX6_sum_41 (by decide) ?_
            exact I20 _ _ hf _ _ hP hD hS _ (lv_sub hl [2, 3, 1, 0] rfl)
      exact J20 4096 _ _ hf _ _ hP hD hS _ (lv_sub hl [2, 3, 1, 0] rfl)
    · have hf := dq_f hf c5
      clear c5
      refine lv_aload_n hx hb dX6_sum_9 rfl (lv_at hl 0 rfl) ?_
      refine lv_bipush (v := -2) hx hb dX6_sum_10 (by decide) ?_
      obtain ⟨x20, g_refused_21, hy22, hf⟩ := dq_b2 hf
      refine ct_callV (ci := 5) (q0 := 0) (own := RX6) (As := [.int (-2 : Int32)]) (rest := []) (ws' := (w_X6_sum y a g_hasImage g_toldCount g_n_shutBits g_n_airs g_n_crownedBits g_n_sitters g_n_onBits g_n_turn g_n_taken g_n_warmth g_n_kind g_n_figure g_n_airCell g_n_way g_n_seat g_n_shawls g_n_count g_n_steps g_n_numbers g_refused_21)) ⟨hx, hb, hml, hown, hts⟩ (m_X6_refuse l D y a g_hasImage g_toldCount g_refused (-2 : Int32) x20 g_refused_21 hy22) (cwV 1 hts gX6_sum_X6_refuse rfl rfl rfl (by decide +kernel) ⟨Nat.le_of_ble_eq_true rfl, Nat.le_of_ble_eq_true rfl⟩) rfl rfl rfl hl.1 rfl (Nat.le_of_ble_eq_true rfl) dX6_sum_12 ⟨Nat.zero_le _, Nat.zero_le _⟩ hK hP hD hS hA [0, 12] [1, 2, 3, 4, 5, 6, 7, 8, 9, 10, 11] rfl rfl rfl (by decide) (by decide) 13 rfl (by decide +kernel) (fun H locs hP hD hS => ?_)
      obtain ⟨rfl, rfl⟩ := dq_r2 hf
      exact ct_iret hx hb hr hlocks hAe hP hK hD hS dX6_sum_15
noncomputable def f_X6_distance (n0 : Int32) (n1 : Int32) : Option Int32 := dq_let (if 0 ≤ ((n0 / (6 : Int32)) - (n1 / (6 : Int32))) then ((n0 / (6 : Int32)) - (n1 / (6 : Int32))) else 0 - ((n0 / (6 : Int32)) - (n1 / (6 : Int32)))) (fun (x1 : Int32) => dq_let (if 0 ≤ ((n0 - n0 / (6 : Int32) * (6 : Int32)) - (n1 - n1 / (6 : Int32) * (6 : Int32))) then ((n0 - n0 / (6 : Int32) * (6 : Int32)) - (n1 - n1 / (6 : Int32) * (6 : Int32))) else 0 - ((n0 - n0 / (6 : Int32) * (6 : Int32)) - (n1 - n1 / (6 : Int32) * (6 : Int32)))) (fun (x2 : Int32) => some (x1 + x2)))
-- DraughtsTake.distance(II)I
set_option maxHeartbeats 4000000 in
set_option maxRecDepth 100000 in
theorem m_X6_distance (l : Launch) (D : va_G) (y : Nat → ClassId) (n0 : Int32) (n1 : Int32) (z0 : Int32) (hf : f_X6_distance n0 n1 = some z0) : Ct l D y yX6_distance wsX6_distance 1 21 [.int n0, .int n1] [] [] (some (.int z0)) := by
  refine ct_head (cc := cX6_distance) (n := 2) (ret := (some .int)) (by decide) rfl (Nat.le_of_ble_eq_true rfl) ?_
  intro p e s m below meth c A ls hx hb hr hml hown hlocks hts hA hAe hP hK hD hl
  have hS : va_S A s.heap s.heap [] := va_S.rf
  have hl : lv_has ls 2 [(0, .int n0), (1, .int n1)] := hl
  have hown : s.vm.findClass RX6 = some m.cls := hown
  have hw1 := hts (.methodLink RX6 319 Lib.Math.abs.name) (List.mem_of_getElem? (i := 1) rfl)
  have hw2 := hts (.static Lib.Math.abs.name) (List.mem_of_getElem? (i := 2) rfl)
  have hw3 := hts (.initialized "java/lang/Math") (List.mem_of_getElem? (i := 3) rfl)
  have hw4 := hts (.code Lib.Math.abs.name Lib.Math.abs.code 1 (some .int)) (List.mem_of_getElem? (i := 4) rfl)
  unfold f_X6_distance at hf
  refine lv_iload_n hx hb dX6_distance_0 rfl (lv_at hl 0 rfl) ?_
  refine lv_bipush (v := 6) hx hb dX6_distance_1 (by decide) ?_
  refine lv_idiv hx hb dX6_distance_3 (by decide) ?_
  refine lv_iload_n hx hb dX6_distance_4 rfl (lv_at hl 1 rfl) ?_
  refine lv_bipush (v := 6) hx hb dX6_distance_5 (by decide) ?_
  refine lv_idiv hx hb dX6_distance_7 (by decide) ?_
  refine lv_isub hx hb dX6_distance_8 ?_
  refine va_mabs hx hb (hml.trans hl.1.symm) hown hw1 hw2 hw3 hw4 (Nat.le_of_ble_eq_true rfl) (Nat.le_of_ble_eq_true rfl) (Nat.zero_le _) (Nat.zero_le _) dX6_distance_9 ?_
  refine lv_topi (fun x1 ex1 => ?_)
  have hf := dq_l hf x1 ex1
  clear ex1
  refine lv_iload_n hx hb dX6_distance_12 rfl (lv_at hl 0 rfl) ?_
  refine lv_bipush (v := 6) hx hb dX6_distance_13 (by decide) ?_
  refine lv_irem hx hb dX6_distance_15 (by decide) ?_
  refine lv_iload_n hx hb dX6_distance_16 rfl (lv_at hl 1 rfl) ?_
  refine lv_bipush (v := 6) hx hb dX6_distance_17 (by decide) ?_
  refine lv_irem hx hb dX6_distance_19 (by decide) ?_
  refine lv_isub hx hb dX6_distance_20 ?_
  refine va_mabs hx hb (hml.trans hl.1.symm) hown hw1 hw2 hw3 hw4 (Nat.le_of_ble_eq_true rfl) (Nat.le_of_ble_eq_true rfl) (Nat.zero_le _) (Nat.zero_le _) dX6_distance_21 ?_
  refine lv_topi (fun x2 ex2 => ?_)
  have hf := dq_l hf x2 ex2
  clear ex2
  refine lv_iadd hx hb dX6_distance_24 ?_
  obtain rfl := dq_r1 hf
  exact ct_iret hx hb hr hlocks hAe hP hK hD hS dX6_distance_25
def w_X6_nearest (y : Nat → ClassId) (a : Nat → Nat) (g_hasImage : Int32) (g_toldCount : Int32) (g_n_shutBits : Int64) (g_n_airs : Int32) (g_n_crownedBits : Int32) (g_n_sitters : Int32) (g_n_onBits : Int32) (g_n_turn : Int32) (g_n_taken : Int32) (g_n_warmth : (Nat → UInt32)) (g_n_kind : (Nat → Int32)) (g_n_figure : (Nat → Int32)) (g_n_airCell : (Nat → Int32)) (g_n_way : (Nat → Int32)) (g_n_seat : (Nat → Int32)) (g_n_shawls : (Nat → Int32)) (g_n_count : Int32) (g_n_steps : (Nat → Int32)) (g_n_numbers : (Nat → Int32)) (g_refused : (Nat → Int32)) : va_W := [((a 0), .inr (5, [.ref (a 1), .ref (a 12), .ref (a 23), .int g_hasImage, .ref (a 34), .ref (a 124), .ref (a 126), .ref (a 134), .int g_toldCount, .ref (a 135), .ref (a 136), .ref (a 137)])), ((a 1), .inr (1, [.ref (a 2), .long g_n_shutBits, .int g_n_airs, .ref (a 3), .ref (a 4), .ref (a 5), .ref (a 6), .int g_n_crownedBits, .int g_n_sitters, .ref (a 7), .ref (a 8), .int g_n_onBits, .int g_n_turn, .int g_n_taken, .ref (a 9)])), ((a 2), .inl (y 0, 36, .inr (.inr (.inl g_n_warmth)))), ((a 3), .inl (y 1, 5, .inl g_n_kind)), ((a 4), .inl (y 1, 5, .inl g_n_figure)), ((a 5), .inl (y 1, 5, .inl g_n_airCell)), ((a 6), .inl (y 1, 5, .inl g_n_way)), ((a 7), .inl (y 1, 6, .inl g_n_seat)), ((a 8), .inl (y 1, 6, .inl g_n_shawls)), ((a 9), .inr (0, [.ref (a 10), .ref (a 11), .int g_n_count])), ((a 10), .inl (y 1, 6, .inl g_n_steps)), ((a 11), .inl (y 1, 6, .inl g_n_numbers)), ((a 135), .inl (y 1, 7, .inl g_refused))]
noncomputable def f_X6_nearest_b40 (n0 : Int32) (n1 : Int32) (g_n_airs : Int32) (g_n_airCell : (Nat → Int32)) (g_n_seat : (Nat → Int32)) (g_refused : (Nat → Int32))  : Nat → Int32 → Int32 → Int32 → Option (Int32 × (Nat → Int32))
  | 0, _, _, _ => none
  | m40 + 1, x9, x10, x11 => dq_if (g_n_airs ≤ x11) (dq_if (n1 = 0) (some (x9, g_refused)) (some (x10, g_refused))) (dq_gd (vp_in n0 6) (dq_gd (vp_in x11 5) (dq_bd (f_X6_distance (g_n_seat n0.toNatClampNeg) (g_n_airCell x11.toNatClampNeg)) (fun (x16 : Int32) => dq_if (x9 = (-9 : Int32)) (dq_let (x11 + (1 : Int32)) (fun (x19 : Int32) => (f_X6_nearest_b40 n0 n1 g_n_airs g_n_airCell g_n_seat g_refused m40) x11 x16 x19)) (dq_if (x10 ≤ x16) (dq_let (x11 + (1 : Int32)) (fun (x21 : Int32) => (f_X6_nearest_b40 n0 n1 g_n_airs g_n_airCell g_n_seat g_refused m40) x9 x10 x21)) (dq_let (x11 + (1 : Int32)) (fun (x22 : Int32) => (f_X6_nearest_b40 n0 n1 g_n_airs g_n_airCell g_n_seat g_refused m40) x11 x16 x22)))))))
noncomputable def f_X6_nearest (g_n_airs : Int32) (g_n_sitters : Int32) (g_n_airCell : (Nat → Int32)) (g_n_seat : (Nat → Int32)) (g_refused : (Nat → Int32)) (n0 : Int32) (n1 : Int32) : Option (Int32 × (Nat → Int32)) := dq_bd (f_X6_isSitter g_n_sitters n0) (fun (x1 : Int32) => dq_if (x1 = 0) (dq_bd2 (f_X6_refuse g_refused (-1 : Int32)) (fun (x26 : Int32) (g_refused_27 : (Nat → Int32)) => some (x26, g_refused_27))) (dq_if (n1 < 0) (dq_bd2 (f_X6_refuse g_refused (-2 : Int32)) (fun (x5 : Int32) (g_refused_6 : (Nat → Int32)) => some (x5, g_refused_6))) (dq_if (n1 ≤ (1 : Int32)) (f_X6_nearest_b40 n0 n1 g_n_airs g_n_airCell g_n_seat g_refused 4096 (-9 : Int32) (-9 : Int32) (0 : Int32)) (dq_bd2 (f_X6_refuse g_refused (-2 : Int32)) (fun (x23 : Int32) (g_refused_24 : (Nat → Int32)) => some (x23, g_refused_24))))))
-- DraughtsTake.nearest(II)I
set_option maxHeartbeats 4000000 in
set_option maxRecDepth 100000 in
theorem m_X6_nearest (l : Launch) (D : va_G) (y : Nat → ClassId) (a : (Nat → Nat)) (g_hasImage : Int32) (g_toldCount : Int32) (g_n_shutBits : Int64) (g_n_airs : Int32) (g_n_crownedBits : Int32) (g_n_sitters : Int32) (g_n_onBits : Int32) (g_n_turn : Int32) (g_n_taken : Int32) (g_n_warmth : (Nat → UInt32)) (g_n_kind : (Nat → Int32)) (g_n_figure : (Nat → Int32)) (g_n_airCell : (Nat → Int32)) (g_n_way : (Nat → Int32)) (g_n_seat : (Nat → Int32)) (g_n_shawls : (Nat → Int32)) (g_n_count : Int32) (g_n_steps : (Nat → Int32)) (g_n_numbers : (Nat → Int32)) (g_refused : (Nat → Int32)) (n0 : Int32) (n1 : Int32) (z0 : Int32) (z1 : (Nat → Int32)) (hf : f_X6_nearest g_n_airs g_n_sitters g_n_airCell g_n_seat g_refused n0 n1 = some (z0, z1)) : Ct l D y yX6_nearest wsX6_nearest 2 42 [.ref (a 0), .int n0, .int n1] (w_X6_nearest y a g_hasImage g_toldCount g_n_shutBits g_n_airs g_n_crownedBits g_n_sitters g_n_onBits g_n_turn g_n_taken g_n_warmth g_n_kind g_n_figure g_n_airCell g_n_way g_n_seat g_n_shawls g_n_count g_n_steps g_n_numbers g_refused) (w_X6_nearest y a g_hasImage g_toldCount g_n_shutBits g_n_airs g_n_crownedBits g_n_sitters g_n_onBits g_n_turn g_n_taken g_n_warmth g_n_kind g_n_figure g_n_airCell g_n_way g_n_seat g_n_shawls g_n_count g_n_steps g_n_numbers z1) (some (.int z0)) := by
  refine ct_head (cc := cX6_nearest) (n := 7) (ret := (some .int)) (by decide) rfl (Nat.le_of_ble_eq_true rfl) ?_
  intro p e s m below meth c A ls hx hb hr hml hown hlocks hts hA hAe hP hK hD hl
  have hS : va_S A s.heap s.heap [] := va_S.rf
  have hl : lv_has ls 7 [(0, .ref (a 0)), (1, .int n0), (2, .int n1)] := hl
  have hown : s.vm.findClass RX6 = some m.cls := hown
  have hw1 := hts (.fieldLink RX6 10 "DraughtsTake" "now" "LDraughtsTake$House;") (List.mem_of_getElem? (i := 1) rfl)
  have hw2 := hts (.fieldLink RX6 148 "DraughtsTake$House" "airs" "I") (List.mem_of_getElem? (i := 2) rfl)
  have hw3 := hts (.fieldLink RX6 116 "DraughtsTake$House" "seat" "[I") (List.mem_of_getElem? (i := 3) rfl)
  have hw4 := hts (.fieldLink RX6 98 "DraughtsTake$House" "airCell" "[I") (List.mem_of_getElem? (i := 4) rfl)
  have hiX6 : ∀ w ∈ wsX60, w ∈ wsX6_nearest := fun w h => List.mem_cons_of_mem _ (List.mem_append_left _ (List.mem_append_right _ (h)))
  have hiX2 : ∀ w ∈ wsX20, w ∈ wsX6_nearest := fun w h => List.mem_cons_of_mem _ (List.mem_append_right _ (h))
  unfold f_X6_nearest at hf
  refine lv_aload_n hx hb dX6_nearest_0 rfl (lv_at hl 0 rfl) ?_
  refine lv_iload_n hx hb dX6_nearest_1 rfl (lv_at hl 1 rfl) ?_
  obtain ⟨x1, hy2, hf⟩ := dq_b hf
  refine ct_callV (ci := 5) (q0 := 0) (own := RX6) (As := [.int n0]) (rest := []) (ws' := (w_X6_nearest y a g_hasImage g_toldCount g_n_shutBits g_n_airs g_n_crownedBits g_n_sitters g_n_onBits g_n_turn g_n_taken g_n_warmth g_n_kind g_n_figure g_n_airCell g_n_way g_n_seat g_n_shawls g_n_count g_n_steps g_n_numbers g_refused)) ⟨hx, hb, hml, hown, hts⟩ (m_X6_isSitter l D y a g_hasImage g_toldCount g_n_shutBits g_n_airs g_n_crownedBits g_n_sitters g_n_onBits g_n_turn g_n_taken g_n_warmth g_n_kind g_n_figure g_n_airCell g_n_way g_n_seat g_n_shawls g_n_count g_n_steps g_n_numbers n0 x1 hy2) (cwV 1 hts gX6_nearest_X6_isSitter rfl rfl rfl (by decide +kernel) ⟨Nat.le_of_ble_eq_true rfl, Nat.le_of_ble_eq_true rfl⟩) rfl rfl rfl hl.1 rfl (Nat.le_of_ble_eq_true rfl) dX6_nearest_2 ⟨Nat.zero_le _, Nat.zero_le _⟩ hK hP hD hS hA [0, 1, 2, 3, 4, 5, 6, 7, 8, 9, 10, 11] [12] rfl rfl rfl (by decide) (by decide) 13 rfl (by decide +kernel) (fun H locs hP hD hS => ?_)
  refine lv_if_ne (tgt := 14) hx hb dX6_nearest_5 (by decide) (fun c3 => ?_) (fun c3 => ?_)
  · have hf := dq_f hf c3
    clear c3
    refine lv_iload_n hx hb dX6_nearest_14 rfl (lv_at hl 2 rfl) ?_
    refine lv_if_lt (tgt := 23) hx hb dX6_nearest_15 (by decide) (fun c4 => ?_) (fun c4 => ?_)
    · have hf := dq_t hf c4
      clear c4
      refine lv_aload_n hx hb dX6_nearest_23 rfl (lv_at hl 0 rfl) ?_
      refine lv_bipush (v := -2) hx hb dX6_nearest_24 (by decide) ?_
      obtain ⟨x5, g_refused_6, hy7, hf⟩ := dq_b2 hf
      refine ct_callV (ci := 5) (q0 := 0) (own := RX6) (As := [.int (-2 : Int32)]) (rest := []) (ws' := (w_X6_nearest y a g_hasImage g_toldCount g_n_shutBits g_n_airs g_n_crownedBits g_n_sitters g_n_onBits g_n_turn g_n_taken g_n_warmth g_n_kind g_n_figure g_n_airCell g_n_way g_n_seat g_n_shawls g_n_count g_n_steps g_n_numbers g_refused_6)) ⟨hx, hb, hml, hown, hts⟩ (m_X6_refuse l D y a g_hasImage g_toldCount g_refused (-2 : Int32) x5 g_refused_6 hy7) (cwV 1 hts gX6_nearest_X6_refuse rfl rfl rfl (by decide +kernel) ⟨Nat.le_of_ble_eq_true rfl, Nat.le_of_ble_eq_true rfl⟩) rfl rfl rfl hl.1 rfl (Nat.le_of_ble_eq_true rfl) dX6_nearest_26 ⟨Nat.zero_le _, Nat.zero_le _⟩ hK hP hD hS hA [0, 12] [1, 2, 3, 4, 5, 6, 7, 8, 9, 10, 11] rfl rfl rfl (by decide) (by decide) 13 rfl (by decide +kernel) (fun H locs hP hD hS => ?_)
      obtain ⟨rfl, rfl⟩ := dq_r2 hf
      exact ct_iret hx hb hr hlocks hAe hP hK hD hS dX6_nearest_29
    · have hf := dq_f hf c4
      clear c4
      refine lv_iload_n hx hb dX6_nearest_18 rfl (lv_at hl 2 rfl) ?_
      refine lv_iconst (v := 1) hx hb dX6_nearest_19 (by decide) ?_
      refine lv_icmp_le (tgt := 30) hx hb dX6_nearest_20 (by decide) (fun c8 => ?_) (fun c8 => ?_)
      · have hf := dq_t hf c8
        clear c8
        refine lv_bipush (v := -9) hx hb dX6_nearest_30 (by decide) ?_
        refine lv_istore_n (lv' := [(3, .int (-9 : Int32)), (0, .ref (a 0)), (1, .int n0), (2, .int n1)]) hx hb dX6_nearest_32 rfl hl (by decide) rfl (fun ls hl => ?_)
        refine lv_bipush (v := -9) hx hb dX6_nearest_33 (by decide) ?_
        refine lv_istore (lv' := [(4, .int (-9 : Int32)), (3, .int (-9 : Int32)), (0, .ref (a 0)), (1, .int n0), (2, .int n1)]) hx hb dX6_nearest_35 hl (by decide) rfl (fun ls hl => ?_)
        refine lv_iconst (v := 0) hx hb dX6_nearest_37 (by decide) ?_
        refine lv_istore (lv' := [(5, .int (0 : Int32)), (4, .int (-9 : Int32)), (3, .int (-9 : Int32)), (0, .ref (a 0)), (1, .int n0), (2, .int n1)]) hx hb dX6_nearest_38 hl (by decide) rfl (fun ls hl => ?_)
        have J40 : ∀ (m40 : Nat) (x9 : Int32) (x10 : Int32) (x11 : Int32), f_X6_nearest_b40 n0 n1 g_n_airs g_n_airCell g_n_seat g_refused m40 x9 x10 x11 = some (z0, z1) → ∀ (H : Heap) (locs : List Loc), va_P D vwCl (w_X6_nearest y a g_hasImage g_toldCount g_n_shutBits g_n_airs g_n_crownedBits g_n_sitters g_n_onBits g_n_turn g_n_taken g_n_warmth g_n_kind g_n_figure g_n_airCell g_n_way g_n_seat g_n_shawls g_n_count g_n_steps g_n_numbers g_refused) H → va_D A (w_X6_nearest y a g_hasImage g_toldCount g_n_shutBits g_n_airs g_n_crownedBits g_n_sitters g_n_onBits g_n_turn g_n_taken g_n_warmth g_n_kind g_n_figure g_n_airCell g_n_way g_n_seat g_n_shawls g_n_count g_n_steps g_n_numbers g_refused) → va_S A s.heap H locs → ∀ ls : Array Slot, lv_has ls 7 [(0, .ref (a 0)), (1, .int n0), (2, .int n1), (3, .int x9), (4, .int x10), (5, .int x11)] → W p l e ({ frames := 2, cells := 0, slots := 0, locals := 42 } : Room) s m [.ref (a 0), .int n0, .int n1].toArray below meth c H locs 0 0 (MQ below (dQ D y (some (.int z0)) s.heap.size (w_X6_nearest y a g_hasImage g_toldCount g_n_shutBits g_n_airs g_n_crownedBits g_n_sitters g_n_onBits g_n_turn g_n_taken g_n_warmth g_n_kind g_n_figure g_n_airCell g_n_way g_n_seat g_n_shawls g_n_count g_n_steps g_n_numbers g_refused) (w_X6_nearest y a g_hasImage g_toldCount g_n_shutBits g_n_airs g_n_crownedBits g_n_sitters g_n_onBits g_n_turn g_n_taken g_n_warmth g_n_kind g_n_figure g_n_airCell g_n_way g_n_seat g_n_shawls g_n_count g_n_steps g_n_numbers z1)) [.ref (a 0), .int n0, .int n1].toArray s 0 0 A) (F0 m 40 ls []) := by
          intro m40
          induction m40 with
          | zero => intro x9 x10 x11 hf; exact absurd hf (by unfold f_X6_nearest_b40; exact fun h => by cases h)
          | succ m40 I40 =>
            intro x9 x10 x11 hf H locs hP hD hS ls hl
            unfold f_X6_nearest_b40 at hf
            refine lv_iload hx hb dX6_nearest_40 (lv_at hl 5 rfl) ?_
            refine lv_aload_n hx hb dX6_nearest_42 rfl (lv_at hl 0 rfl) ?_
            refine va_get (D := D) (ci := 5) (v := .ref (a 1)) (C := RX6) (T := TX6) (N := 12) hx hb hts hiX6 hown hK hP 0 rfl rfl 0 (by decide) hw1 (fun _ h9 => h9) rfl dX6_nearest_43 ?_
            refine va_get (D := D) (ci := 1) (v := .int g_n_airs) (C := RX2) (T := TX2) (N := 15) hx hb hts hiX2 hown hK hP 1 rfl rfl 2 (by decide) hw2 (fun _ h9 => h9) rfl dX6_nearest_46 ?_
            refine lv_icmp_ge (tgt := 102) hx hb dX6_nearest_49 (by decide) (fun c12 => ?_) (fun c12 => ?_)
            · have hf := dq_t hf c12
              clear c12
              refine lv_iload_n hx hb dX6_nearest_102 rfl (lv_at hl 2 rfl) ?_
              refine lv_if_ne (tgt := 110) hx hb dX6_nearest_103 (by decide) (fun c13 => ?_) (fun c13 => ?_)
              · have hf := dq_f hf c13
                clear c13
                refine lv_iload hx hb dX6_nearest_110 (lv_at hl 4 rfl) ?_
                obtain ⟨rfl, rfl⟩ := dq_r2 hf
                exact ct_iret hx hb hr hlocks hAe hP hK hD hS dX6_nearest_112
              · have hf := dq_t hf c13
                clear c13
                refine lv_iload_n hx hb dX6_nearest_106 rfl (lv_at hl 3 rfl) ?_
                refine lv_goto (tgt := 112) hx hb dX6_nearest_107 (by decide) ?_
                obtain ⟨rfl, rfl⟩ := dq_r2 hf
                exact ct_iret hx hb hr hlocks hAe hP hK hD hS dX6_nearest_112
            · have hf := dq_f hf c12
              clear c12
              refine lv_aload_n hx hb dX6_nearest_52 rfl (lv_at hl 0 rfl) ?_
              refine va_get (D := D) (ci := 5) (v := .ref (a 1)) (C := RX6) (T := TX6) (N := 12) hx hb hts hiX6 hown hK hP 0 rfl rfl 0 (by decide) hw1 (fun _ h9 => h9) rfl dX6_nearest_53 ?_
              refine va_get (D := D) (ci := 1) (v := .ref (a 7)) (C := RX2) (T := TX2) (N := 15) hx hb hts hiX2 hown hK hP 1 rfl rfl 9 (by decide) hw3 (fun _ h9 => h9) rfl dX6_nearest_56 ?_
              refine lv_iload_n hx hb dX6_nearest_59 rfl (lv_at hl 1 rfl) ?_
              obtain ⟨h14, hf⟩ := dq_g hf
              refine va_iald (cA := y 1) (n := 6) (f := g_n_seat) hx hb hK hP 7 1 rfl rfl h14 dX6_nearest_60 ?_
              refine lv_aload_n hx hb dX6_nearest_61 rfl (lv_at hl 0 rfl) ?_
              refine va_get (D := D) (ci := 5) (v := .ref (a 1)) (C := RX6) (T := TX6) (N := 12) hx hb hts hiX6 hown hK hP 0 rfl rfl 0 (by decide) hw1 (fun _ h9 => h9) rfl dX6_nearest_62 ?_
              refine va_get (D := D) (ci := 1) (v := .ref (a 5)) (C := RX2) (T := TX2) (N := 15) hx hb hts hiX2 hown hK hP 1 rfl rfl 5 (by decide) hw4 (fun _ h9 => h9) rfl dX6_nearest_65 ?_
              refine lv_iload hx hb dX6_nearest_68 (lv_at hl 5 rfl) ?_
              obtain ⟨h15, hf⟩ := dq_g hf
              refine va_iald (cA := y 1) (n := 5) (f := g_n_airCell) hx hb hK hP 5 1 rfl rfl h15 dX6_nearest_70 ?_
              obtain ⟨x16, hy17, hf⟩ := dq_b hf
              refine ct_callS0 (own := RX6) (As := [.int (g_n_seat n0.toNatClampNeg), .int (g_n_airCell x11.toNatClampNeg)]) (rest := []) ⟨hx, hb, hml, hown, hts⟩ (m_X6_distance l D y (g_n_seat n0.toNatClampNeg) (g_n_airCell x11.toNatClampNeg) x16 hy17) (va_cwS 2 hts gX6_nearest_X6_distance rfl rfl rfl (by decide +kernel) ⟨Nat.le_of_ble_eq_true rfl, Nat.le_of_ble_eq_true rfl⟩) rfl hl.1 rfl (Nat.le_of_ble_eq_true rfl) dX6_nearest_71 ⟨Nat.zero_le _, Nat.zero_le _⟩ hK hP hD hS hA (fun H locs hP hD hS => ?_)
              refine lv_istore (lv' := [(6, .int x16), (0, .ref (a 0)), (1, .int n0), (2, .int n1), (3, .int x9), (4, .int x10), (5, .int x11)]) hx hb dX6_nearest_74 hl (by decide) rfl (fun ls hl => ?_)
              refine lv_iload_n hx hb dX6_nearest_76 rfl (lv_at hl 4 rfl) ?_
              refine lv_bipush (v := -9) hx hb dX6_nearest_77 (by decide) ?_
              refine lv_icmp_eq (tgt := 89) hx hb dX6_nearest_79 (by decide) (fun c18 => ?_) (fun c18 => ?_)
              · have hf := dq_t hf c18
                clear c18
                refine lv_iload hx hb dX6_nearest_89 (lv_at hl 6 rfl) ?_
                refine lv_istore_n (lv' := [(3, .int x11), (6, .int x16), (0, .ref (a 0)), (1, .int n0), (2, .int n1), (4, .int x10), (5, .int x11)]) hx hb dX6_nearest_91 rfl hl (by decide) rfl (fun ls hl => ?_)
                refine lv_iload hx hb dX6_nearest_92 (lv_at hl 1 rfl) ?_
                refine lv_istore (lv' := [(4, .int x16), (3, .int x11), (6, .int x16), (0, .ref (a 0)), (1, .int n0), (2, .int n1), (5, .int x11)]) hx hb dX6_nearest_94 hl (by decide) rfl (fun ls hl => ?_)
                obtain ⟨x19, ex19⟩ : ∃ z : Int32, z = (x11 + (1 : Int32)) := ⟨_, rfl⟩
                have hf := dq_l hf x19 ex19
                refine lv_iinc (v := x19) (lv' := [(5, .int x19), (4, .int x16), (3, .int x11), (6, .int x16), (0, .ref (a 0)), (1, .int n0), (2, .int n1)]) hx hb dX6_nearest_96 hl (k := 6) rfl (by rw [ex19]; rfl) (by decide) rfl (fun ls hl => ?_)
                clear ex19
                refine lv_goto (tgt := 40) hx hb dX6_nearest_99 (by decide) ?_
                exact I40 _ _ _ hf _ _ hP hD hS _ (lv_sub hl [4, 5, 6, 2, 1, 0] rfl)
              · have hf := dq_f hf c18
                clear c18
                refine lv_iload hx hb dX6_nearest_82 (lv_at hl 0 rfl) ?_
                refine lv_iload hx hb dX6_nearest_84 (lv_at hl 5 rfl) ?_
                refine lv_icmp_ge (tgt := 96) hx hb dX6_nearest_86 (by decide) (fun c20 => ?_) (fun c20 => ?_)
                · have hf := dq_t hf c20
                  clear c20
                  obtain ⟨x21, ex21⟩ : ∃ z : Int32, z = (x11 + (1 : Int32)) := ⟨_, rfl⟩
                  have hf := dq_l hf x21 ex21
                  refine lv_iinc (v := x21) (lv' := [(5, .int x21), (6, .int x16), (0, .ref (a 0)), (1, .int n0), (2, .int n1), (3, .int x9), (4, .int x10)]) hx hb dX6_nearest_96 hl (k := 6) rfl (by rw [ex21]; rfl) (by decide) rfl (fun ls hl => ?_)
                  clear ex21
                  refine lv_goto (tgt := 40) hx hb dX6_nearest_99 (by decide) ?_
                  exact I40 _ _ _ hf _ _ hP hD hS _ (lv_sub hl [2, 3, 4, 5, 6, 0] rfl)
                · have hf := dq_f hf c20
                  clear c20
                  refine lv_iload hx hb dX6_nearest_89 (lv_at hl 6 rfl) ?_
                  refine lv_istore_n (lv' := [(3, .int x11), (6, .int x16), (0, .ref (a 0)), (1, .int n0), (2, .int n1), (4, .int x10), (5, .int x11)]) hx hb dX6_nearest_91 rfl hl (by decide) rfl (fun ls hl => ?_)
                  refine lv_iload hx hb dX6_nearest_92 (lv_at hl 1 rfl) ?_
                  refine lv_istore (lv' := [(4, .int x16), (3, .int x11), (6, .int x16), (0, .ref (a 0)), (1, .int n0), (2, .int n1), (5, .int x11)]) hx hb dX6_nearest_94 hl (by decide) rfl (fun ls hl => ?_)
                  obtain ⟨x22, ex22⟩ : ∃ z : Int32, z = (x11 + (1 : Int32)) := ⟨_, rfl⟩
                  have hf := dq_l hf x22 ex22
                  refine lv_iinc (v := x22) (lv' := [(5, .int x22), (4, .int x16), (3, .int x11), (6, .int x16), (0, .ref (a 0)), (1, .int n0), (2, .int n1)]) hx hb dX6_nearest_96 hl (k := 6) rfl (by rw [ex22]; rfl) (by decide) rfl (fun ls hl => ?_)
                  clear ex22
                  refine lv_goto (tgt := 40) hx hb dX6_nearest_99 (by decide) ?_
                  exact I40 _ _ _ hf _ _ hP hD hS _ (lv_sub hl [4, 5, 6, 2, 1, 0] rfl)
        exact J40 4096 _ _ _ hf _ _ hP hD hS _ (lv_sub hl [3, 4, 5, 2, 1, 0] rfl)
      · have hf := dq_f hf c8
        clear c8
        refine lv_aload_n hx hb dX6_nearest_23 rfl (lv_at hl 0 rfl) ?_
        refine lv_bipush (v := -2) hx hb dX6_nearest_24 (by decide) ?_
        obtain ⟨x23, g_refused_24, hy25, hf⟩ := dq_b2 hf
        refine ct_callV (ci := 5) (q0 := 0) (own := RX6) (As := [.int (-2 : Int32)]) (rest := []) (ws' := (w_X6_nearest y a g_hasImage g_toldCount g_n_shutBits g_n_airs g_n_crownedBits g_n_sitters g_n_onBits g_n_turn g_n_taken g_n_warmth g_n_kind g_n_figure g_n_airCell g_n_way g_n_seat g_n_shawls g_n_count g_n_steps g_n_numbers g_refused_24)) ⟨hx, hb, hml, hown, hts⟩ (m_X6_refuse l D y a g_hasImage g_toldCount g_refused (-2 : Int32) x23 g_refused_24 hy25) (cwV 1 hts gX6_nearest_X6_refuse rfl rfl rfl (by decide +kernel) ⟨Nat.le_of_ble_eq_true rfl, Nat.le_of_ble_eq_true rfl⟩) rfl rfl rfl hl.1 rfl (Nat.le_of_ble_eq_true rfl) dX6_nearest_26 ⟨Nat.zero_le _, Nat.zero_le _⟩ hK hP hD hS hA [0, 12] [1, 2, 3, 4, 5, 6, 7, 8, 9, 10, 11] rfl rfl rfl (by decide) (by decide) 13 rfl (by decide +kernel) (fun H locs hP hD hS => ?_)
        obtain ⟨rfl, rfl⟩ := dq_r2 hf
        exact ct_iret hx hb hr hlocks hAe hP hK hD hS dX6_nearest_29
  · have hf := dq_t hf c3
    clear c3
    refine lv_aload_n hx hb dX6_nearest_8 rfl (lv_at hl 0 rfl) ?_
    refine lv_iconst (v := -1) hx hb dX6_nearest_9 (by decide) ?_
    obtain ⟨x26, g_refused_27, hy28, hf⟩ := dq_b2 hf
    refine ct_callV (ci := 5) (q0 := 0) (own := RX6) (As := [.int (-1 : Int32)]) (rest := []) (ws' := (w_X6_nearest y a g_hasImage g_toldCount g_n_shutBits g_n_airs g_n_crownedBits g_n_sitters g_n_onBits g_n_turn g_n_taken g_n_warmth g_n_kind g_n_figure g_n_airCell g_n_way g_n_seat g_n_shawls g_n_count g_n_steps g_n_numbers g_refused_27)) ⟨hx, hb, hml, hown, hts⟩ (m_X6_refuse l D y a g_hasImage g_toldCount g_refused (-1 : Int32) x26 g_refused_27 hy28) (cwV 1 hts gX6_nearest_X6_refuse rfl rfl rfl (by decide +kernel) ⟨Nat.le_of_ble_eq_true rfl, Nat.le_of_ble_eq_true rfl⟩) rfl rfl rfl hl.1 rfl (Nat.le_of_ble_eq_true rfl) dX6_nearest_10 ⟨Nat.zero_le _, Nat.zero_le _⟩ hK hP hD hS hA [0, 12] [1, 2, 3, 4, 5, 6, 7, 8, 9, 10, 11] rfl rfl rfl (by decide) (by decide) 13 rfl (by decide +kernel) (fun H locs hP hD hS => ?_)
    obtain ⟨rfl, rfl⟩ := dq_r2 hf
    exact ct_iret hx hb hr hlocks hAe hP hK hD hS dX6_nearest_13
def w_X6_kinds (y : Nat → ClassId) (a : Nat → Nat) (g_hasImage : Int32) (g_toldCount : Int32) (g_n_shutBits : Int64) (g_n_airs : Int32) (g_n_crownedBits : Int32) (g_n_sitters : Int32) (g_n_onBits : Int32) (g_n_turn : Int32) (g_n_taken : Int32) (g_n_warmth : (Nat → UInt32)) (g_n_kind : (Nat → Int32)) (g_n_figure : (Nat → Int32)) (g_n_airCell : (Nat → Int32)) (g_n_way : (Nat → Int32)) (g_n_seat : (Nat → Int32)) (g_n_shawls : (Nat → Int32)) (g_n_count : Int32) (g_n_steps : (Nat → Int32)) (g_n_numbers : (Nat → Int32)) (g_refused : (Nat → Int32)) : va_W := [((a 0), .inr (5, [.ref (a 1), .ref (a 12), .ref (a 23), .int g_hasImage, .ref (a 34), .ref (a 124), .ref (a 126), .ref (a 134), .int g_toldCount, .ref (a 135), .ref (a 136), .ref (a 137)])), ((a 1), .inr (1, [.ref (a 2), .long g_n_shutBits, .int g_n_airs, .ref (a 3), .ref (a 4), .ref (a 5), .ref (a 6), .int g_n_crownedBits, .int g_n_sitters, .ref (a 7), .ref (a 8), .int g_n_onBits, .int g_n_turn, .int g_n_taken, .ref (a 9)])), ((a 2), .inl (y 0, 36, .inr (.inr (.inl g_n_warmth)))), ((a 3), .inl (y 1, 5, .inl g_n_kind)), ((a 4), .inl (y 1, 5, .inl g_n_figure)), ((a 5), .inl (y 1, 5, .inl g_n_airCell)), ((a 6), .inl (y 1, 5, .inl g_n_way)), ((a 7), .inl (y 1, 6, .inl g_n_seat)), ((a 8), .inl (y 1, 6, .inl g_n_shawls)), ((a 9), .inr (0, [.ref (a 10), .ref (a 11), .int g_n_count])), ((a 10), .inl (y 1, 6, .inl g_n_steps)), ((a 11), .inl (y 1, 6, .inl g_n_numbers)), ((a 135), .inl (y 1, 7, .inl g_refused))]
noncomputable def f_X6_kinds_b21 (n0 : Int32) (g_n_airs : Int32) (g_n_kind : (Nat → Int32)) (g_refused : (Nat → Int32))  : Nat → Int32 → Int32 → Option (Int32 × (Nat → Int32))
  | 0, _, _ => none
  | m21 + 1, x6, x7 => dq_if (g_n_airs ≤ x7) (some (x6, g_refused)) (dq_gd (vp_in x7 5) (dq_if ((g_n_kind x7.toNatClampNeg) = n0) (dq_let (x6 + (1 : Int32)) (fun (x12 : Int32) => dq_let (x7 + (1 : Int32)) (fun (x13 : Int32) => (f_X6_kinds_b21 n0 g_n_airs g_n_kind g_refused m21) x12 x13))) (dq_let (x7 + (1 : Int32)) (fun (x11 : Int32) => (f_X6_kinds_b21 n0 g_n_airs g_n_kind g_refused m21) x6 x11))))
noncomputable def f_X6_kinds (g_n_airs : Int32) (g_n_kind : (Nat → Int32)) (g_refused : (Nat → Int32)) (n0 : Int32) : Option (Int32 × (Nat → Int32)) := dq_if (n0 < 0) (dq_bd2 (f_X6_refuse g_refused (-2 : Int32)) (fun (x2 : Int32) (g_refused_3 : (Nat → Int32)) => some (x2, g_refused_3))) (dq_if (n0 < (8 : Int32)) (f_X6_kinds_b21 n0 g_n_airs g_n_kind g_refused 4096 (0 : Int32) (0 : Int32)) (dq_bd2 (f_X6_refuse g_refused (-2 : Int32)) (fun (x14 : Int32) (g_refused_15 : (Nat → Int32)) => some (x14, g_refused_15))))
-- DraughtsTake.kinds(I)I
set_option maxHeartbeats 4000000 in
set_option maxRecDepth 100000 in
theorem m_X6_kinds (l : Launch) (D : va_G) (y : Nat → ClassId) (a : (Nat → Nat)) (g_hasImage : Int32) (g_toldCount : Int32) (g_n_shutBits : Int64) (g_n_airs : Int32) (g_n_crownedBits : Int32) (g_n_sitters : Int32) (g_n_onBits : Int32) (g_n_turn : Int32) (g_n_taken : Int32) (g_n_warmth : (Nat → UInt32)) (g_n_kind : (Nat → Int32)) (g_n_figure : (Nat → Int32)) (g_n_airCell : (Nat → Int32)) (g_n_way : (Nat → Int32)) (g_n_seat : (Nat → Int32)) (g_n_shawls : (Nat → Int32)) (g_n_count : Int32) (g_n_steps : (Nat → Int32)) (g_n_numbers : (Nat → Int32)) (g_refused : (Nat → Int32)) (n0 : Int32) (z0 : Int32) (z1 : (Nat → Int32)) (hf : f_X6_kinds g_n_airs g_n_kind g_refused n0 = some (z0, z1)) : Ct l D y yX6_kinds wsX6_kinds 1 21 [.ref (a 0), .int n0] (w_X6_kinds y a g_hasImage g_toldCount g_n_shutBits g_n_airs g_n_crownedBits g_n_sitters g_n_onBits g_n_turn g_n_taken g_n_warmth g_n_kind g_n_figure g_n_airCell g_n_way g_n_seat g_n_shawls g_n_count g_n_steps g_n_numbers g_refused) (w_X6_kinds y a g_hasImage g_toldCount g_n_shutBits g_n_airs g_n_crownedBits g_n_sitters g_n_onBits g_n_turn g_n_taken g_n_warmth g_n_kind g_n_figure g_n_airCell g_n_way g_n_seat g_n_shawls g_n_count g_n_steps g_n_numbers z1) (some (.int z0)) := by
  refine ct_head (cc := cX6_kinds) (n := 4) (ret := (some .int)) (by decide) rfl (Nat.le_of_ble_eq_true rfl) ?_
  intro p e s m below meth c A ls hx hb hr hml hown hlocks hts hA hAe hP hK hD hl
  have hS : va_S A s.heap s.heap [] := va_S.rf
  have hl : lv_has ls 4 [(0, .ref (a 0)), (1, .int n0)] := hl
  have hown : s.vm.findClass RX6 = some m.cls := hown
  have hw1 := hts (.fieldLink RX6 10 "DraughtsTake" "now" "LDraughtsTake$House;") (List.mem_of_getElem? (i := 1) rfl)
  have hw2 := hts (.fieldLink RX6 148 "DraughtsTake$House" "airs" "I") (List.mem_of_getElem? (i := 2) rfl)
  have hw3 := hts (.fieldLink RX6 92 "DraughtsTake$House" "kind" "[I") (List.mem_of_getElem? (i := 3) rfl)
  have hiX6 : ∀ w ∈ wsX60, w ∈ wsX6_kinds := fun w h => List.mem_cons_of_mem _ (List.mem_append_left _ (List.mem_append_right _ (h)))
  have hiX2 : ∀ w ∈ wsX20, w ∈ wsX6_kinds := fun w h => List.mem_cons_of_mem _ (List.mem_append_right _ (h))
  unfold f_X6_kinds at hf
  refine lv_iload_n hx hb dX6_kinds_0 rfl (lv_at hl 1 rfl) ?_
  refine lv_if_lt (tgt := 10) hx hb dX6_kinds_1 (by decide) (fun c1 => ?_) (fun c1 => ?_)
  · have hf := dq_t hf c1
    clear c1
    refine lv_aload_n hx hb dX6_kinds_10 rfl (lv_at hl 0 rfl) ?_
    refine lv_bipush (v := -2) hx hb dX6_kinds_11 (by decide) ?_
    obtain ⟨x2, g_refused_3, hy4, hf⟩ := dq_b2 hf
    refine ct_callV (ci := 5) (q0 := 0) (own := RX6) (As := [.int (-2 : Int32)]) (rest := []) (ws' := (w_X6_kinds y a g_hasImage g_toldCount g_n_shutBits g_n_airs g_n_crownedBits g_n_sitters g_n_onBits g_n_turn g_n_taken g_n_warmth g_n_kind g_n_figure g_n_airCell g_n_way g_n_seat g_n_shawls g_n_count g_n_steps g_n_numbers g_refused_3)) ⟨hx, hb, hml, hown, hts⟩ (m_X6_refuse l D y a g_hasImage g_toldCount g_refused (-2 : Int32) x2 g_refused_3 hy4) (cwV 1 hts gX6_kinds_X6_refuse rfl rfl rfl (by decide +kernel) ⟨Nat.le_of_ble_eq_true rfl, Nat.le_of_ble_eq_true rfl⟩) rfl rfl rfl hl.1 rfl (Nat.le_of_ble_eq_true rfl) dX6_kinds_13 ⟨Nat.zero_le _, Nat.zero_le _⟩ hK hP hD hS hA [0, 12] [1, 2, 3, 4, 5, 6, 7, 8, 9, 10, 11] rfl rfl rfl (by decide) (by decide) 13 rfl (by decide +kernel) (fun H locs hP hD hS => ?_)
    obtain ⟨rfl, rfl⟩ := dq_r2 hf
    exact ct_iret hx hb hr hlocks hAe hP hK hD hS dX6_kinds_16
  · have hf := dq_f hf c1
    clear c1
    refine lv_iload_n hx hb dX6_kinds_4 rfl (lv_at hl 1 rfl) ?_
    refine lv_bipush (v := 8) hx hb dX6_kinds_5 (by decide) ?_
    refine lv_icmp_lt (tgt := 17) hx hb dX6_kinds_7 (by decide) (fun c5 => ?_) (fun c5 => ?_)
    · have hf := dq_t hf c5
      clear c5
      refine lv_iconst (v := 0) hx hb dX6_kinds_17 (by decide) ?_
      refine lv_istore_n (lv' := [(2, .int (0 : Int32)), (0, .ref (a 0)), (1, .int n0)]) hx hb dX6_kinds_18 rfl hl (by decide) rfl (fun ls hl => ?_)
      refine lv_iconst (v := 0) hx hb dX6_kinds_19 (by decide) ?_
      refine lv_istore_n (lv' := [(3, .int (0 : Int32)), (2, .int (0 : Int32)), (0, .ref (a 0)), (1, .int n0)]) hx hb dX6_kinds_20 rfl hl (by decide) rfl (fun ls hl => ?_)
      have J21 : ∀ (m21 : Nat) (x6 : Int32) (x7 : Int32), f_X6_kinds_b21 n0 g_n_airs g_n_kind g_refused m21 x6 x7 = some (z0, z1) → ∀ (H : Heap) (locs : List Loc), va_P D vwCl (w_X6_kinds y a g_hasImage g_toldCount g_n_shutBits g_n_airs g_n_crownedBits g_n_sitters g_n_onBits g_n_turn g_n_taken g_n_warmth g_n_kind g_n_figure g_n_airCell g_n_way g_n_seat g_n_shawls g_n_count g_n_steps g_n_numbers g_refused) H → va_D A (w_X6_kinds y a g_hasImage g_toldCount g_n_shutBits g_n_airs g_n_crownedBits g_n_sitters g_n_onBits g_n_turn g_n_taken g_n_warmth g_n_kind g_n_figure g_n_airCell g_n_way g_n_seat g_n_shawls g_n_count g_n_steps g_n_numbers g_refused) → va_S A s.heap H locs → ∀ ls : Array Slot, lv_has ls 4 [(0, .ref (a 0)), (1, .int n0), (2, .int x6), (3, .int x7)] → W p l e ({ frames := 1, cells := 0, slots := 0, locals := 21 } : Room) s m [.ref (a 0), .int n0].toArray below meth c H locs 0 0 (MQ below (dQ D y (some (.int z0)) s.heap.size (w_X6_kinds y a g_hasImage g_toldCount g_n_shutBits g_n_airs g_n_crownedBits g_n_sitters g_n_onBits g_n_turn g_n_taken g_n_warmth g_n_kind g_n_figure g_n_airCell g_n_way g_n_seat g_n_shawls g_n_count g_n_steps g_n_numbers g_refused) (w_X6_kinds y a g_hasImage g_toldCount g_n_shutBits g_n_airs g_n_crownedBits g_n_sitters g_n_onBits g_n_turn g_n_taken g_n_warmth g_n_kind g_n_figure g_n_airCell g_n_way g_n_seat g_n_shawls g_n_count g_n_steps g_n_numbers z1)) [.ref (a 0), .int n0].toArray s 0 0 A) (F0 m 21 ls []) := by
        intro m21
        induction m21 with
        | zero => intro x6 x7 hf; exact absurd hf (by unfold f_X6_kinds_b21; exact fun h => by cases h)
        | succ m21 I21 =>
          intro x6 x7 hf H locs hP hD hS ls hl
          unfold f_X6_kinds_b21 at hf
          refine lv_iload_n hx hb dX6_kinds_21 rfl (lv_at hl 3 rfl) ?_
          refine lv_aload_n hx hb dX6_kinds_22 rfl (lv_at hl 0 rfl) ?_
          refine va_get (D := D) (ci := 5) (v := .ref (a 1)) (C := RX6) (T := TX6) (N := 12) hx hb hts hiX6 hown hK hP 0 rfl rfl 0 (by decide) hw1 (fun _ h9 => h9) rfl dX6_kinds_23 ?_
          refine va_get (D := D) (ci := 1) (v := .int g_n_airs) (C := RX2) (T := TX2) (N := 15) hx hb hts hiX2 hown hK hP 1 rfl rfl 2 (by decide) hw2 (fun _ h9 => h9) rfl dX6_kinds_26 ?_
          refine lv_icmp_ge (tgt := 54) hx hb dX6_kinds_29 (by decide) (fun c8 => ?_) (fun c8 => ?_)
          · have hf := dq_t hf c8
            clear c8
            refine lv_iload_n hx hb dX6_kinds_54 rfl (lv_at hl 2 rfl) ?_
            obtain ⟨rfl, rfl⟩ := dq_r2 hf
            exact ct_iret hx hb hr hlocks hAe hP hK hD hS dX6_kinds_55
          · have hf := dq_f hf c8
            clear c8
            refine lv_aload_n hx hb dX6_kinds_32 rfl (lv_at hl 0 rfl) ?_
            refine va_get (D := D) (ci := 5) (v := .ref (a 1)) (C := RX6) (T := TX6) (N := 12) hx hb hts hiX6 hown hK hP 0 rfl rfl 0 (by decide) hw1 (fun _ h9 => h9) rfl dX6_kinds_33 ?_
            refine va_get (D := D) (ci := 1) (v := .ref (a 3)) (C := RX2) (T := TX2) (N := 15) hx hb hts hiX2 hown hK hP 1 rfl rfl 3 (by decide) hw3 (fun _ h9 => h9) rfl dX6_kinds_36 ?_
            refine lv_iload_n hx hb dX6_kinds_39 rfl (lv_at hl 3 rfl) ?_
            obtain ⟨h9, hf⟩ := dq_g hf
            refine va_iald (cA := y 1) (n := 5) (f := g_n_kind) hx hb hK hP 3 1 rfl rfl h9 dX6_kinds_40 ?_
            refine lv_iload_n hx hb dX6_kinds_41 rfl (lv_at hl 1 rfl) ?_
            refine lv_icmp_ne (tgt := 48) hx hb dX6_kinds_42 (by decide) (fun c10 => ?_) (fun c10 => ?_)
            · have hf := dq_f hf c10
              clear c10
              obtain ⟨x11, ex11⟩ : ∃ z : Int32, z = (x7 + (1 : Int32)) := ⟨_, rfl⟩
              have hf := dq_l hf x11 ex11
              refine lv_iinc (v := x11) (lv' := [(3, .int x11), (0, .ref (a 0)), (1, .int n0), (2, .int x6)]) hx hb dX6_kinds_48 hl (k := 3) rfl (by rw [ex11]; rfl) (by decide) rfl (fun ls hl => ?_)
              clear ex11
              refine lv_goto (tgt := 21) hx hb dX6_kinds_51 (by decide) ?_
              exact I21 _ _ hf _ _ hP hD hS _ (lv_sub hl [1, 2, 3, 0] rfl)
            · have hf := dq_t hf c10
              clear c10
              obtain ⟨x12, ex12⟩ : ∃ z : Int32, z = (x6 + (1 : Int32)) := ⟨_, rfl⟩
              have hf := dq_l hf x12 ex12
              refine lv_iinc (v := x12) (lv' := [(2, .int x12), (0, .ref (a 0)), (1, .int n0), (3, .int x7)]) hx hb dX6_kinds_45 hl (k := 2) rfl (by rw [ex12]; rfl) (by decide) rfl (fun ls hl => ?_)
              clear ex12
              obtain ⟨x13, ex13⟩ : ∃ z : Int32, z = (x7 + (1 : Int32)) := ⟨_, rfl⟩
              have hf := dq_l hf x13 ex13
              refine lv_iinc (v := x13) (lv' := [(3, .int x13), (2, .int x12), (0, .ref (a 0)), (1, .int n0)]) hx hb dX6_kinds_48 hl (k := 3) rfl (by rw [ex13]; rfl) (by decide) rfl (fun ls hl => ?_)
              clear ex13
              refine lv_goto (tgt := 21) hx hb dX6_kinds_51 (by decide) ?_
              exact I21 _ _ hf _ _ hP hD hS _ (lv_sub hl [2, 3, 1, 0] rfl)
      exact J21 4096 _ _ hf _ _ hP hD hS _ (lv_sub hl [2, 3, 1, 0] rfl)
    · have hf := dq_f hf c5
      clear c5
      refine lv_aload_n hx hb dX6_kinds_10 rfl (lv_at hl 0 rfl) ?_
      refine lv_bipush (v := -2) hx hb dX6_kinds_11 (by decide) ?_
      obtain ⟨x14, g_refused_15, hy16, hf⟩ := dq_b2 hf
      refine ct_callV (ci := 5) (q0 := 0) (own := RX6) (As := [.int (-2 : Int32)]) (rest := []) (ws' := (w_X6_kinds y a g_hasImage g_toldCount g_n_shutBits g_n_airs g_n_crownedBits g_n_sitters g_n_onBits g_n_turn g_n_taken g_n_warmth g_n_kind g_n_figure g_n_airCell g_n_way g_n_seat g_n_shawls g_n_count g_n_steps g_n_numbers g_refused_15)) ⟨hx, hb, hml, hown, hts⟩ (m_X6_refuse l D y a g_hasImage g_toldCount g_refused (-2 : Int32) x14 g_refused_15 hy16) (cwV 1 hts gX6_kinds_X6_refuse rfl rfl rfl (by decide +kernel) ⟨Nat.le_of_ble_eq_true rfl, Nat.le_of_ble_eq_true rfl⟩) rfl rfl rfl hl.1 rfl (Nat.le_of_ble_eq_true rfl) dX6_kinds_13 ⟨Nat.zero_le _, Nat.zero_le _⟩ hK hP hD hS hA [0, 12] [1, 2, 3, 4, 5, 6, 7, 8, 9, 10, 11] rfl rfl rfl (by decide) (by decide) 13 rfl (by decide +kernel) (fun H locs hP hD hS => ?_)
      obtain ⟨rfl, rfl⟩ := dq_r2 hf
      exact ct_iret hx hb hr hlocks hAe hP hK hD hS dX6_kinds_16
noncomputable def f_X6_isPeg (n0 : Int32) : Option Int32 := dq_if (n0 < 0) (some (0 : Int32)) (dq_if ((3 : Int32) ≤ n0) (some (0 : Int32)) (some (1 : Int32)))
-- DraughtsTake.isPeg(I)Z
set_option maxHeartbeats 4000000 in
set_option maxRecDepth 100000 in
theorem m_X6_isPeg (l : Launch) (D : va_G) (y : Nat → ClassId) (n0 : Int32) (z0 : Int32) (hf : f_X6_isPeg n0 = some z0) : Ct l D y yX6_isPeg wsX6_isPeg 0 0 [.int n0] [] [] (some (.int z0)) := by
  refine ct_head (cc := cX6_isPeg) (n := 1) (ret := (some .boolean)) (by decide) rfl (Nat.le_of_ble_eq_true rfl) ?_
  intro p e s m below meth c A ls hx hb hr hml hown hlocks hts hA hAe hP hK hD hl
  have hS : va_S A s.heap s.heap [] := va_S.rf
  have hl : lv_has ls 1 [(0, .int n0)] := hl
  have hown : s.vm.findClass RX6 = some m.cls := hown
  unfold f_X6_isPeg at hf
  refine lv_iload_n hx hb dX6_isPeg_0 rfl (lv_at hl 0 rfl) ?_
  refine lv_if_lt (tgt := 13) hx hb dX6_isPeg_1 (by decide) (fun c1 => ?_) (fun c1 => ?_)
  · have hf := dq_t hf c1
    clear c1
    refine lv_iconst (v := 0) hx hb dX6_isPeg_13 (by decide) ?_
    obtain rfl := dq_r1 hf
    exact ct_zret hx hb hr rfl hlocks hAe hP hK hD hS dX6_isPeg_14
  · have hf := dq_f hf c1
    clear c1
    refine lv_iload_n hx hb dX6_isPeg_4 rfl (lv_at hl 0 rfl) ?_
    refine lv_iconst (v := 3) hx hb dX6_isPeg_5 (by decide) ?_
    refine lv_icmp_ge (tgt := 13) hx hb dX6_isPeg_6 (by decide) (fun c2 => ?_) (fun c2 => ?_)
    · have hf := dq_t hf c2
      clear c2
      refine lv_iconst (v := 0) hx hb dX6_isPeg_13 (by decide) ?_
      obtain rfl := dq_r1 hf
      exact ct_zret hx hb hr rfl hlocks hAe hP hK hD hS dX6_isPeg_14
    · have hf := dq_f hf c2
      clear c2
      refine lv_iconst (v := 1) hx hb dX6_isPeg_9 (by decide) ?_
      refine lv_goto (tgt := 14) hx hb dX6_isPeg_10 (by decide) ?_
      obtain rfl := dq_r1 hf
      exact ct_zret hx hb hr rfl hlocks hAe hP hK hD hS dX6_isPeg_14
def w_X6_pegs (y : Nat → ClassId) (a : Nat → Nat) (g_hasImage : Int32) (g_toldCount : Int32) (g_coats_sorts : (Nat → Int32)) (g_coats_sizes : (Nat → Int32)) (g_places : (Nat → Nat → Int32)) (g_coats_carried : (Nat → Int32)) (g_refused : (Nat → Int32)) : va_W := [((a 0), .inr (5, [.ref (a 1), .ref (a 12), .ref (a 23), .int g_hasImage, .ref (a 34), .ref (a 124), .ref (a 126), .ref (a 134), .int g_toldCount, .ref (a 135), .ref (a 136), .ref (a 137)])), ((a 126), .inr (3, [.ref (a 127), .ref (a 128), .ref (a 129), .ref (a 133)])), ((a 127), .inl (y 1, 3, .inl g_coats_sorts)), ((a 128), .inl (y 1, 3, .inl g_coats_sizes)), ((a 129), .inl (y 4, 3, .inr (.inr (.inr (.inr (fun i => if i < 3 then some (a (126 + (4 + i))) else none)))))), ((a 130), .inl (y 1, 12, .inl (g_places 0))), ((a 131), .inl (y 1, 12, .inl (g_places 1))), ((a 132), .inl (y 1, 12, .inl (g_places 2))), ((a 133), .inl (y 1, 12, .inl g_coats_carried)), ((a 135), .inl (y 1, 7, .inl g_refused))]
noncomputable def f_X6_pegs (g_coats_sorts : (Nat → Int32)) (g_coats_sizes : (Nat → Int32)) (g_places : (Nat → Nat → Int32)) (g_refused : (Nat → Int32)) (n0 : Int32) (n1 : Int32) (n2 : Int32) : Option (Int32 × (Nat → Int32) × (Nat → Int32) × (Nat → Nat → Int32) × (Nat → Int32)) := dq_bd (f_X6_isPeg n0) (fun (x1 : Int32) => dq_if (x1 = 0) (dq_bd2 (f_X6_refuse g_refused (-1 : Int32)) (fun (x21 : Int32) (g_refused_22 : (Nat → Int32)) => some (x21, g_coats_sorts, g_coats_sizes, g_places, g_refused_22))) (dq_if (n1 < 0) (dq_bd2 (f_X6_refuse g_refused (-2 : Int32)) (fun (x5 : Int32) (g_refused_6 : (Nat → Int32)) => some (x5, g_coats_sorts, g_coats_sizes, g_places, g_refused_6))) (dq_if (n1 ≤ (2 : Int32)) (dq_if (n2 ≤ (12 : Int32)) (dq_if (0 ≤ n2) (dq_bd3 (f_X4_holdRow g_coats_sorts g_coats_sizes g_places n0 n1 n2) (fun (g_coats_sorts_11 : (Nat → Int32)) (g_coats_sizes_12 : (Nat → Int32)) (g_places_13 : (Nat → Nat → Int32)) => some ((1 : Int32), g_coats_sorts_11, g_coats_sizes_12, g_places_13, g_refused))) (some ((-14 : Int32), g_coats_sorts, g_coats_sizes, g_places, g_refused))) (dq_bd2 (f_X6_refuse g_refused (-6 : Int32)) (fun (x15 : Int32) (g_refused_16 : (Nat → Int32)) => some (x15, g_coats_sorts, g_coats_sizes, g_places, g_refused_16)))) (dq_bd2 (f_X6_refuse g_refused (-2 : Int32)) (fun (x18 : Int32) (g_refused_19 : (Nat → Int32)) => some (x18, g_coats_sorts, g_coats_sizes, g_places, g_refused_19))))))
-- DraughtsTake.pegs(III)I
set_option maxHeartbeats 4000000 in
set_option maxRecDepth 100000 in
theorem m_X6_pegs (l : Launch) (D : va_G) (y : Nat → ClassId) (a : (Nat → Nat)) (g_hasImage : Int32) (g_toldCount : Int32) (g_coats_sorts : (Nat → Int32)) (g_coats_sizes : (Nat → Int32)) (g_places : (Nat → Nat → Int32)) (g_coats_carried : (Nat → Int32)) (g_refused : (Nat → Int32)) (n0 : Int32) (n1 : Int32) (n2 : Int32) (z0 : Int32) (z1 : (Nat → Int32)) (z2 : (Nat → Int32)) (z3 : (Nat → Nat → Int32)) (z4 : (Nat → Int32)) (hf : f_X6_pegs g_coats_sorts g_coats_sizes g_places g_refused n0 n1 n2 = some (z0, z1, z2, z3, z4)) : Ct l D y yX6_pegs wsX6_pegs 1 24 [.ref (a 0), .int n0, .int n1, .int n2] (w_X6_pegs y a g_hasImage g_toldCount g_coats_sorts g_coats_sizes g_places g_coats_carried g_refused) (w_X6_pegs y a g_hasImage g_toldCount z1 z2 z3 g_coats_carried z4) (some (.int z0)) := by
  refine ct_head (cc := cX6_pegs) (n := 4) (ret := (some .int)) (by decide) rfl (Nat.le_of_ble_eq_true rfl) ?_
  intro p e s m below meth c A ls hx hb hr hml hown hlocks hts hA hAe hP hK hD hl
  have hS : va_S A s.heap s.heap [] := va_S.rf
  have hl : lv_has ls 4 [(0, .ref (a 0)), (1, .int n0), (2, .int n1), (3, .int n2)] := hl
  have hown : s.vm.findClass RX6 = some m.cls := hown
  have hw1 := hts (.fieldLink RX6 39 "DraughtsTake" "coats" "LDraughtsTake$Pegs;") (List.mem_of_getElem? (i := 1) rfl)
  have hiX6 : ∀ w ∈ wsX60, w ∈ wsX6_pegs := fun w h => List.mem_cons_of_mem _ (List.mem_append_left _ (List.mem_append_right _ (h)))
  unfold f_X6_pegs at hf
  refine lv_iload_n hx hb dX6_pegs_0 rfl (lv_at hl 1 rfl) ?_
  obtain ⟨x1, hy2, hf⟩ := dq_b hf
  refine ct_callS0 (own := RX6) (As := [.int n0]) (rest := []) ⟨hx, hb, hml, hown, hts⟩ (m_X6_isPeg l D y n0 x1 hy2) (va_cwS 1 hts gX6_pegs_X6_isPeg rfl rfl rfl (by decide +kernel) ⟨Nat.le_of_ble_eq_true rfl, Nat.le_of_ble_eq_true rfl⟩) rfl hl.1 rfl (Nat.le_of_ble_eq_true rfl) dX6_pegs_1 ⟨Nat.zero_le _, Nat.zero_le _⟩ hK hP hD hS hA (fun H locs hP hD hS => ?_)
  refine lv_if_ne (tgt := 13) hx hb dX6_pegs_4 (by decide) (fun c3 => ?_) (fun c3 => ?_)
  · have hf := dq_f hf c3
    clear c3
    refine lv_iload_n hx hb dX6_pegs_13 rfl (lv_at hl 2 rfl) ?_
    refine lv_if_lt (tgt := 22) hx hb dX6_pegs_14 (by decide) (fun c4 => ?_) (fun c4 => ?_)
    · have hf := dq_t hf c4
      clear c4
      refine lv_aload_n hx hb dX6_pegs_22 rfl (lv_at hl 0 rfl) ?_
      refine lv_bipush (v := -2) hx hb dX6_pegs_23 (by decide) ?_
      obtain ⟨x5, g_refused_6, hy7, hf⟩ := dq_b2 hf
      refine ct_callV (ci := 5) (q0 := 0) (own := RX6) (As := [.int (-2 : Int32)]) (rest := []) (ws' := (w_X6_pegs y a g_hasImage g_toldCount g_coats_sorts g_coats_sizes g_places g_coats_carried g_refused_6)) ⟨hx, hb, hml, hown, hts⟩ (m_X6_refuse l D y a g_hasImage g_toldCount g_refused (-2 : Int32) x5 g_refused_6 hy7) (cwV 1 hts gX6_pegs_X6_refuse rfl rfl rfl (by decide +kernel) ⟨Nat.le_of_ble_eq_true rfl, Nat.le_of_ble_eq_true rfl⟩) rfl rfl rfl hl.1 rfl (Nat.le_of_ble_eq_true rfl) dX6_pegs_25 ⟨Nat.zero_le _, Nat.zero_le _⟩ hK hP hD hS hA [0, 9] [1, 2, 3, 4, 5, 6, 7, 8] rfl rfl rfl (by decide) (by decide) 10 rfl (by decide +kernel) (fun H locs hP hD hS => ?_)
      obtain ⟨rfl, rfl, rfl, rfl, rfl⟩ := dq_r5 hf
      exact ct_iret hx hb hr hlocks hAe hP hK hD hS dX6_pegs_28
    · have hf := dq_f hf c4
      clear c4
      refine lv_iload_n hx hb dX6_pegs_17 rfl (lv_at hl 2 rfl) ?_
      refine lv_iconst (v := 2) hx hb dX6_pegs_18 (by decide) ?_
      refine lv_icmp_le (tgt := 29) hx hb dX6_pegs_19 (by decide) (fun c8 => ?_) (fun c8 => ?_)
      · have hf := dq_t hf c8
        clear c8
        refine lv_iload_n hx hb dX6_pegs_29 rfl (lv_at hl 3 rfl) ?_
        refine lv_bipush (v := 12) hx hb dX6_pegs_30 (by decide) ?_
        refine lv_icmp_le (tgt := 42) hx hb dX6_pegs_32 (by decide) (fun c9 => ?_) (fun c9 => ?_)
        · have hf := dq_t hf c9
          clear c9
          refine lv_iload_n hx hb dX6_pegs_42 rfl (lv_at hl 3 rfl) ?_
          refine lv_if_ge (tgt := 49) hx hb dX6_pegs_43 (by decide) (fun c10 => ?_) (fun c10 => ?_)
          · have hf := dq_t hf c10
            clear c10
            refine lv_aload_n hx hb dX6_pegs_49 rfl (lv_at hl 0 rfl) ?_
            refine va_get (D := D) (ci := 5) (v := .ref (a 126)) (C := RX6) (T := TX6) (N := 12) hx hb hts hiX6 hown hK hP 0 rfl rfl 6 (by decide) hw1 (fun _ h9 => h9) rfl dX6_pegs_50 ?_
            refine lv_iload_n hx hb dX6_pegs_53 rfl (lv_at hl 1 rfl) ?_
            refine lv_iload_n hx hb dX6_pegs_54 rfl (lv_at hl 2 rfl) ?_
            refine lv_iload_n hx hb dX6_pegs_55 rfl (lv_at hl 3 rfl) ?_
            obtain ⟨g_coats_sorts_11, g_coats_sizes_12, g_places_13, hy14, hf⟩ := dq_b3 hf
            refine ct_callV (ci := 3) (q0 := 0) (own := RX6) (As := [.int n0, .int n1, .int n2]) (rest := []) (ws' := (w_X6_pegs y a g_hasImage g_toldCount g_coats_sorts_11 g_coats_sizes_12 g_places_13 g_coats_carried g_refused)) ⟨hx, hb, hml, hown, hts⟩ (m_X4_holdRow l D y (fun k => a (126 + k)) g_coats_sorts g_coats_sizes g_places g_coats_carried n0 n1 n2 g_coats_sorts_11 g_coats_sizes_12 g_places_13 hy14) (cwV 3 hts gX6_pegs_X4_holdRow rfl rfl rfl (by decide +kernel) ⟨Nat.le_of_ble_eq_true rfl, Nat.le_of_ble_eq_true rfl⟩) rfl rfl rfl hl.1 rfl (Nat.le_of_ble_eq_true rfl) dX6_pegs_56 ⟨Nat.zero_le _, Nat.zero_le _⟩ hK hP hD hS hA [1, 2, 3, 4, 5, 6, 7, 8] [0, 9] rfl rfl rfl (by decide) (by decide) 10 rfl (by decide +kernel) (fun H locs hP hD hS => ?_)
            refine lv_iconst (v := 1) hx hb dX6_pegs_59 (by decide) ?_
            obtain ⟨rfl, rfl, rfl, rfl, rfl⟩ := dq_r5 hf
            exact ct_iret hx hb hr hlocks hAe hP hK hD hS dX6_pegs_60
          · have hf := dq_f hf c10
            clear c10
            refine lv_bipush (v := -14) hx hb dX6_pegs_46 (by decide) ?_
            obtain ⟨rfl, rfl, rfl, rfl, rfl⟩ := dq_r5 hf
            exact ct_iret hx hb hr hlocks hAe hP hK hD hS dX6_pegs_48
        · have hf := dq_f hf c9
          clear c9
          refine lv_aload_n hx hb dX6_pegs_35 rfl (lv_at hl 0 rfl) ?_
          refine lv_bipush (v := -6) hx hb dX6_pegs_36 (by decide) ?_
          obtain ⟨x15, g_refused_16, hy17, hf⟩ := dq_b2 hf
          refine ct_callV (ci := 5) (q0 := 0) (own := RX6) (As := [.int (-6 : Int32)]) (rest := []) (ws' := (w_X6_pegs y a g_hasImage g_toldCount g_coats_sorts g_coats_sizes g_places g_coats_carried g_refused_16)) ⟨hx, hb, hml, hown, hts⟩ (m_X6_refuse l D y a g_hasImage g_toldCount g_refused (-6 : Int32) x15 g_refused_16 hy17) (cwV 1 hts gX6_pegs_X6_refuse rfl rfl rfl (by decide +kernel) ⟨Nat.le_of_ble_eq_true rfl, Nat.le_of_ble_eq_true rfl⟩) rfl rfl rfl hl.1 rfl (Nat.le_of_ble_eq_true rfl) dX6_pegs_38 ⟨Nat.zero_le _, Nat.zero_le _⟩ hK hP hD hS hA [0, 9] [1, 2, 3, 4, 5, 6, 7, 8] rfl rfl rfl (by decide) (by decide) 10 rfl (by decide +kernel) (fun H locs hP hD hS => ?_)
          obtain ⟨rfl, rfl, rfl, rfl, rfl⟩ := dq_r5 hf
          exact ct_iret hx hb hr hlocks hAe hP hK hD hS dX6_pegs_41
      · have hf := dq_f hf c8
        clear c8
        refine lv_aload_n hx hb dX6_pegs_22 rfl (lv_at hl 0 rfl) ?_
        refine lv_bipush (v := -2) hx hb dX6_pegs_23 (by decide) ?_
        obtain ⟨x18, g_refused_19, hy20, hf⟩ := dq_b2 hf
        refine ct_callV (ci := 5) (q0 := 0) (own := RX6) (As := [.int (-2 : Int32)]) (rest := []) (ws' := (w_X6_pegs y a g_hasImage g_toldCount g_coats_sorts g_coats_sizes g_places g_coats_carried g_refused_19)) ⟨hx, hb, hml, hown, hts⟩ (m_X6_refuse l D y a g_hasImage g_toldCount g_refused (-2 : Int32) x18 g_refused_19 hy20) (cwV 1 hts gX6_pegs_X6_refuse rfl rfl rfl (by decide +kernel) ⟨Nat.le_of_ble_eq_true rfl, Nat.le_of_ble_eq_true rfl⟩) rfl rfl rfl hl.1 rfl (Nat.le_of_ble_eq_true rfl) dX6_pegs_25 ⟨Nat.zero_le _, Nat.zero_le _⟩ hK hP hD hS hA [0, 9] [1, 2, 3, 4, 5, 6, 7, 8] rfl rfl rfl (by decide) (by decide) 10 rfl (by decide +kernel) (fun H locs hP hD hS => ?_)
        obtain ⟨rfl, rfl, rfl, rfl, rfl⟩ := dq_r5 hf
        exact ct_iret hx hb hr hlocks hAe hP hK hD hS dX6_pegs_28
  · have hf := dq_t hf c3
    clear c3
    refine lv_aload_n hx hb dX6_pegs_7 rfl (lv_at hl 0 rfl) ?_
    refine lv_iconst (v := -1) hx hb dX6_pegs_8 (by decide) ?_
    obtain ⟨x21, g_refused_22, hy23, hf⟩ := dq_b2 hf
    refine ct_callV (ci := 5) (q0 := 0) (own := RX6) (As := [.int (-1 : Int32)]) (rest := []) (ws' := (w_X6_pegs y a g_hasImage g_toldCount g_coats_sorts g_coats_sizes g_places g_coats_carried g_refused_22)) ⟨hx, hb, hml, hown, hts⟩ (m_X6_refuse l D y a g_hasImage g_toldCount g_refused (-1 : Int32) x21 g_refused_22 hy23) (cwV 1 hts gX6_pegs_X6_refuse rfl rfl rfl (by decide +kernel) ⟨Nat.le_of_ble_eq_true rfl, Nat.le_of_ble_eq_true rfl⟩) rfl rfl rfl hl.1 rfl (Nat.le_of_ble_eq_true rfl) dX6_pegs_9 ⟨Nat.zero_le _, Nat.zero_le _⟩ hK hP hD hS hA [0, 9] [1, 2, 3, 4, 5, 6, 7, 8] rfl rfl rfl (by decide) (by decide) 10 rfl (by decide +kernel) (fun H locs hP hD hS => ?_)
    obtain ⟨rfl, rfl, rfl, rfl, rfl⟩ := dq_r5 hf
    exact ct_iret hx hb hr hlocks hAe hP hK hD hS dX6_pegs_12
def w_X6_hangs (y : Nat → ClassId) (a : Nat → Nat) (g_hasImage : Int32) (g_toldCount : Int32) (g_coats_sorts : (Nat → Int32)) (g_coats_sizes : (Nat → Int32)) (g_places : (Nat → Nat → Int32)) (g_coats_carried : (Nat → Int32)) (g_refused : (Nat → Int32)) : va_W := [((a 0), .inr (5, [.ref (a 1), .ref (a 12), .ref (a 23), .int g_hasImage, .ref (a 34), .ref (a 124), .ref (a 126), .ref (a 134), .int g_toldCount, .ref (a 135), .ref (a 136), .ref (a 137)])), ((a 126), .inr (3, [.ref (a 127), .ref (a 128), .ref (a 129), .ref (a 133)])), ((a 127), .inl (y 1, 3, .inl g_coats_sorts)), ((a 128), .inl (y 1, 3, .inl g_coats_sizes)), ((a 129), .inl (y 4, 3, .inr (.inr (.inr (.inr (fun i => if i < 3 then some (a (126 + (4 + i))) else none)))))), ((a 130), .inl (y 1, 12, .inl (g_places 0))), ((a 131), .inl (y 1, 12, .inl (g_places 1))), ((a 132), .inl (y 1, 12, .inl (g_places 2))), ((a 133), .inl (y 1, 12, .inl g_coats_carried)), ((a 135), .inl (y 1, 7, .inl g_refused))]
noncomputable def f_X6_hangs_b30 (n0 : Int32) (n1 : Int32) (n2 : Int32) (n3 : Int32) (g_coats_sorts : (Nat → Int32)) (g_coats_sizes : (Nat → Int32)) (g_places : (Nat → Nat → Int32)) (g_refused : (Nat → Int32))   : Option (Int32 × (Nat → Nat → Int32) × (Nat → Int32)) := dq_if (0 ≤ n3) (dq_if (n3 ≤ (9 : Int32)) (dq_bd (f_X4_placeFault g_coats_sizes n0 n1) (fun (x6 : Int32) => dq_if (x6 = 0) (dq_bd2 (f_X4_put g_coats_sorts g_places n0 n1 (((10 : Int32) * n2) + n3)) (fun (x9 : Int32) (g_places_10 : (Nat → Nat → Int32)) => dq_if (x9 = 0) (some ((-12 : Int32), g_places_10, g_refused)) (some ((1 : Int32), g_places_10, g_refused)))) (some (x6, g_places, g_refused)))) (dq_bd2 (f_X6_refuse g_refused (-6 : Int32)) (fun (x13 : Int32) (g_refused_14 : (Nat → Int32)) => some (x13, g_places, g_refused_14)))) (dq_bd2 (f_X6_refuse g_refused (-4 : Int32)) (fun (x16 : Int32) (g_refused_17 : (Nat → Int32)) => some (x16, g_places, g_refused_17)))
noncomputable def f_X6_hangs (g_coats_sorts : (Nat → Int32)) (g_coats_sizes : (Nat → Int32)) (g_places : (Nat → Nat → Int32)) (g_refused : (Nat → Int32)) (n0 : Int32) (n1 : Int32) (n2 : Int32) (n3 : Int32) : Option (Int32 × (Nat → Nat → Int32) × (Nat → Int32)) := dq_bd (f_X6_isPeg n0) (fun (x1 : Int32) => dq_if (x1 = 0) (dq_bd2 (f_X6_refuse g_refused (-1 : Int32)) (fun (x24 : Int32) (g_refused_25 : (Nat → Int32)) => some (x24, g_places, g_refused_25))) (dq_if (n2 = (1 : Int32)) (f_X6_hangs_b30 n0 n1 n2 n3 g_coats_sorts g_coats_sizes g_places g_refused) (dq_if (n2 = (2 : Int32)) (f_X6_hangs_b30 n0 n1 n2 n3 g_coats_sorts g_coats_sizes g_places g_refused) (dq_bd2 (f_X6_refuse g_refused (-2 : Int32)) (fun (x21 : Int32) (g_refused_22 : (Nat → Int32)) => some (x21, g_places, g_refused_22))))))
-- DraughtsTake.hangs(IIII)I
set_option maxHeartbeats 4000000 in
set_option maxRecDepth 100000 in
theorem m_X6_hangs (l : Launch) (D : va_G) (y : Nat → ClassId) (a : (Nat → Nat)) (g_hasImage : Int32) (g_toldCount : Int32) (g_coats_sorts : (Nat → Int32)) (g_coats_sizes : (Nat → Int32)) (g_places : (Nat → Nat → Int32)) (g_coats_carried : (Nat → Int32)) (g_refused : (Nat → Int32)) (n0 : Int32) (n1 : Int32) (n2 : Int32) (n3 : Int32) (z0 : Int32) (z1 : (Nat → Nat → Int32)) (z2 : (Nat → Int32)) (hf : f_X6_hangs g_coats_sorts g_coats_sizes g_places g_refused n0 n1 n2 n3 = some (z0, z1, z2)) : Ct l D y yX6_hangs wsX6_hangs 2 45 [.ref (a 0), .int n0, .int n1, .int n2, .int n3] (w_X6_hangs y a g_hasImage g_toldCount g_coats_sorts g_coats_sizes g_places g_coats_carried g_refused) (w_X6_hangs y a g_hasImage g_toldCount g_coats_sorts g_coats_sizes z1 g_coats_carried z2) (some (.int z0)) := by
  refine ct_head (cc := cX6_hangs) (n := 6) (ret := (some .int)) (by decide) rfl (Nat.le_of_ble_eq_true rfl) ?_
  intro p e s m below meth c A ls hx hb hr hml hown hlocks hts hA hAe hP hK hD hl
  have hS : va_S A s.heap s.heap [] := va_S.rf
  have hl : lv_has ls 6 [(0, .ref (a 0)), (1, .int n0), (2, .int n1), (3, .int n2), (4, .int n3)] := hl
  have hown : s.vm.findClass RX6 = some m.cls := hown
  have hw1 := hts (.fieldLink RX6 39 "DraughtsTake" "coats" "LDraughtsTake$Pegs;") (List.mem_of_getElem? (i := 1) rfl)
  have hiX6 : ∀ w ∈ wsX60, w ∈ wsX6_hangs := fun w h => List.mem_cons_of_mem _ (List.mem_append_left _ (List.mem_append_right _ (h)))
  unfold f_X6_hangs at hf
  refine lv_iload_n hx hb dX6_hangs_0 rfl (lv_at hl 1 rfl) ?_
  obtain ⟨x1, hy2, hf⟩ := dq_b hf
  refine ct_callS0 (own := RX6) (As := [.int n0]) (rest := []) ⟨hx, hb, hml, hown, hts⟩ (m_X6_isPeg l D y n0 x1 hy2) (va_cwS 1 hts gX6_hangs_X6_isPeg rfl rfl rfl (by decide +kernel) ⟨Nat.le_of_ble_eq_true rfl, Nat.le_of_ble_eq_true rfl⟩) rfl hl.1 rfl (Nat.le_of_ble_eq_true rfl) dX6_hangs_1 ⟨Nat.zero_le _, Nat.zero_le _⟩ hK hP hD hS hA (fun H locs hP hD hS => ?_)
  refine lv_if_ne (tgt := 13) hx hb dX6_hangs_4 (by decide) (fun c3 => ?_) (fun c3 => ?_)
  · have hf := dq_f hf c3
    clear c3
    refine lv_iload_n hx hb dX6_hangs_13 rfl (lv_at hl 3 rfl) ?_
    refine lv_iconst (v := 1) hx hb dX6_hangs_14 (by decide) ?_
    have J30 : f_X6_hangs_b30 n0 n1 n2 n3 g_coats_sorts g_coats_sizes g_places g_refused = some (z0, z1, z2) → ∀ (H : Heap) (locs : List Loc), va_P D vwCl (w_X6_hangs y a g_hasImage g_toldCount g_coats_sorts g_coats_sizes g_places g_coats_carried g_refused) H → va_D A (w_X6_hangs y a g_hasImage g_toldCount g_coats_sorts g_coats_sizes g_places g_coats_carried g_refused) → va_S A s.heap H locs → ∀ ls : Array Slot, lv_has ls 6 [(0, .ref (a 0)), (1, .int n0), (2, .int n1), (3, .int n2), (4, .int n3)] → W p l e ({ frames := 2, cells := 0, slots := 0, locals := 45 } : Room) s m [.ref (a 0), .int n0, .int n1, .int n2, .int n3].toArray below meth c H locs 0 0 (MQ below (dQ D y (some (.int z0)) s.heap.size (w_X6_hangs y a g_hasImage g_toldCount g_coats_sorts g_coats_sizes g_places g_coats_carried g_refused) (w_X6_hangs y a g_hasImage g_toldCount g_coats_sorts g_coats_sizes z1 g_coats_carried z2)) [.ref (a 0), .int n0, .int n1, .int n2, .int n3].toArray s 0 0 A) (F0 m 30 ls []) := by
      intro  hf H locs hP hD hS ls hl
      unfold f_X6_hangs_b30 at hf
      refine lv_iload hx hb dX6_hangs_30 (lv_at hl 4 rfl) ?_
      refine lv_if_ge (tgt := 42) hx hb dX6_hangs_32 (by decide) (fun c4 => ?_) (fun c4 => ?_)
      · have hf := dq_t hf c4
        clear c4
        refine lv_iload hx hb dX6_hangs_42 (lv_at hl 4 rfl) ?_
        refine lv_bipush (v := 9) hx hb dX6_hangs_44 (by decide) ?_
        refine lv_icmp_le (tgt := 56) hx hb dX6_hangs_46 (by decide) (fun c5 => ?_) (fun c5 => ?_)
        · have hf := dq_t hf c5
          clear c5
          refine lv_aload_n hx hb dX6_hangs_56 rfl (lv_at hl 0 rfl) ?_
          refine va_get (D := D) (ci := 5) (v := .ref (a 126)) (C := RX6) (T := TX6) (N := 12) hx hb hts hiX6 hown hK hP 0 rfl rfl 6 (by decide) hw1 (fun _ h9 => h9) rfl dX6_hangs_57 ?_
          refine lv_iload_n hx hb dX6_hangs_60 rfl (lv_at hl 1 rfl) ?_
          refine lv_iload_n hx hb dX6_hangs_61 rfl (lv_at hl 2 rfl) ?_
          obtain ⟨x6, hy7, hf⟩ := dq_b hf
          refine ct_callV (ci := 3) (q0 := 0) (own := RX6) (As := [.int n0, .int n1]) (rest := []) (ws' := (w_X6_hangs y a g_hasImage g_toldCount g_coats_sorts g_coats_sizes g_places g_coats_carried g_refused)) ⟨hx, hb, hml, hown, hts⟩ (m_X4_placeFault l D y (fun k => a (126 + k)) g_coats_sorts g_coats_sizes g_places g_coats_carried n0 n1 x6 hy7) (cwV 2 hts gX6_hangs_X4_placeFault rfl rfl rfl (by decide +kernel) ⟨Nat.le_of_ble_eq_true rfl, Nat.le_of_ble_eq_true rfl⟩) rfl rfl rfl hl.1 rfl (Nat.le_of_ble_eq_true rfl) dX6_hangs_62 ⟨Nat.zero_le _, Nat.zero_le _⟩ hK hP hD hS hA [1, 2, 3, 4, 5, 6, 7, 8] [0, 9] rfl rfl rfl (by decide) (by decide) 10 rfl (by decide +kernel) (fun H locs hP hD hS => ?_)
          refine lv_istore (lv' := [(5, .int x6), (0, .ref (a 0)), (1, .int n0), (2, .int n1), (3, .int n2), (4, .int n3)]) hx hb dX6_hangs_65 hl (by decide) rfl (fun ls hl => ?_)
          refine lv_iload hx hb dX6_hangs_67 (lv_at hl 0 rfl) ?_
          refine lv_if_eq (tgt := 75) hx hb dX6_hangs_69 (by decide) (fun c8 => ?_) (fun c8 => ?_)
          · have hf := dq_t hf c8
            clear c8
            refine lv_aload_n hx hb dX6_hangs_75 rfl (lv_at hl 1 rfl) ?_
            refine va_get (D := D) (ci := 5) (v := .ref (a 126)) (C := RX6) (T := TX6) (N := 12) hx hb hts hiX6 hown hK hP 0 rfl rfl 6 (by decide) hw1 (fun _ h9 => h9) rfl dX6_hangs_76 ?_
            refine lv_iload_n hx hb dX6_hangs_79 rfl (lv_at hl 2 rfl) ?_
            refine lv_iload_n hx hb dX6_hangs_80 rfl (lv_at hl 3 rfl) ?_
            refine lv_bipush (v := 10) hx hb dX6_hangs_81 (by decide) ?_
            refine lv_iload_n hx hb dX6_hangs_83 rfl (lv_at hl 4 rfl) ?_
            refine lv_imul hx hb dX6_hangs_84 ?_
            refine lv_iload hx hb dX6_hangs_85 (lv_at hl 5 rfl) ?_
            refine lv_iadd hx hb dX6_hangs_87 ?_
            obtain ⟨x9, g_places_10, hy11, hf⟩ := dq_b2 hf
            refine ct_callV (ci := 3) (q0 := 0) (own := RX6) (As := [.int n0, .int n1, .int (((10 : Int32) * n2) + n3)]) (rest := []) (ws' := (w_X6_hangs y a g_hasImage g_toldCount g_coats_sorts g_coats_sizes g_places_10 g_coats_carried g_refused)) ⟨hx, hb, hml, hown, hts⟩ (m_X4_put l D y (fun k => a (126 + k)) g_coats_sorts g_coats_sizes g_places g_coats_carried n0 n1 (((10 : Int32) * n2) + n3) x9 g_places_10 hy11) (cwV 3 hts gX6_hangs_X4_put rfl rfl rfl (by decide +kernel) ⟨Nat.le_of_ble_eq_true rfl, Nat.le_of_ble_eq_true rfl⟩) rfl rfl rfl hl.1 rfl (Nat.le_of_ble_eq_true rfl) dX6_hangs_88 ⟨Nat.zero_le _, Nat.zero_le _⟩ hK hP hD hS hA [1, 2, 3, 4, 5, 6, 7, 8] [0, 9] rfl rfl rfl (by decide) (by decide) 10 rfl (by decide +kernel) (fun H locs hP hD hS => ?_)
            refine lv_if_eq (tgt := 98) hx hb dX6_hangs_91 (by decide) (fun c12 => ?_) (fun c12 => ?_)
            · have hf := dq_t hf c12
              clear c12
              refine lv_bipush (v := -12) hx hb dX6_hangs_98 (by decide) ?_
              obtain ⟨rfl, rfl, rfl⟩ := dq_r3 hf
              exact ct_iret hx hb hr hlocks hAe hP hK hD hS dX6_hangs_100
            · have hf := dq_f hf c12
              clear c12
              refine lv_iconst (v := 1) hx hb dX6_hangs_94 (by decide) ?_
              refine lv_goto (tgt := 100) hx hb dX6_hangs_95 (by decide) ?_
              obtain ⟨rfl, rfl, rfl⟩ := dq_r3 hf
              exact ct_iret hx hb hr hlocks hAe hP hK hD hS dX6_hangs_100
          · have hf := dq_f hf c8
            clear c8
            refine lv_iload hx hb dX6_hangs_72 (lv_at hl 0 rfl) ?_
            obtain ⟨rfl, rfl, rfl⟩ := dq_r3 hf
            exact ct_iret hx hb hr hlocks hAe hP hK hD hS dX6_hangs_74
        · have hf := dq_f hf c5
          clear c5
          refine lv_aload_n hx hb dX6_hangs_49 rfl (lv_at hl 0 rfl) ?_
          refine lv_bipush (v := -6) hx hb dX6_hangs_50 (by decide) ?_
          obtain ⟨x13, g_refused_14, hy15, hf⟩ := dq_b2 hf
          refine ct_callV (ci := 5) (q0 := 0) (own := RX6) (As := [.int (-6 : Int32)]) (rest := []) (ws' := (w_X6_hangs y a g_hasImage g_toldCount g_coats_sorts g_coats_sizes g_places g_coats_carried g_refused_14)) ⟨hx, hb, hml, hown, hts⟩ (m_X6_refuse l D y a g_hasImage g_toldCount g_refused (-6 : Int32) x13 g_refused_14 hy15) (cwV 1 hts gX6_hangs_X6_refuse rfl rfl rfl (by decide +kernel) ⟨Nat.le_of_ble_eq_true rfl, Nat.le_of_ble_eq_true rfl⟩) rfl rfl rfl hl.1 rfl (Nat.le_of_ble_eq_true rfl) dX6_hangs_52 ⟨Nat.zero_le _, Nat.zero_le _⟩ hK hP hD hS hA [0, 9] [1, 2, 3, 4, 5, 6, 7, 8] rfl rfl rfl (by decide) (by decide) 10 rfl (by decide +kernel) (fun H locs hP hD hS => ?_)
          obtain ⟨rfl, rfl, rfl⟩ := dq_r3 hf
          exact ct_iret hx hb hr hlocks hAe hP hK hD hS dX6_hangs_55
      · have hf := dq_f hf c4
        clear c4
        refine lv_aload_n hx hb dX6_hangs_35 rfl (lv_at hl 0 rfl) ?_
        refine lv_bipush (v := -4) hx hb dX6_hangs_36 (by decide) ?_
        obtain ⟨x16, g_refused_17, hy18, hf⟩ := dq_b2 hf
        refine ct_callV (ci := 5) (q0 := 0) (own := RX6) (As := [.int (-4 : Int32)]) (rest := []) (ws' := (w_X6_hangs y a g_hasImage g_toldCount g_coats_sorts g_coats_sizes g_places g_coats_carried g_refused_17)) ⟨hx, hb, hml, hown, hts⟩ (m_X6_refuse l D y a g_hasImage g_toldCount g_refused (-4 : Int32) x16 g_refused_17 hy18) (cwV 1 hts gX6_hangs_X6_refuse rfl rfl rfl (by decide +kernel) ⟨Nat.le_of_ble_eq_true rfl, Nat.le_of_ble_eq_true rfl⟩) rfl rfl rfl hl.1 rfl (Nat.le_of_ble_eq_true rfl) dX6_hangs_38 ⟨Nat.zero_le _, Nat.zero_le _⟩ hK hP hD hS hA [0, 9] [1, 2, 3, 4, 5, 6, 7, 8] rfl rfl rfl (by decide) (by decide) 10 rfl (by decide +kernel) (fun H locs hP hD hS => ?_)
        obtain ⟨rfl, rfl, rfl⟩ := dq_r3 hf
        exact ct_iret hx hb hr hlocks hAe hP hK hD hS dX6_hangs_41
    refine lv_icmp_eq (tgt := 30) hx hb dX6_hangs_15 (by decide) (fun c19 => ?_) (fun c19 => ?_)
    · have hf := dq_t hf c19
      clear c19
      exact J30  hf _ _ hP hD hS _ (lv_sub hl [0, 1, 2, 3, 4] rfl)
    · have hf := dq_f hf c19
      clear c19
      refine lv_iload_n hx hb dX6_hangs_18 rfl (lv_at hl 3 rfl) ?_
      refine lv_iconst (v := 2) hx hb dX6_hangs_19 (by decide) ?_
      refine lv_icmp_eq (tgt := 30) hx hb dX6_hangs_20 (by decide) (fun c20 => ?_) (fun c20 => ?_)
      · have hf := dq_t hf c20
        clear c20
        exact J30  hf _ _ hP hD hS _ (lv_sub hl [0, 1, 2, 3, 4] rfl)
      · have hf := dq_f hf c20
        clear c20
        refine lv_aload_n hx hb dX6_hangs_23 rfl (lv_at hl 0 rfl) ?_
        refine lv_bipush (v := -2) hx hb dX6_hangs_24 (by decide) ?_
        obtain ⟨x21, g_refused_22, hy23, hf⟩ := dq_b2 hf
        refine ct_callV (ci := 5) (q0 := 0) (own := RX6) (As := [.int (-2 : Int32)]) (rest := []) (ws' := (w_X6_hangs y a g_hasImage g_toldCount g_coats_sorts g_coats_sizes g_places g_coats_carried g_refused_22)) ⟨hx, hb, hml, hown, hts⟩ (m_X6_refuse l D y a g_hasImage g_toldCount g_refused (-2 : Int32) x21 g_refused_22 hy23) (cwV 1 hts gX6_hangs_X6_refuse rfl rfl rfl (by decide +kernel) ⟨Nat.le_of_ble_eq_true rfl, Nat.le_of_ble_eq_true rfl⟩) rfl rfl rfl hl.1 rfl (Nat.le_of_ble_eq_true rfl) dX6_hangs_26 ⟨Nat.zero_le _, Nat.zero_le _⟩ hK hP hD hS hA [0, 9] [1, 2, 3, 4, 5, 6, 7, 8] rfl rfl rfl (by decide) (by decide) 10 rfl (by decide +kernel) (fun H locs hP hD hS => ?_)
        obtain ⟨rfl, rfl, rfl⟩ := dq_r3 hf
        exact ct_iret hx hb hr hlocks hAe hP hK hD hS dX6_hangs_29
  · have hf := dq_t hf c3
    clear c3
    refine lv_aload_n hx hb dX6_hangs_7 rfl (lv_at hl 0 rfl) ?_
    refine lv_iconst (v := -1) hx hb dX6_hangs_8 (by decide) ?_
    obtain ⟨x24, g_refused_25, hy26, hf⟩ := dq_b2 hf
    refine ct_callV (ci := 5) (q0 := 0) (own := RX6) (As := [.int (-1 : Int32)]) (rest := []) (ws' := (w_X6_hangs y a g_hasImage g_toldCount g_coats_sorts g_coats_sizes g_places g_coats_carried g_refused_25)) ⟨hx, hb, hml, hown, hts⟩ (m_X6_refuse l D y a g_hasImage g_toldCount g_refused (-1 : Int32) x24 g_refused_25 hy26) (cwV 1 hts gX6_hangs_X6_refuse rfl rfl rfl (by decide +kernel) ⟨Nat.le_of_ble_eq_true rfl, Nat.le_of_ble_eq_true rfl⟩) rfl rfl rfl hl.1 rfl (Nat.le_of_ble_eq_true rfl) dX6_hangs_9 ⟨Nat.zero_le _, Nat.zero_le _⟩ hK hP hD hS hA [0, 9] [1, 2, 3, 4, 5, 6, 7, 8] rfl rfl rfl (by decide) (by decide) 10 rfl (by decide +kernel) (fun H locs hP hD hS => ?_)
    obtain ⟨rfl, rfl, rfl⟩ := dq_r3 hf
    exact ct_iret hx hb hr hlocks hAe hP hK hD hS dX6_hangs_12
def w_X6_coat (y : Nat → ClassId) (a : Nat → Nat) (g_hasImage : Int32) (g_toldCount : Int32) (g_coats_sorts : (Nat → Int32)) (g_coats_sizes : (Nat → Int32)) (g_places : (Nat → Nat → Int32)) (g_coats_carried : (Nat → Int32)) (g_refused : (Nat → Int32)) : va_W := [((a 0), .inr (5, [.ref (a 1), .ref (a 12), .ref (a 23), .int g_hasImage, .ref (a 34), .ref (a 124), .ref (a 126), .ref (a 134), .int g_toldCount, .ref (a 135), .ref (a 136), .ref (a 137)])), ((a 126), .inr (3, [.ref (a 127), .ref (a 128), .ref (a 129), .ref (a 133)])), ((a 127), .inl (y 1, 3, .inl g_coats_sorts)), ((a 128), .inl (y 1, 3, .inl g_coats_sizes)), ((a 129), .inl (y 4, 3, .inr (.inr (.inr (.inr (fun i => if i < 3 then some (a (126 + (4 + i))) else none)))))), ((a 130), .inl (y 1, 12, .inl (g_places 0))), ((a 131), .inl (y 1, 12, .inl (g_places 1))), ((a 132), .inl (y 1, 12, .inl (g_places 2))), ((a 133), .inl (y 1, 12, .inl g_coats_carried)), ((a 135), .inl (y 1, 7, .inl g_refused))]
noncomputable def f_X6_coat (g_coats_sizes : (Nat → Int32)) (g_places : (Nat → Nat → Int32)) (g_refused : (Nat → Int32)) (n0 : Int32) (n1 : Int32) : Option (Int32 × (Nat → Int32)) := dq_bd (f_X6_isPeg n0) (fun (x1 : Int32) => dq_if (x1 = 0) (dq_bd2 (f_X6_refuse g_refused (-1 : Int32)) (fun (x13 : Int32) (g_refused_14 : (Nat → Int32)) => some (x13, g_refused_14))) (dq_bd (f_X4_coatFault g_coats_sizes g_places n0 n1) (fun (x4 : Int32) => dq_if (x4 = 0) (dq_gd (vp_in n0 3) (dq_gd (vp_in n1 12) (some (((g_places n0.toNatClampNeg) n1.toNatClampNeg), g_refused)))) (some (x4, g_refused)))))
-- DraughtsTake.coat(II)I
set_option maxHeartbeats 4000000 in
set_option maxRecDepth 100000 in
theorem m_X6_coat (l : Launch) (D : va_G) (y : Nat → ClassId) (a : (Nat → Nat)) (g_hasImage : Int32) (g_toldCount : Int32) (g_coats_sorts : (Nat → Int32)) (g_coats_sizes : (Nat → Int32)) (g_places : (Nat → Nat → Int32)) (g_coats_carried : (Nat → Int32)) (g_refused : (Nat → Int32)) (n0 : Int32) (n1 : Int32) (z0 : Int32) (z1 : (Nat → Int32)) (hf : f_X6_coat g_coats_sizes g_places g_refused n0 n1 = some (z0, z1)) : Ct l D y yX6_coat wsX6_coat 3 68 [.ref (a 0), .int n0, .int n1] (w_X6_coat y a g_hasImage g_toldCount g_coats_sorts g_coats_sizes g_places g_coats_carried g_refused) (w_X6_coat y a g_hasImage g_toldCount g_coats_sorts g_coats_sizes g_places g_coats_carried z1) (some (.int z0)) := by
  refine ct_head (cc := cX6_coat) (n := 4) (ret := (some .int)) (by decide) rfl (Nat.le_of_ble_eq_true rfl) ?_
  intro p e s m below meth c A ls hx hb hr hml hown hlocks hts hA hAe hP hK hD hl
  have hS : va_S A s.heap s.heap [] := va_S.rf
  have hl : lv_has ls 4 [(0, .ref (a 0)), (1, .int n0), (2, .int n1)] := hl
  have hown : s.vm.findClass RX6 = some m.cls := hown
  have hw1 := hts (.fieldLink RX6 39 "DraughtsTake" "coats" "LDraughtsTake$Pegs;") (List.mem_of_getElem? (i := 1) rfl)
  have hw2 := hts (.fieldLink RX6 276 "DraughtsTake$Pegs" "places" "[[I") (List.mem_of_getElem? (i := 2) rfl)
  have hiX6 : ∀ w ∈ wsX60, w ∈ wsX6_coat := fun w h => List.mem_cons_of_mem _ (List.mem_append_left _ (List.mem_append_right _ (h)))
  have hiX4 : ∀ w ∈ wsX40, w ∈ wsX6_coat := fun w h => List.mem_cons_of_mem _ (List.mem_append_right _ (h))
  unfold f_X6_coat at hf
  refine lv_iload_n hx hb dX6_coat_0 rfl (lv_at hl 1 rfl) ?_
  obtain ⟨x1, hy2, hf⟩ := dq_b hf
  refine ct_callS0 (own := RX6) (As := [.int n0]) (rest := []) ⟨hx, hb, hml, hown, hts⟩ (m_X6_isPeg l D y n0 x1 hy2) (va_cwS 1 hts gX6_coat_X6_isPeg rfl rfl rfl (by decide +kernel) ⟨Nat.le_of_ble_eq_true rfl, Nat.le_of_ble_eq_true rfl⟩) rfl hl.1 rfl (Nat.le_of_ble_eq_true rfl) dX6_coat_1 ⟨Nat.zero_le _, Nat.zero_le _⟩ hK hP hD hS hA (fun H locs hP hD hS => ?_)
  refine lv_if_ne (tgt := 13) hx hb dX6_coat_4 (by decide) (fun c3 => ?_) (fun c3 => ?_)
  · have hf := dq_f hf c3
    clear c3
    refine lv_aload_n hx hb dX6_coat_13 rfl (lv_at hl 0 rfl) ?_
    refine va_get (D := D) (ci := 5) (v := .ref (a 126)) (C := RX6) (T := TX6) (N := 12) hx hb hts hiX6 hown hK hP 0 rfl rfl 6 (by decide) hw1 (fun _ h9 => h9) rfl dX6_coat_14 ?_
    refine lv_iload_n hx hb dX6_coat_17 rfl (lv_at hl 1 rfl) ?_
    refine lv_iload_n hx hb dX6_coat_18 rfl (lv_at hl 2 rfl) ?_
    obtain ⟨x4, hy5, hf⟩ := dq_b hf
    refine ct_callV (ci := 3) (q0 := 0) (own := RX6) (As := [.int n0, .int n1]) (rest := []) (ws' := (w_X6_coat y a g_hasImage g_toldCount g_coats_sorts g_coats_sizes g_places g_coats_carried g_refused)) ⟨hx, hb, hml, hown, hts⟩ (m_X4_coatFault l D y (fun k => a (126 + k)) g_coats_sorts g_coats_sizes g_places g_coats_carried n0 n1 x4 hy5) (cwV 2 hts gX6_coat_X4_coatFault rfl rfl rfl (by decide +kernel) ⟨Nat.le_of_ble_eq_true rfl, Nat.le_of_ble_eq_true rfl⟩) rfl rfl rfl hl.1 rfl (Nat.le_of_ble_eq_true rfl) dX6_coat_19 ⟨Nat.zero_le _, Nat.zero_le _⟩ hK hP hD hS hA [1, 2, 3, 4, 5, 6, 7, 8] [0, 9] rfl rfl rfl (by decide) (by decide) 10 rfl (by decide +kernel) (fun H locs hP hD hS => ?_)
    refine lv_istore_n (lv' := [(3, .int x4), (0, .ref (a 0)), (1, .int n0), (2, .int n1)]) hx hb dX6_coat_22 rfl hl (by decide) rfl (fun ls hl => ?_)
    refine lv_iload_n hx hb dX6_coat_23 rfl (lv_at hl 0 rfl) ?_
    refine lv_if_eq (tgt := 31) hx hb dX6_coat_24 (by decide) (fun c6 => ?_) (fun c6 => ?_)
    · have hf := dq_t hf c6
      clear c6
      refine lv_aload_n hx hb dX6_coat_31 rfl (lv_at hl 1 rfl) ?_
      refine va_get (D := D) (ci := 5) (v := .ref (a 126)) (C := RX6) (T := TX6) (N := 12) hx hb hts hiX6 hown hK hP 0 rfl rfl 6 (by decide) hw1 (fun _ h9 => h9) rfl dX6_coat_32 ?_
      refine va_get (D := D) (ci := 3) (v := .ref (a 129)) (C := RX4) (T := TX4) (N := 4) hx hb hts hiX4 hown hK hP 1 rfl rfl 2 (by decide) hw2 (fun _ h9 => h9) rfl dX6_coat_35 ?_
      refine lv_iload_n hx hb dX6_coat_38 rfl (lv_at hl 2 rfl) ?_
      obtain ⟨h7, hf⟩ := dq_g hf
      obtain ⟨j9, hjj9, ej9⟩ := dq_ix h7
      have hjj9 : j9 = 0 ∨ j9 = 1 ∨ j9 = 2 := by omega
      rcases hjj9 with rfl | rfl | rfl
      · try rw [ej9] at hf
        refine dq_aldI (cA := y 4) (n := 3) (b := (a 130)) (f := (fun i => if i < 3 then some (a (126 + (4 + i))) else none)) hx hb hK hP 4 4 rfl rfl h7 (by rw [ej9]; rfl) dX6_coat_39 ?_
        refine lv_iload_n hx hb dX6_coat_40 rfl (lv_at hl 3 rfl) ?_
        obtain ⟨h10, hf⟩ := dq_g hf
        refine va_iald (cA := y 1) (n := 12) (f := (g_places 0)) hx hb hK hP 5 1 rfl rfl h10 dX6_coat_41 ?_
        obtain ⟨rfl, rfl⟩ := dq_r2 hf
        exact ct_iret hx hb hr hlocks hAe hP hK hD hS dX6_coat_42
      · try rw [ej9] at hf
        refine dq_aldI (cA := y 4) (n := 3) (b := (a 131)) (f := (fun i => if i < 3 then some (a (126 + (4 + i))) else none)) hx hb hK hP 4 4 rfl rfl h7 (by rw [ej9]; rfl) dX6_coat_39 ?_
        refine lv_iload_n hx hb dX6_coat_40 rfl (lv_at hl 3 rfl) ?_
        obtain ⟨h11, hf⟩ := dq_g hf
        refine va_iald (cA := y 1) (n := 12) (f := (g_places 1)) hx hb hK hP 6 1 rfl rfl h11 dX6_coat_41 ?_
        obtain ⟨rfl, rfl⟩ := dq_r2 hf
        exact ct_iret hx hb hr hlocks hAe hP hK hD hS dX6_coat_42
      · try rw [ej9] at hf
        refine dq_aldI (cA := y 4) (n := 3) (b := (a 132)) (f := (fun i => if i < 3 then some (a (126 + (4 + i))) else none)) hx hb hK hP 4 4 rfl rfl h7 (by rw [ej9]; rfl) dX6_coat_39 ?_
        refine lv_iload_n hx hb dX6_coat_40 rfl (lv_at hl 3 rfl) ?_
        obtain ⟨h12, hf⟩ := dq_g hf
        refine va_iald (cA := y 1) (n := 12) (f := (g_places 2)) hx hb hK hP 7 1 rfl rfl h12 dX6_coat_41 ?_
        obtain ⟨rfl, rfl⟩ := dq_r2 hf
        exact ct_iret hx hb hr hlocks hAe hP hK hD hS dX6_coat_42
    · have hf := dq_f hf c6
      clear c6
      refine lv_iload_n hx hb dX6_coat_27 rfl (lv_at hl 0 rfl) ?_
      refine lv_goto (tgt := 42) hx hb dX6_coat_28 (by decide) ?_
      obtain ⟨rfl, rfl⟩ := dq_r2 hf
      exact ct_iret hx hb hr hlocks hAe hP hK hD hS dX6_coat_42
  · have hf := dq_t hf c3
    clear c3
    refine lv_aload_n hx hb dX6_coat_7 rfl (lv_at hl 0 rfl) ?_
    refine lv_iconst (v := -1) hx hb dX6_coat_8 (by decide) ?_
    obtain ⟨x13, g_refused_14, hy15, hf⟩ := dq_b2 hf
    refine ct_callV (ci := 5) (q0 := 0) (own := RX6) (As := [.int (-1 : Int32)]) (rest := []) (ws' := (w_X6_coat y a g_hasImage g_toldCount g_coats_sorts g_coats_sizes g_places g_coats_carried g_refused_14)) ⟨hx, hb, hml, hown, hts⟩ (m_X6_refuse l D y a g_hasImage g_toldCount g_refused (-1 : Int32) x13 g_refused_14 hy15) (cwV 1 hts gX6_coat_X6_refuse rfl rfl rfl (by decide +kernel) ⟨Nat.le_of_ble_eq_true rfl, Nat.le_of_ble_eq_true rfl⟩) rfl rfl rfl hl.1 rfl (Nat.le_of_ble_eq_true rfl) dX6_coat_9 ⟨Nat.zero_le _, Nat.zero_le _⟩ hK hP hD hS hA [0, 9] [1, 2, 3, 4, 5, 6, 7, 8] rfl rfl rfl (by decide) (by decide) 10 rfl (by decide +kernel) (fun H locs hP hD hS => ?_)
    obtain ⟨rfl, rfl⟩ := dq_r2 hf
    exact ct_iret hx hb hr hlocks hAe hP hK hD hS dX6_coat_12
