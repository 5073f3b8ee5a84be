noncomputable def f_X6_isOnBehind_b14 (n0 : Int32) (n1 : Int32) (n2 : Int32) (g_m_shutBits_1 : Int64) (g_m_airs_2 : Int32) (g_m_sitters_4 : Int32) (g_m_kind_9 : (Nat → Int32)) (g_m_figure_10 : (Nat → Int32)) (g_m_seat_13 : (Nat → Int32)) (g_m_count_15 : Int32) (g_m_steps_16 : (Nat → Int32)) (g_m_numbers_17 : (Nat → Int32))  : Nat → Int32 → Int32 → Int32 → Int32 → Int32 → (Nat → UInt32) → (Nat → Int32) → (Nat → Int32) → (Nat → Int32) → Option (Int32 × Int64 × Int32 × Int32 × Int32 × Int32 × Int32 × Int32 × (Nat → UInt32) × (Nat → Int32) × (Nat → Int32) × (Nat → Int32) × (Nat → Int32) × (Nat → Int32) × (Nat → Int32) × Int32 × (Nat → Int32) × (Nat → Int32))
  | 0, _, _, _, _, _, _, _, _, _ => none
  | m14 + 1, x19, g_m_crownedBits_20, g_m_onBits_21, g_m_turn_22, g_m_taken_23, g_m_warmth_24, g_m_airCell_25, g_m_way_26, g_m_shawls_27 => dq_if (n1 ≤ x19) (dq_bd (f_X2_isOn g_m_onBits_21 n0) (fun (x29 : Int32) => dq_gd (dq_z x29) (some (x29, g_m_shutBits_1, g_m_airs_2, g_m_crownedBits_20, g_m_sitters_4, g_m_onBits_21, g_m_turn_22, g_m_taken_23, g_m_warmth_24, g_m_kind_9, g_m_figure_10, g_m_airCell_25, g_m_way_26, g_m_seat_13, g_m_shawls_27, g_m_count_15, g_m_steps_16, g_m_numbers_17)))) (dq_bd (f_X2_isOn g_m_onBits_21 n0) (fun (x32 : Int32) => dq_if (x32 = 0) (dq_bd (f_X2_isOn g_m_onBits_21 n0) (fun (x35 : Int32) => dq_gd (dq_z x35) (some (x35, g_m_shutBits_1, g_m_airs_2, g_m_crownedBits_20, g_m_sitters_4, g_m_onBits_21, g_m_turn_22, g_m_taken_23, g_m_warmth_24, g_m_kind_9, g_m_figure_10, g_m_airCell_25, g_m_way_26, g_m_seat_13, g_m_shawls_27, g_m_count_15, g_m_steps_16, g_m_numbers_17)))) (dq_if (((n2 >>> (x19 &&& 31)) &&& (1 : Int32)) = (1 : Int32)) (dq_bd3 (f_X2_goOnStill g_m_sitters_4 g_m_onBits_21 g_m_turn_22 g_m_warmth_24 g_m_seat_13 g_m_shawls_27 g_m_count_15 g_m_steps_16 g_m_numbers_17) (fun (g_m_onBits_49 : Int32) (g_m_turn_50 : Int32) (g_m_warmth_51 : (Nat → UInt32)) => dq_let (x19 + (1 : Int32)) (fun (x53 : Int32) => (f_X6_isOnBehind_b14 n0 n1 n2 g_m_shutBits_1 g_m_airs_2 g_m_sitters_4 g_m_kind_9 g_m_figure_10 g_m_seat_13 g_m_count_15 g_m_steps_16 g_m_numbers_17 m14) x53 g_m_crownedBits_20 g_m_onBits_49 g_m_turn_50 g_m_taken_23 g_m_warmth_51 g_m_airCell_25 g_m_way_26 g_m_shawls_27))) (dq_bd8 (f_X2_goOn g_m_shutBits_1 g_m_airs_2 g_m_crownedBits_20 g_m_sitters_4 g_m_onBits_21 g_m_turn_22 g_m_taken_23 g_m_warmth_24 g_m_kind_9 g_m_figure_10 g_m_airCell_25 g_m_way_26 g_m_seat_13 g_m_shawls_27 g_m_count_15 g_m_steps_16 g_m_numbers_17 (1 : Int32)) (fun (g_m_crownedBits_39 : Int32) (g_m_onBits_40 : Int32) (g_m_turn_41 : Int32) (g_m_taken_42 : Int32) (g_m_warmth_43 : (Nat → UInt32)) (g_m_airCell_44 : (Nat → Int32)) (g_m_way_45 : (Nat → Int32)) (g_m_shawls_46 : (Nat → Int32)) => dq_let (x19 + (1 : Int32)) (fun (x48 : Int32) => (f_X6_isOnBehind_b14 n0 n1 n2 g_m_shutBits_1 g_m_airs_2 g_m_sitters_4 g_m_kind_9 g_m_figure_10 g_m_seat_13 g_m_count_15 g_m_steps_16 g_m_numbers_17 m14) x48 g_m_crownedBits_39 g_m_onBits_40 g_m_turn_41 g_m_taken_42 g_m_warmth_43 g_m_airCell_44 g_m_way_45 g_m_shawls_46))))))
noncomputable def f_X6_isOnBehind (g_n_shutBits : Int64) (g_n_airs : Int32) (g_n_crownedBits : Int32) (g_n_sitters : Int32) (g_n_onBits : Int32) (g_n_turn : Int32) (g_n_taken : Int32) (g_n_warmth : (Nat → UInt32)) (g_n_kind : (Nat → Int32)) (g_n_figure : (Nat → Int32)) (g_n_airCell : (Nat → Int32)) (g_n_way : (Nat → Int32)) (g_n_seat : (Nat → Int32)) (g_n_shawls : (Nat → Int32)) (g_n_count : Int32) (g_n_steps : (Nat → Int32)) (g_n_numbers : (Nat → Int32)) (g_m_warmth : (Nat → UInt32)) (g_m_kind : (Nat → Int32)) (g_m_figure : (Nat → Int32)) (g_m_airCell : (Nat → Int32)) (g_m_way : (Nat → Int32)) (g_m_seat : (Nat → Int32)) (g_m_shawls : (Nat → Int32)) (g_m_steps : (Nat → Int32)) (g_m_numbers : (Nat → Int32)) (n0 : Int32) (n1 : Int32) (n2 : Int32) : Option (Int32 × Int64 × Int32 × Int32 × Int32 × Int32 × Int32 × Int32 × (Nat → UInt32) × (Nat → Int32) × (Nat → Int32) × (Nat → Int32) × (Nat → Int32) × (Nat → Int32) × (Nat → Int32) × Int32 × (Nat → Int32) × (Nat → Int32)) := dq_bd17 (f_X2_take g_m_warmth g_m_kind g_m_figure g_m_airCell g_m_way g_m_seat g_m_shawls g_m_steps g_m_numbers g_n_shutBits g_n_airs g_n_crownedBits g_n_sitters g_n_onBits g_n_turn g_n_taken g_n_warmth g_n_kind g_n_figure g_n_airCell g_n_way g_n_seat g_n_shawls g_n_count g_n_steps g_n_numbers) (fun (g_m_shutBits_1 : Int64) (g_m_airs_2 : Int32) (g_m_crownedBits_3 : Int32) (g_m_sitters_4 : Int32) (g_m_onBits_5 : Int32) (g_m_turn_6 : Int32) (g_m_taken_7 : Int32) (g_m_warmth_8 : (Nat → UInt32)) (g_m_kind_9 : (Nat → Int32)) (g_m_figure_10 : (Nat → Int32)) (g_m_airCell_11 : (Nat → Int32)) (g_m_way_12 : (Nat → Int32)) (g_m_seat_13 : (Nat → Int32)) (g_m_shawls_14 : (Nat → Int32)) (g_m_count_15 : Int32) (g_m_steps_16 : (Nat → Int32)) (g_m_numbers_17 : (Nat → Int32)) => f_X6_isOnBehind_b14 n0 n1 n2 g_m_shutBits_1 g_m_airs_2 g_m_sitters_4 g_m_kind_9 g_m_figure_10 g_m_seat_13 g_m_count_15 g_m_steps_16 g_m_numbers_17 4096 (0 : Int32) g_m_crownedBits_3 g_m_onBits_5 g_m_turn_6 g_m_taken_7 g_m_warmth_8 g_m_airCell_11 g_m_way_12 g_m_shawls_14)
def wA_X6_isOnBehind : List Cond := .code yX6_isOnBehind cX6_isOnBehind 5 (some .boolean) :: wsL_law
-- DraughtsTake.isOnBehind(III)Z
set_option maxHeartbeats 4000000 in
set_option maxRecDepth 100000 in
theorem m_X6_isOnBehind (l : Launch) (D : va_G) (y : Nat → ClassId) (a : (Nat → Nat)) (g_hasImage : Int32) (g_toldCount : Int32) (g_n_shutBits : Int64) (g_n_airs : Int32) (g_n_crownedBits : Int32) (g_n_sitters : Int32) (g_n_onBits : Int32) (g_n_turn : Int32) (g_n_taken : Int32) (g_n_warmth : (Nat → UInt32)) (g_n_kind : (Nat → Int32)) (g_n_figure : (Nat → Int32)) (g_n_airCell : (Nat → Int32)) (g_n_way : (Nat → Int32)) (g_n_seat : (Nat → Int32)) (g_n_shawls : (Nat → Int32)) (g_n_count : Int32) (g_n_steps : (Nat → Int32)) (g_n_numbers : (Nat → Int32)) (g_m_shutBits : Int64) (g_m_airs : Int32) (g_m_crownedBits : Int32) (g_m_sitters : Int32) (g_m_onBits : Int32) (g_m_turn : Int32) (g_m_taken : Int32) (g_m_warmth : (Nat → UInt32)) (g_m_kind : (Nat → Int32)) (g_m_figure : (Nat → Int32)) (g_m_airCell : (Nat → Int32)) (g_m_way : (Nat → Int32)) (g_m_seat : (Nat → Int32)) (g_m_shawls : (Nat → Int32)) (g_m_count : Int32) (g_m_steps : (Nat → Int32)) (g_m_numbers : (Nat → Int32)) (g_i_shutBits : Int64) (g_i_airs : Int32) (g_i_crownedBits : Int32) (g_i_sitters : Int32) (g_i_onBits : Int32) (g_i_turn : Int32) (g_i_taken : Int32) (g_i_warmth : (Nat → UInt32)) (g_i_kind : (Nat → Int32)) (g_i_figure : (Nat → Int32)) (g_i_airCell : (Nat → Int32)) (g_i_way : (Nat → Int32)) (g_i_seat : (Nat → Int32)) (g_i_shawls : (Nat → Int32)) (g_i_count : Int32) (g_i_steps : (Nat → Int32)) (g_i_numbers : (Nat → Int32)) (g_past_next : Int32) (g_past_count : Int32) (g_text_length : Int32) (g_text_letters : (Nat → Int32)) (g_coats_sorts : (Nat → Int32)) (g_coats_sizes : (Nat → Int32)) (g_places : (Nat → Nat → Int32)) (g_coats_carried : (Nat → Int32)) (g_told : (Nat → Int32)) (g_refused : (Nat → Int32)) (g_oneHas : (Nat → Int32)) (g_otherHas : (Nat → Int32)) (g_k_shutBits : (Nat → Int64)) (g_k_airs : (Nat → Int32)) (g_k_crownedBits : (Nat → Int32)) (g_k_sitters : (Nat → Int32)) (g_k_onBits : (Nat → Int32)) (g_k_turn : (Nat → Int32)) (g_k_taken : (Nat → Int32)) (g_k_warmth : (Nat → Nat → UInt32)) (g_k_kind : (Nat → Nat → Int32)) (g_k_figure : (Nat → Nat → Int32)) (g_k_airCell : (Nat → Nat → Int32)) (g_k_way : (Nat → Nat → Int32)) (g_k_seat : (Nat → Nat → Int32)) (g_k_shawls : (Nat → Nat → Int32)) (g_k_count : (Nat → Int32)) (g_k_steps : (Nat → Nat → Int32)) (g_k_numbers : (Nat → Nat → Int32)) (n0 : Int32) (n1 : Int32) (n2 : Int32) (z0 : Int32) (z1 : Int64) (z2 : Int32) (z3 : Int32) (z4 : Int32) (z5 : Int32) (z6 : Int32) (z7 : Int32) (z8 : (Nat → UInt32)) (z9 : (Nat → Int32)) (z10 : (Nat → Int32)) (z11 : (Nat → Int32)) (z12 : (Nat → Int32)) (z13 : (Nat → Int32)) (z14 : (Nat → Int32)) (z15 : Int32) (z16 : (Nat → Int32)) (z17 : (Nat → Int32)) (hf : f_X6_isOnBehind g_n_shutBits g_n_airs g_n_crownedBits g_n_sitters g_n_onBits g_n_turn g_n_taken g_n_warmth g_n_kind g_n_figure g_n_airCell g_n_way g_n_seat g_n_shawls g_n_count g_n_steps g_n_numbers g_m_warmth g_m_kind g_m_figure g_m_airCell g_m_way g_m_seat g_m_shawls g_m_steps g_m_numbers n0 n1 n2 = some (z0, z1, z2, z3, z4, z5, z6, z7, z8, z9, z10, z11, z12, z13, z14, z15, z16, z17)) : Ct l D y yX6_isOnBehind wA_X6_isOnBehind 5 118 [.ref (a 0), .int n0, .int n1, .int n2] ((w_X6 y a g_hasImage g_toldCount g_n_shutBits g_n_airs g_n_crownedBits g_n_sitters g_n_onBits g_n_turn g_n_taken g_n_warmth g_n_kind g_n_figure g_n_airCell g_n_way g_n_seat g_n_shawls g_n_count g_n_steps g_n_numbers g_m_shutBits g_m_airs g_m_crownedBits g_m_sitters g_m_onBits g_m_turn g_m_taken g_m_warmth g_m_kind g_m_figure g_m_airCell g_m_way g_m_seat g_m_shawls g_m_count g_m_steps g_m_numbers g_i_shutBits g_i_airs g_i_crownedBits g_i_sitters g_i_onBits g_i_turn g_i_taken g_i_warmth g_i_kind g_i_figure g_i_airCell g_i_way g_i_seat g_i_shawls g_i_count g_i_steps g_i_numbers g_past_next g_past_count g_text_length g_text_letters g_coats_sorts g_coats_sizes g_places g_coats_carried g_told g_refused g_oneHas g_otherHas) ++ (w_blob y (fun k => a (34 + (1 + k))) g_k_shutBits g_k_airs g_k_crownedBits g_k_sitters g_k_onBits g_k_turn g_k_taken g_k_warmth g_k_kind g_k_figure g_k_airCell g_k_way g_k_seat g_k_shawls g_k_count g_k_steps g_k_numbers)) ((w_X6 y a g_hasImage g_toldCount g_n_shutBits g_n_airs g_n_crownedBits g_n_sitters g_n_onBits g_n_turn g_n_taken g_n_warmth g_n_kind g_n_figure g_n_airCell g_n_way g_n_seat g_n_shawls g_n_count g_n_steps g_n_numbers z1 z2 z3 z4 z5 z6 z7 z8 z9 z10 z11 z12 z13 z14 z15 z16 z17 g_i_shutBits g_i_airs g_i_crownedBits g_i_sitters g_i_onBits g_i_turn g_i_taken g_i_warmth g_i_kind g_i_figure g_i_airCell g_i_way g_i_seat g_i_shawls g_i_count g_i_steps g_i_numbers g_past_next g_past_count g_text_length g_text_letters g_coats_sorts g_coats_sizes g_places g_coats_carried g_told g_refused g_oneHas g_otherHas) ++ (w_blob y (fun k => a (34 + (1 + k))) g_k_shutBits g_k_airs g_k_crownedBits g_k_sitters g_k_onBits g_k_turn g_k_taken g_k_warmth g_k_kind g_k_figure g_k_airCell g_k_way g_k_seat g_k_shawls g_k_count g_k_steps g_k_numbers)) (some (.int z0)) := by
  refine ct_head (cc := cX6_isOnBehind) (n := 5) (ret := (some .boolean)) (by decide) rfl (Nat.le_of_ble_eq_true rfl) ?_
  intro p e s m below meth c A ls hx hb hr hml hown hlocks hts hA hAe hP hK hD hl
  have hS : va_S A s.heap s.heap [] := va_S.rf
  have hl : lv_has ls 5 [(0, .ref (a 0)), (1, .int n0), (2, .int n1), (3, .int n2)] := hl
  have hown : s.vm.findClass RX6 = some m.cls := hown
  have hts : ∀ w ∈ wsL_law, w.before [.ref (a 0), .int n0, .int n1, .int n2].toArray s = true := fun w h => hts w (List.mem_cons_of_mem _ h)
  unfold f_X6_isOnBehind at hf
  refine lv_aload_n hx hb dX6_isOnBehind_0 rfl (lv_at hl 0 rfl) ?_
  refine va_get (D := D) (ci := 5) (v := .ref (a 12)) (C := RX6) (T := TX6) (N := 12) hx hb hts iwX6 hown hK hP 0 rfl rfl 1 (by decide) (hts _ wl_16) (fun _ h9 => h9) rfl dX6_isOnBehind_1 ?_
  refine lv_aload_n hx hb dX6_isOnBehind_4 rfl (lv_at hl 0 rfl) ?_
  refine va_get (D := D) (ci := 5) (v := .ref (a 1)) (C := RX6) (T := TX6) (N := 12) hx hb hts iwX6 hown hK hP 0 rfl rfl 0 (by decide) (hts _ wl_15) (fun _ h9 => h9) rfl dX6_isOnBehind_5 ?_
  obtain ⟨g_m_shutBits_1, g_m_airs_2, g_m_crownedBits_3, g_m_sitters_4, g_m_onBits_5, g_m_turn_6, g_m_taken_7, g_m_warmth_8, g_m_kind_9, g_m_figure_10, g_m_airCell_11, g_m_way_12, g_m_seat_13, g_m_shawls_14, g_m_count_15, g_m_steps_16, g_m_numbers_17, hy18, hf⟩ := dq_b17 hf
  refine ct_callVS (ci := 1) (q0 := 0) (own := RX6) (As := [.ref (a 1)]) (rest := []) (L' := (w_X6 y a g_hasImage g_toldCount g_n_shutBits g_n_airs g_n_crownedBits g_n_sitters g_n_onBits g_n_turn g_n_taken g_n_warmth g_n_kind g_n_figure g_n_airCell g_n_way g_n_seat g_n_shawls g_n_count g_n_steps g_n_numbers g_m_shutBits_1 g_m_airs_2 g_m_crownedBits_3 g_m_sitters_4 g_m_onBits_5 g_m_turn_6 g_m_taken_7 g_m_warmth_8 g_m_kind_9 g_m_figure_10 g_m_airCell_11 g_m_way_12 g_m_seat_13 g_m_shawls_14 g_m_count_15 g_m_steps_16 g_m_numbers_17 g_i_shutBits g_i_airs g_i_crownedBits g_i_sitters g_i_onBits g_i_turn g_i_taken g_i_warmth g_i_kind g_i_figure g_i_airCell g_i_way g_i_seat g_i_shawls g_i_count g_i_steps g_i_numbers g_past_next g_past_count g_text_length g_text_letters g_coats_sorts g_coats_sizes g_places g_coats_carried g_told g_refused g_oneHas g_otherHas)) (B := (w_blob y (fun k => a (34 + (1 + k))) g_k_shutBits g_k_airs g_k_crownedBits g_k_sitters g_k_onBits g_k_turn g_k_taken g_k_warmth g_k_kind g_k_figure g_k_airCell g_k_way g_k_seat g_k_shawls g_k_count g_k_steps g_k_numbers)) ⟨hx, hb, hml, hown, hts⟩ (m_X2_take l D y (fun k => a (12 + k)) (fun k => a (1 + k)) g_m_shutBits g_m_airs g_m_crownedBits g_m_sitters g_m_onBits g_m_turn g_m_taken g_m_warmth g_m_kind g_m_figure g_m_airCell g_m_way g_m_seat g_m_shawls g_m_count g_m_steps g_m_numbers g_n_shutBits g_n_airs g_n_crownedBits g_n_sitters g_n_onBits g_n_turn g_n_taken g_n_warmth g_n_kind g_n_figure g_n_airCell g_n_way g_n_seat g_n_shawls g_n_count g_n_steps g_n_numbers g_m_shutBits_1 g_m_airs_2 g_m_crownedBits_3 g_m_sitters_4 g_m_onBits_5 g_m_turn_6 g_m_taken_7 g_m_warmth_8 g_m_kind_9 g_m_figure_10 g_m_airCell_11 g_m_way_12 g_m_seat_13 g_m_shawls_14 g_m_count_15 g_m_steps_16 g_m_numbers_17 hy18) (cwV 1 hts (gA_V wl_176 wl_177 wl_178 wl_14 wl_179) rfl rfl rfl (by decide +kernel) ⟨Nat.le_of_ble_eq_true rfl, Nat.le_of_ble_eq_true rfl⟩) rfl rfl rfl hl.1 rfl (Nat.le_of_ble_eq_true rfl) dX6_isOnBehind_8 ⟨Nat.zero_le _, Nat.zero_le _⟩ hK hP hD hS hA (ct_tail 12 11 ++ ct_tail 1 11) rfl rfl (by decide) rfl (sg2 1 11 12 11 (by decide) rfl rfl rfl (fun i hi => fun q => hi ((List.mem_append.mp q).elim (fun r => List.mem_append_right _ r) (fun r => List.mem_append_left _ r)))) (fun H locs hP hD hS => ?_)
  refine lv_iconst (v := 0) hx hb dX6_isOnBehind_11 (by decide) ?_
  refine lv_istore (lv' := [(4, .int (0 : Int32)), (0, .ref (a 0)), (1, .int n0), (2, .int n1), (3, .int n2)]) hx hb dX6_isOnBehind_12 hl (by decide) rfl (fun ls hl => ?_)
  have J14 : ∀ (m14 : Nat) (x19 : Int32) (g_m_crownedBits_20 : Int32) (g_m_onBits_21 : Int32) (g_m_turn_22 : Int32) (g_m_taken_23 : Int32) (g_m_warmth_24 : (Nat → UInt32)) (g_m_airCell_25 : (Nat → Int32)) (g_m_way_26 : (Nat → Int32)) (g_m_shawls_27 : (Nat → Int32)), f_X6_isOnBehind_b14 n0 n1 n2 g_m_shutBits_1 g_m_airs_2 g_m_sitters_4 g_m_kind_9 g_m_figure_10 g_m_seat_13 g_m_count_15 g_m_steps_16 g_m_numbers_17 m14 x19 g_m_crownedBits_20 g_m_onBits_21 g_m_turn_22 g_m_taken_23 g_m_warmth_24 g_m_airCell_25 g_m_way_26 g_m_shawls_27 = some (z0, z1, z2, z3, z4, z5, z6, z7, z8, z9, z10, z11, z12, z13, z14, z15, z16, z17) → ∀ (H : Heap) (locs : List Loc), va_P D vwCl ((w_X6 y a g_hasImage g_toldCount g_n_shutBits g_n_airs g_n_crownedBits g_n_sitters g_n_onBits g_n_turn g_n_taken g_n_warmth g_n_kind g_n_figure g_n_airCell g_n_way g_n_seat g_n_shawls g_n_count g_n_steps g_n_numbers g_m_shutBits_1 g_m_airs_2 g_m_crownedBits_20 g_m_sitters_4 g_m_onBits_21 g_m_turn_22 g_m_taken_23 g_m_warmth_24 g_m_kind_9 g_m_figure_10 g_m_airCell_25 g_m_way_26 g_m_seat_13 g_m_shawls_27 g_m_count_15 g_m_steps_16 g_m_numbers_17 g_i_shutBits g_i_airs g_i_crownedBits g_i_sitters g_i_onBits g_i_turn g_i_taken g_i_warmth g_i_kind g_i_figure g_i_airCell g_i_way g_i_seat g_i_shawls g_i_count g_i_steps g_i_numbers g_past_next g_past_count g_text_length g_text_letters g_coats_sorts g_coats_sizes g_places g_coats_carried g_told g_refused g_oneHas g_otherHas) ++ (w_blob y (fun k => a (34 + (1 + k))) g_k_shutBits g_k_airs g_k_crownedBits g_k_sitters g_k_onBits g_k_turn g_k_taken g_k_warmth g_k_kind g_k_figure g_k_airCell g_k_way g_k_seat g_k_shawls g_k_count g_k_steps g_k_numbers)) H → va_D A ((w_X6 y a g_hasImage g_toldCount g_n_shutBits g_n_airs g_n_crownedBits g_n_sitters g_n_onBits g_n_turn g_n_taken g_n_warmth g_n_kind g_n_figure g_n_airCell g_n_way g_n_seat g_n_shawls g_n_count g_n_steps g_n_numbers g_m_shutBits_1 g_m_airs_2 g_m_crownedBits_20 g_m_sitters_4 g_m_onBits_21 g_m_turn_22 g_m_taken_23 g_m_warmth_24 g_m_kind_9 g_m_figure_10 g_m_airCell_25 g_m_way_26 g_m_seat_13 g_m_shawls_27 g_m_count_15 g_m_steps_16 g_m_numbers_17 g_i_shutBits g_i_airs g_i_crownedBits g_i_sitters g_i_onBits g_i_turn g_i_taken g_i_warmth g_i_kind g_i_figure g_i_airCell g_i_way g_i_seat g_i_shawls g_i_count g_i_steps g_i_numbers g_past_next g_past_count g_text_length g_text_letters g_coats_sorts g_coats_sizes g_places g_coats_carried g_told g_refused g_oneHas g_otherHas) ++ (w_blob y (fun k => a (34 + (1 + k))) g_k_shutBits g_k_airs g_k_crownedBits g_k_sitters g_k_onBits g_k_turn g_k_taken g_k_warmth g_k_kind g_k_figure g_k_airCell g_k_way g_k_seat g_k_shawls g_k_count g_k_steps g_k_numbers)) → va_S A s.heap H locs → ∀ ls : Array Slot, lv_has ls 5 [(0, .ref (a 0)), (1, .int n0), (2, .int n1), (3, .int n2), (4, .int x19)] → W p l e ({ frames := 5, cells := 0, slots := 0, locals := 118 } : Room) s m [.ref (a 0), .int n0, .int n1, .int n2].toArray below meth c H locs 0 0 (MQ below (dQ D y (some (.int z0)) s.heap.size ((w_X6 y a g_hasImage g_toldCount g_n_shutBits g_n_airs g_n_crownedBits g_n_sitters g_n_onBits g_n_turn g_n_taken g_n_warmth g_n_kind g_n_figure g_n_airCell g_n_way g_n_seat g_n_shawls g_n_count g_n_steps g_n_numbers g_m_shutBits g_m_airs g_m_crownedBits g_m_sitters g_m_onBits g_m_turn g_m_taken g_m_warmth g_m_kind g_m_figure g_m_airCell g_m_way g_m_seat g_m_shawls g_m_count g_m_steps g_m_numbers g_i_shutBits g_i_airs g_i_crownedBits g_i_sitters g_i_onBits g_i_turn g_i_taken g_i_warmth g_i_kind g_i_figure g_i_airCell g_i_way g_i_seat g_i_shawls g_i_count g_i_steps g_i_numbers g_past_next g_past_count g_text_length g_text_letters g_coats_sorts g_coats_sizes g_places g_coats_carried g_told g_refused g_oneHas g_otherHas) ++ (w_blob y (fun k => a (34 + (1 + k))) g_k_shutBits g_k_airs g_k_crownedBits g_k_sitters g_k_onBits g_k_turn g_k_taken g_k_warmth g_k_kind g_k_figure g_k_airCell g_k_way g_k_seat g_k_shawls g_k_count g_k_steps g_k_numbers)) ((w_X6 y a g_hasImage g_toldCount g_n_shutBits g_n_airs g_n_crownedBits g_n_sitters g_n_onBits g_n_turn g_n_taken g_n_warmth g_n_kind g_n_figure g_n_airCell g_n_way g_n_seat g_n_shawls g_n_count g_n_steps g_n_numbers z1 z2 z3 z4 z5 z6 z7 z8 z9 z10 z11 z12 z13 z14 z15 z16 z17 g_i_shutBits g_i_airs g_i_crownedBits g_i_sitters g_i_onBits g_i_turn g_i_taken g_i_warmth g_i_kind g_i_figure g_i_airCell g_i_way g_i_seat g_i_shawls g_i_count g_i_steps g_i_numbers g_past_next g_past_count g_text_length g_text_letters g_coats_sorts g_coats_sizes g_places g_coats_carried g_told g_refused g_oneHas g_otherHas) ++ (w_blob y (fun k => a (34 + (1 + k))) g_k_shutBits g_k_airs g_k_crownedBits g_k_sitters g_k_onBits g_k_turn g_k_taken g_k_warmth g_k_kind g_k_figure g_k_airCell g_k_way g_k_seat g_k_shawls g_k_count g_k_steps g_k_numbers))) [.ref (a 0), .int n0, .int n1, .int n2].toArray s 0 0 A) (F0 m 14 ls []) := by
    intro m14
    induction m14 with
    | zero => intro x19 g_m_crownedBits_20 g_m_onBits_21 g_m_turn_22 g_m_taken_23 g_m_warmth_24 g_m_airCell_25 g_m_way_26 g_m_shawls_27 hf; exact absurd hf (by unfold f_X6_isOnBehind_b14; exact fun h => by cases h)
    | succ m14 I14 =>
      intro x19 g_m_crownedBits_20 g_m_onBits_21 g_m_turn_22 g_m_taken_23 g_m_warmth_24 g_m_airCell_25 g_m_way_26 g_m_shawls_27 hf H locs hP hD hS ls hl
      unfold f_X6_isOnBehind_b14 at hf
      refine lv_iload hx hb dX6_isOnBehind_14 (lv_at hl 4 rfl) ?_
      refine lv_iload_n hx hb dX6_isOnBehind_16 rfl (lv_at hl 2 rfl) ?_
      refine lv_icmp_ge (tgt := 65) hx hb dX6_isOnBehind_17 (by decide) (fun c28 => ?_) (fun c28 => ?_)
      · have hf := dq_t hf c28
        clear c28
        refine lv_aload_n hx hb dX6_isOnBehind_65 rfl (lv_at hl 0 rfl) ?_
        refine va_get (D := D) (ci := 5) (v := .ref (a 12)) (C := RX6) (T := TX6) (N := 12) hx hb hts iwX6 hown hK hP 0 rfl rfl 1 (by decide) (hts _ wl_16) (fun _ h9 => h9) rfl dX6_isOnBehind_66 ?_
        refine lv_iload_n hx hb dX6_isOnBehind_69 rfl (lv_at hl 1 rfl) ?_
        obtain ⟨x29, hy30, hf⟩ := dq_b hf
        refine ct_callVS (ci := 1) (q0 := 0) (own := RX6) (As := [.int n0]) (rest := []) (L' := (w_X6 y a g_hasImage g_toldCount g_n_shutBits g_n_airs g_n_crownedBits g_n_sitters g_n_onBits g_n_turn g_n_taken g_n_warmth g_n_kind g_n_figure g_n_airCell g_n_way g_n_seat g_n_shawls g_n_count g_n_steps g_n_numbers g_m_shutBits_1 g_m_airs_2 g_m_crownedBits_20 g_m_sitters_4 g_m_onBits_21 g_m_turn_22 g_m_taken_23 g_m_warmth_24 g_m_kind_9 g_m_figure_10 g_m_airCell_25 g_m_way_26 g_m_seat_13 g_m_shawls_27 g_m_count_15 g_m_steps_16 g_m_numbers_17 g_i_shutBits g_i_airs g_i_crownedBits g_i_sitters g_i_onBits g_i_turn g_i_taken g_i_warmth g_i_kind g_i_figure g_i_airCell g_i_way g_i_seat g_i_shawls g_i_count g_i_steps g_i_numbers g_past_next g_past_count g_text_length g_text_letters g_coats_sorts g_coats_sizes g_places g_coats_carried g_told g_refused g_oneHas g_otherHas)) (B := (w_blob y (fun k => a (34 + (1 + k))) g_k_shutBits g_k_airs g_k_crownedBits g_k_sitters g_k_onBits g_k_turn g_k_taken g_k_warmth g_k_kind g_k_figure g_k_airCell g_k_way g_k_seat g_k_shawls g_k_count g_k_steps g_k_numbers)) ⟨hx, hb, hml, hown, hts⟩ (m_X2_isOn l D y (fun k => a (12 + k)) g_m_shutBits_1 g_m_airs_2 g_m_crownedBits_20 g_m_sitters_4 g_m_onBits_21 g_m_turn_22 g_m_taken_23 g_m_warmth_24 g_m_kind_9 g_m_figure_10 g_m_airCell_25 g_m_way_26 g_m_seat_13 g_m_shawls_27 g_m_count_15 g_m_steps_16 g_m_numbers_17 n0 x29 hy30) (cwV 1 hts (gA_V wl_563 wl_345 wl_346 wl_14 wl_347) rfl rfl rfl (by decide +kernel) ⟨Nat.le_of_ble_eq_true rfl, Nat.le_of_ble_eq_true rfl⟩) rfl rfl rfl hl.1 rfl (Nat.le_of_ble_eq_true rfl) dX6_isOnBehind_70 ⟨Nat.zero_le _, Nat.zero_le _⟩ hK hP hD hS hA (ct_tail 12 11) rfl rfl (by decide) rfl (sg1 12 11 rfl rfl) (fun H locs hP hD hS => ?_)
        obtain ⟨h31, hf⟩ := dq_g hf
        obtain ⟨rfl, rfl, rfl, rfl, rfl, rfl, rfl, rfl, rfl, rfl, rfl, rfl, rfl, rfl, rfl, rfl, rfl, rfl⟩ := dq_r18 hf
        exact ct_zret hx hb hr (dq_zn h31) hlocks hAe hP hK hD hS dX6_isOnBehind_73
      · have hf := dq_f hf c28
        clear c28
        refine lv_aload_n hx hb dX6_isOnBehind_20 rfl (lv_at hl 0 rfl) ?_
        refine va_get (D := D) (ci := 5) (v := .ref (a 12)) (C := RX6) (T := TX6) (N := 12) hx hb hts iwX6 hown hK hP 0 rfl rfl 1 (by decide) (hts _ wl_16) (fun _ h9 => h9) rfl dX6_isOnBehind_21 ?_
        refine lv_iload_n hx hb dX6_isOnBehind_24 rfl (lv_at hl 1 rfl) ?_
        obtain ⟨x32, hy33, hf⟩ := dq_b hf
        refine ct_callVS (ci := 1) (q0 := 0) (own := RX6) (As := [.int n0]) (rest := []) (L' := (w_X6 y a g_hasImage g_toldCount g_n_shutBits g_n_airs g_n_crownedBits g_n_sitters g_n_onBits g_n_turn g_n_taken g_n_warmth g_n_kind g_n_figure g_n_airCell g_n_way g_n_seat g_n_shawls g_n_count g_n_steps g_n_numbers g_m_shutBits_1 g_m_airs_2 g_m_crownedBits_20 g_m_sitters_4 g_m_onBits_21 g_m_turn_22 g_m_taken_23 g_m_warmth_24 g_m_kind_9 g_m_figure_10 g_m_airCell_25 g_m_way_26 g_m_seat_13 g_m_shawls_27 g_m_count_15 g_m_steps_16 g_m_numbers_17 g_i_shutBits g_i_airs g_i_crownedBits g_i_sitters g_i_onBits g_i_turn g_i_taken g_i_warmth g_i_kind g_i_figure g_i_airCell g_i_way g_i_seat g_i_shawls g_i_count g_i_steps g_i_numbers g_past_next g_past_count g_text_length g_text_letters g_coats_sorts g_coats_sizes g_places g_coats_carried g_told g_refused g_oneHas g_otherHas)) (B := (w_blob y (fun k => a (34 + (1 + k))) g_k_shutBits g_k_airs g_k_crownedBits g_k_sitters g_k_onBits g_k_turn g_k_taken g_k_warmth g_k_kind g_k_figure g_k_airCell g_k_way g_k_seat g_k_shawls g_k_count g_k_steps g_k_numbers)) ⟨hx, hb, hml, hown, hts⟩ (m_X2_isOn l D y (fun k => a (12 + k)) g_m_shutBits_1 g_m_airs_2 g_m_crownedBits_20 g_m_sitters_4 g_m_onBits_21 g_m_turn_22 g_m_taken_23 g_m_warmth_24 g_m_kind_9 g_m_figure_10 g_m_airCell_25 g_m_way_26 g_m_seat_13 g_m_shawls_27 g_m_count_15 g_m_steps_16 g_m_numbers_17 n0 x32 hy33) (cwV 1 hts (gA_V wl_563 wl_345 wl_346 wl_14 wl_347) rfl rfl rfl (by decide +kernel) ⟨Nat.le_of_ble_eq_true rfl, Nat.le_of_ble_eq_true rfl⟩) rfl rfl rfl hl.1 rfl (Nat.le_of_ble_eq_true rfl) dX6_isOnBehind_25 ⟨Nat.zero_le _, Nat.zero_le _⟩ hK hP hD hS hA (ct_tail 12 11) rfl rfl (by decide) rfl (sg1 12 11 rfl rfl) (fun H locs hP hD hS => ?_)
        refine lv_if_eq (tgt := 65) hx hb dX6_isOnBehind_28 (by decide) (fun c34 => ?_) (fun c34 => ?_)
        · have hf := dq_t hf c34
          clear c34
          refine lv_aload_n hx hb dX6_isOnBehind_65 rfl (lv_at hl 0 rfl) ?_
          refine va_get (D := D) (ci := 5) (v := .ref (a 12)) (C := RX6) (T := TX6) (N := 12) hx hb hts iwX6 hown hK hP 0 rfl rfl 1 (by decide) (hts _ wl_16) (fun _ h9 => h9) rfl dX6_isOnBehind_66 ?_
          refine lv_iload_n hx hb dX6_isOnBehind_69 rfl (lv_at hl 1 rfl) ?_
          obtain ⟨x35, hy36, hf⟩ := dq_b hf
          refine ct_callVS (ci := 1) (q0 := 0) (own := RX6) (As := [.int n0]) (rest := []) (L' := (w_X6 y a g_hasImage g_toldCount g_n_shutBits g_n_airs g_n_crownedBits g_n_sitters g_n_onBits g_n_turn g_n_taken g_n_warmth g_n_kind g_n_figure g_n_airCell g_n_way g_n_seat g_n_shawls g_n_count g_n_steps g_n_numbers g_m_shutBits_1 g_m_airs_2 g_m_crownedBits_20 g_m_sitters_4 g_m_onBits_21 g_m_turn_22 g_m_taken_23 g_m_warmth_24 g_m_kind_9 g_m_figure_10 g_m_airCell_25 g_m_way_26 g_m_seat_13 g_m_shawls_27 g_m_count_15 g_m_steps_16 g_m_numbers_17 g_i_shutBits g_i_airs g_i_crownedBits g_i_sitters g_i_onBits g_i_turn g_i_taken g_i_warmth g_i_kind g_i_figure g_i_airCell g_i_way g_i_seat g_i_shawls g_i_count g_i_steps g_i_numbers g_past_next g_past_count g_text_length g_text_letters g_coats_sorts g_coats_sizes g_places g_coats_carried g_told g_refused g_oneHas g_otherHas)) (B := (w_blob y (fun k => a (34 + (1 + k))) g_k_shutBits g_k_airs g_k_crownedBits g_k_sitters g_k_onBits g_k_turn g_k_taken g_k_warmth g_k_kind g_k_figure g_k_airCell g_k_way g_k_seat g_k_shawls g_k_count g_k_steps g_k_numbers)) ⟨hx, hb, hml, hown, hts⟩ (m_X2_isOn l D y (fun k => a (12 + k)) g_m_shutBits_1 g_m_airs_2 g_m_crownedBits_20 g_m_sitters_4 g_m_onBits_21 g_m_turn_22 g_m_taken_23 g_m_warmth_24 g_m_kind_9 g_m_figure_10 g_m_airCell_25 g_m_way_26 g_m_seat_13 g_m_shawls_27 g_m_count_15 g_m_steps_16 g_m_numbers_17 n0 x35 hy36) (cwV 1 hts (gA_V wl_563 wl_345 wl_346 wl_14 wl_347) rfl rfl rfl (by decide +kernel) ⟨Nat.le_of_ble_eq_true rfl, Nat.le_of_ble_eq_true rfl⟩) rfl rfl rfl hl.1 rfl (Nat.le_of_ble_eq_true rfl) dX6_isOnBehind_70 ⟨Nat.zero_le _, Nat.zero_le _⟩ hK hP hD hS hA (ct_tail 12 11) rfl rfl (by decide) rfl (sg1 12 11 rfl rfl) (fun H locs hP hD hS => ?_)
          obtain ⟨h37, hf⟩ := dq_g hf
          obtain ⟨rfl, rfl, rfl, rfl, rfl, rfl, rfl, rfl, rfl, rfl, rfl, rfl, rfl, rfl, rfl, rfl, rfl, rfl⟩ := dq_r18 hf
          exact ct_zret hx hb hr (dq_zn h37) hlocks hAe hP hK hD hS dX6_isOnBehind_73
        · have hf := dq_f hf c34
          clear c34
          refine lv_iload_n hx hb dX6_isOnBehind_31 rfl (lv_at hl 3 rfl) ?_
          refine lv_iload hx hb dX6_isOnBehind_32 (lv_at hl 4 rfl) ?_
          refine lv_ishr hx hb dX6_isOnBehind_34 ?_
          refine lv_iconst (v := 1) hx hb dX6_isOnBehind_35 (by decide) ?_
          refine lv_iand hx hb dX6_isOnBehind_36 ?_
          refine lv_iconst (v := 1) hx hb dX6_isOnBehind_37 (by decide) ?_
          refine lv_icmp_ne (tgt := 51) hx hb dX6_isOnBehind_38 (by decide) (fun c38 => ?_) (fun c38 => ?_)
          · have hf := dq_f hf c38
            clear c38
            refine lv_aload_n hx hb dX6_isOnBehind_51 rfl (lv_at hl 0 rfl) ?_
            refine va_get (D := D) (ci := 5) (v := .ref (a 12)) (C := RX6) (T := TX6) (N := 12) hx hb hts iwX6 hown hK hP 0 rfl rfl 1 (by decide) (hts _ wl_16) (fun _ h9 => h9) rfl dX6_isOnBehind_52 ?_
            refine lv_iconst (v := 1) hx hb dX6_isOnBehind_55 (by decide) ?_
            obtain ⟨g_m_crownedBits_39, g_m_onBits_40, g_m_turn_41, g_m_taken_42, g_m_warmth_43, g_m_airCell_44, g_m_way_45, g_m_shawls_46, hy47, hf⟩ := dq_b8 hf
            refine ct_callVS (ci := 1) (q0 := 0) (own := RX6) (As := [.int (1 : Int32)]) (rest := []) (L' := (w_X6 y a g_hasImage g_toldCount g_n_shutBits g_n_airs g_n_crownedBits g_n_sitters g_n_onBits g_n_turn g_n_taken g_n_warmth g_n_kind g_n_figure g_n_airCell g_n_way g_n_seat g_n_shawls g_n_count g_n_steps g_n_numbers g_m_shutBits_1 g_m_airs_2 g_m_crownedBits_39 g_m_sitters_4 g_m_onBits_40 g_m_turn_41 g_m_taken_42 g_m_warmth_43 g_m_kind_9 g_m_figure_10 g_m_airCell_44 g_m_way_45 g_m_seat_13 g_m_shawls_46 g_m_count_15 g_m_steps_16 g_m_numbers_17 g_i_shutBits g_i_airs g_i_crownedBits g_i_sitters g_i_onBits g_i_turn g_i_taken g_i_warmth g_i_kind g_i_figure g_i_airCell g_i_way g_i_seat g_i_shawls g_i_count g_i_steps g_i_numbers g_past_next g_past_count g_text_length g_text_letters g_coats_sorts g_coats_sizes g_places g_coats_carried g_told g_refused g_oneHas g_otherHas)) (B := (w_blob y (fun k => a (34 + (1 + k))) g_k_shutBits g_k_airs g_k_crownedBits g_k_sitters g_k_onBits g_k_turn g_k_taken g_k_warmth g_k_kind g_k_figure g_k_airCell g_k_way g_k_seat g_k_shawls g_k_count g_k_steps g_k_numbers)) ⟨hx, hb, hml, hown, hts⟩ (m_X2_goOn l D y (fun k => a (12 + k)) g_m_shutBits_1 g_m_airs_2 g_m_crownedBits_20 g_m_sitters_4 g_m_onBits_21 g_m_turn_22 g_m_taken_23 g_m_warmth_24 g_m_kind_9 g_m_figure_10 g_m_airCell_25 g_m_way_26 g_m_seat_13 g_m_shawls_27 g_m_count_15 g_m_steps_16 g_m_numbers_17 (1 : Int32) g_m_crownedBits_39 g_m_onBits_40 g_m_turn_41 g_m_taken_42 g_m_warmth_43 g_m_airCell_44 g_m_way_45 g_m_shawls_46 hy47) (cwV 1 hts (gA_V wl_724 wl_260 wl_261 wl_14 wl_262) rfl rfl rfl (by decide +kernel) ⟨Nat.le_of_ble_eq_true rfl, Nat.le_of_ble_eq_true rfl⟩) rfl rfl rfl hl.1 rfl (Nat.le_of_ble_eq_true rfl) dX6_isOnBehind_56 ⟨Nat.zero_le _, Nat.zero_le _⟩ hK hP hD hS hA (ct_tail 12 11) rfl rfl (by decide) rfl (sg1 12 11 rfl rfl) (fun H locs hP hD hS => ?_)
            obtain ⟨x48, ex48⟩ : ∃ z : Int32, z = (x19 + (1 : Int32)) := ⟨_, rfl⟩
            have hf := dq_l hf x48 ex48
            refine lv_iinc (v := x48) (lv' := [(4, .int x48), (0, .ref (a 0)), (1, .int n0), (2, .int n1), (3, .int n2)]) hx hb dX6_isOnBehind_59 hl (k := 4) rfl (by rw [ex48]; rfl) (by decide) rfl (fun ls hl => ?_)
            clear ex48
            refine lv_goto (tgt := 14) hx hb dX6_isOnBehind_62 (by decide) ?_
            exact I14 _ _ _ _ _ _ _ _ _ hf _ _ hP hD hS _ (lv_sub hl [1, 2, 3, 4, 0] rfl)
          · have hf := dq_t hf c38
            clear c38
            refine lv_aload_n hx hb dX6_isOnBehind_41 rfl (lv_at hl 0 rfl) ?_
            refine va_get (D := D) (ci := 5) (v := .ref (a 12)) (C := RX6) (T := TX6) (N := 12) hx hb hts iwX6 hown hK hP 0 rfl rfl 1 (by decide) (hts _ wl_16) (fun _ h9 => h9) rfl dX6_isOnBehind_42 ?_
            obtain ⟨g_m_onBits_49, g_m_turn_50, g_m_warmth_51, hy52, hf⟩ := dq_b3 hf
            refine ct_callVS (ci := 1) (q0 := 0) (own := RX6) (As := []) (rest := []) (L' := (w_X6 y a g_hasImage g_toldCount g_n_shutBits g_n_airs g_n_crownedBits g_n_sitters g_n_onBits g_n_turn g_n_taken g_n_warmth g_n_kind g_n_figure g_n_airCell g_n_way g_n_seat g_n_shawls g_n_count g_n_steps g_n_numbers g_m_shutBits_1 g_m_airs_2 g_m_crownedBits_20 g_m_sitters_4 g_m_onBits_49 g_m_turn_50 g_m_taken_23 g_m_warmth_51 g_m_kind_9 g_m_figure_10 g_m_airCell_25 g_m_way_26 g_m_seat_13 g_m_shawls_27 g_m_count_15 g_m_steps_16 g_m_numbers_17 g_i_shutBits g_i_airs g_i_crownedBits g_i_sitters g_i_onBits g_i_turn g_i_taken g_i_warmth g_i_kind g_i_figure g_i_airCell g_i_way g_i_seat g_i_shawls g_i_count g_i_steps g_i_numbers g_past_next g_past_count g_text_length g_text_letters g_coats_sorts g_coats_sizes g_places g_coats_carried g_told g_refused g_oneHas g_otherHas)) (B := (w_blob y (fun k => a (34 + (1 + k))) g_k_shutBits g_k_airs g_k_crownedBits g_k_sitters g_k_onBits g_k_turn g_k_taken g_k_warmth g_k_kind g_k_figure g_k_airCell g_k_way g_k_seat g_k_shawls g_k_count g_k_steps g_k_numbers)) ⟨hx, hb, hml, hown, hts⟩ (m_X2_goOnStill l D y (fun k => a (12 + k)) g_m_shutBits_1 g_m_airs_2 g_m_crownedBits_20 g_m_sitters_4 g_m_onBits_21 g_m_turn_22 g_m_taken_23 g_m_warmth_24 g_m_kind_9 g_m_figure_10 g_m_airCell_25 g_m_way_26 g_m_seat_13 g_m_shawls_27 g_m_count_15 g_m_steps_16 g_m_numbers_17 g_m_onBits_49 g_m_turn_50 g_m_warmth_51 hy52) (cwV 0 hts (gA_V wl_900 wl_901 wl_902 wl_14 wl_903) rfl rfl rfl (by decide +kernel) ⟨Nat.le_of_ble_eq_true rfl, Nat.le_of_ble_eq_true rfl⟩) rfl rfl rfl hl.1 rfl (Nat.le_of_ble_eq_true rfl) dX6_isOnBehind_45 ⟨Nat.zero_le _, Nat.zero_le _⟩ hK hP hD hS hA (ct_tail 12 11) rfl rfl (by decide) rfl (sg1 12 11 rfl rfl) (fun H locs hP hD hS => ?_)
            refine lv_goto (tgt := 59) hx hb dX6_isOnBehind_48 (by decide) ?_
            obtain ⟨x53, ex53⟩ : ∃ z : Int32, z = (x19 + (1 : Int32)) := ⟨_, rfl⟩
            have hf := dq_l hf x53 ex53
            refine lv_iinc (v := x53) (lv' := [(4, .int x53), (0, .ref (a 0)), (1, .int n0), (2, .int n1), (3, .int n2)]) hx hb dX6_isOnBehind_59 hl (k := 4) rfl (by rw [ex53]; rfl) (by decide) rfl (fun ls hl => ?_)
            clear ex53
            refine lv_goto (tgt := 14) hx hb dX6_isOnBehind_62 (by decide) ?_
            exact I14 _ _ _ _ _ _ _ _ _ hf _ _ hP hD hS _ (lv_sub hl [1, 2, 3, 4, 0] rfl)
  exact J14 4096 _ _ _ _ _ _ _ _ _ hf _ _ hP hD hS _ (lv_sub hl [1, 2, 3, 4, 0] rfl)
noncomputable def f_X6_power_b5 (n0 : Int32) (n1 : Int32)  : Nat → Int64 → Int32 → Option Int64
  | 0, _, _ => none
  | m5 + 1, x1, x2 => dq_if (n1 ≤ x2) (some x1) (dq_let (x1 * n0.toInt64) (fun (x4 : Int64) => dq_let (x2 + (1 : Int32)) (fun (x5 : Int32) => (f_X6_power_b5 n0 n1 m5) x4 x5)))
noncomputable def f_X6_power (n0 : Int32) (n1 : Int32) : Option Int64 := f_X6_power_b5 n0 n1 4096 (1 : Int64) (0 : Int32)
def wA_X6_power : List Cond := .code yX6_power cX6_power 5 (some .long) :: wsL_law
-- DraughtsTake.power(II)J
set_option maxHeartbeats 4000000 in
set_option maxRecDepth 100000 in
theorem m_X6_power (l : Launch) (D : va_G) (y : Nat → ClassId) (n0 : Int32) (n1 : Int32) (z0 : Int64) (hf : f_X6_power n0 n1 = some z0) : Ct l D y yX6_power wA_X6_power 0 0 [.int n0, .int n1] [] [] (some (.long z0)) := by
  refine ct_head (cc := cX6_power) (n := 5) (ret := (some .long)) (by decide) rfl (Nat.le_of_ble_eq_true rfl) ?_
  intro p e s m below meth c A ls hx hb hr hml hown hlocks hts hA hAe hP hK hD hl
  have hS : va_S A s.heap s.heap [] := va_S.rf
  have hl : lv_has ls 5 [(0, .int n0), (1, .int n1)] := hl
  have hown : s.vm.findClass RX6 = some m.cls := hown
  have hts : ∀ w ∈ wsL_law, w.before [.int n0, .int n1].toArray s = true := fun w h => hts w (List.mem_cons_of_mem _ h)
  unfold f_X6_power at hf
  refine lv_lconst (v := 1) hx hb dX6_power_0 (by decide) ?_
  refine lv_lstore_n (lv' := [(2, .long (1 : Int64)), (0, .int n0), (1, .int n1)]) hx hb dX6_power_1 rfl hl (by decide) rfl (fun ls hl => ?_)
  refine lv_iconst (v := 0) hx hb dX6_power_2 (by decide) ?_
  refine lv_istore (lv' := [(4, .int (0 : Int32)), (2, .long (1 : Int64)), (0, .int n0), (1, .int n1)]) hx hb dX6_power_3 hl (by decide) rfl (fun ls hl => ?_)
  have J5 : ∀ (m5 : Nat) (x1 : Int64) (x2 : Int32), f_X6_power_b5 n0 n1 m5 x1 x2 = some z0 → ∀ (H : Heap) (locs : List Loc), va_P D vwCl [] H → va_D A [] → va_S A s.heap H locs → ∀ ls : Array Slot, lv_has ls 5 [(0, .int n0), (1, .int n1), (2, .long x1), (4, .int x2)] → W p l e ({ frames := 0, cells := 0, slots := 0, locals := 0 } : Room) s m [.int n0, .int n1].toArray below meth c H locs 0 0 (MQ below (dQ D y (some (.long z0)) s.heap.size [] []) [.int n0, .int n1].toArray s 0 0 A) (F0 m 5 ls []) := by
    intro m5
    induction m5 with
    | zero => intro x1 x2 hf; exact absurd hf (by unfold f_X6_power_b5; exact fun h => by cases h)
    | succ m5 I5 =>
      intro x1 x2 hf H locs hP hD hS ls hl
      unfold f_X6_power_b5 at hf
      refine lv_iload hx hb dX6_power_5 (lv_at hl 3 rfl) ?_
      refine lv_iload_n hx hb dX6_power_7 rfl (lv_at hl 1 rfl) ?_
      refine lv_icmp_ge (tgt := 22) hx hb dX6_power_8 (by decide) (fun c3 => ?_) (fun c3 => ?_)
      · have hf := dq_t hf c3
        clear c3
        refine lv_lload_n hx hb dX6_power_22 rfl (lv_at hl 2 rfl) ?_
        obtain rfl := dq_r1 hf
        exact ct_lret hx hb hr hlocks hAe hP hK hD hS dX6_power_23
      · have hf := dq_f hf c3
        clear c3
        refine lv_lload_n hx hb dX6_power_11 rfl (lv_at hl 2 rfl) ?_
        refine lv_iload_n hx hb dX6_power_12 rfl (lv_at hl 0 rfl) ?_
        refine lv_i2l hx hb dX6_power_13 rfl ?_
        refine lv_lmul hx hb dX6_power_14 ?_
        refine lv_topl (fun x4 ex4 => ?_)
        have hf := dq_l hf x4 ex4
        clear ex4
        refine lv_lstore_n (lv' := [(2, .long x4), (0, .int n0), (1, .int n1), (4, .int x2)]) hx hb dX6_power_15 rfl hl (by decide) rfl (fun ls hl => ?_)
        obtain ⟨x5, ex5⟩ : ∃ z : Int32, z = (x2 + (1 : Int32)) := ⟨_, rfl⟩
        have hf := dq_l hf x5 ex5
        refine lv_iinc (v := x5) (lv' := [(4, .int x5), (2, .long x4), (0, .int n0), (1, .int n1)]) hx hb dX6_power_16 hl (k := 3) rfl (by rw [ex5]; rfl) (by decide) rfl (fun ls hl => ?_)
        clear ex5
        refine lv_goto (tgt := 5) hx hb dX6_power_19 (by decide) ?_
        exact I5 _ _ hf _ _ hP hD hS _ (lv_sub hl [2, 3, 1, 0] rfl)
  exact J5 4096 _ _ hf _ _ hP hD hS _ (lv_sub hl [2, 3, 1, 0] rfl)
noncomputable def f_X6_commonDivisor_b9   : Nat → Int64 → Int64 → Int32 → Option Int64
  | 0, _, _, _ => none
  | m9 + 1, x1, x2, x3 => dq_if ((100 : Int32) ≤ x3) (some x1) (dq_if ((lg_cmp x2 (0 : Int64)) = 0) (some x1) (dq_gd (¬ x2 = 0) (dq_let (x1 - x1 / x2 * x2) (fun (x7 : Int64) => dq_let (x3 + (1 : Int32)) (fun (x8 : Int32) => (f_X6_commonDivisor_b9 m9) x2 x7 x8)))))
noncomputable def f_X6_commonDivisor (n0 : Int64) (n1 : Int64) : Option Int64 := f_X6_commonDivisor_b9 4096 n0 n1 (0 : Int32)
def wA_X6_commonDivisor : List Cond := .code yX6_commonDivisor cX6_commonDivisor 11 (some .long) :: wsL_law
-- DraughtsTake.commonDivisor(JJ)J
set_option maxHeartbeats 4000000 in
set_option maxRecDepth 100000 in
theorem m_X6_commonDivisor (l : Launch) (D : va_G) (y : Nat → ClassId) (n0 : Int64) (n1 : Int64) (z0 : Int64) (hf : f_X6_commonDivisor n0 n1 = some z0) : Ct l D y yX6_commonDivisor wA_X6_commonDivisor 0 0 [.long n0, .long n1] [] [] (some (.long z0)) := by
  refine ct_head (cc := cX6_commonDivisor) (n := 11) (ret := (some .long)) (by decide) rfl (Nat.le_of_ble_eq_true rfl) ?_
  intro p e s m below meth c A ls hx hb hr hml hown hlocks hts hA hAe hP hK hD hl
  have hS : va_S A s.heap s.heap [] := va_S.rf
  have hl : lv_has ls 11 [(0, .long n0), (2, .long n1)] := hl
  have hown : s.vm.findClass RX6 = some m.cls := hown
  have hts : ∀ w ∈ wsL_law, w.before [.long n0, .long n1].toArray s = true := fun w h => hts w (List.mem_cons_of_mem _ h)
  unfold f_X6_commonDivisor at hf
  refine lv_lload_n hx hb dX6_commonDivisor_0 rfl (lv_at hl 0 rfl) ?_
  refine lv_lstore (lv' := [(4, .long n0), (0, .long n0), (2, .long n1)]) hx hb dX6_commonDivisor_1 hl (by decide) rfl (fun ls hl => ?_)
  refine lv_lload_n hx hb dX6_commonDivisor_3 rfl (lv_at hl 2 rfl) ?_
  refine lv_lstore (lv' := [(6, .long n1), (4, .long n0), (0, .long n0), (2, .long n1)]) hx hb dX6_commonDivisor_4 hl (by decide) rfl (fun ls hl => ?_)
  refine lv_iconst (v := 0) hx hb dX6_commonDivisor_6 (by decide) ?_
  refine lv_istore (lv' := [(8, .int (0 : Int32)), (6, .long n1), (4, .long n0), (0, .long n0), (2, .long n1)]) hx hb dX6_commonDivisor_7 hl (by decide) rfl (fun ls hl => ?_)
  have J9 : ∀ (m9 : Nat) (x1 : Int64) (x2 : Int64) (x3 : Int32), f_X6_commonDivisor_b9 m9 x1 x2 x3 = some z0 → ∀ (H : Heap) (locs : List Loc), va_P D vwCl [] H → va_D A [] → va_S A s.heap H locs → ∀ ls : Array Slot, lv_has ls 11 [(4, .long x1), (6, .long x2), (8, .int x3)] → W p l e ({ frames := 0, cells := 0, slots := 0, locals := 0 } : Room) s m [.long n0, .long n1].toArray below meth c H locs 0 0 (MQ below (dQ D y (some (.long z0)) s.heap.size [] []) [.long n0, .long n1].toArray s 0 0 A) (F0 m 9 ls []) := by
    intro m9
    induction m9 with
    | zero => intro x1 x2 x3 hf; exact absurd hf (by unfold f_X6_commonDivisor_b9; exact fun h => by cases h)
    | succ m9 I9 =>
      intro x1 x2 x3 hf H locs hP hD hS ls hl
      unfold f_X6_commonDivisor_b9 at hf
      refine lv_iload hx hb dX6_commonDivisor_9 (lv_at hl 2 rfl) ?_
      refine lv_bipush (v := 100) hx hb dX6_commonDivisor_11 (by decide) ?_
      refine lv_icmp_ge (tgt := 44) hx hb dX6_commonDivisor_13 (by decide) (fun c4 => ?_) (fun c4 => ?_)
      · have hf := dq_t hf c4
        clear c4
        refine lv_lload hx hb dX6_commonDivisor_44 (lv_at hl 0 rfl) ?_
        obtain rfl := dq_r1 hf
        exact ct_lret hx hb hr hlocks hAe hP hK hD hS dX6_commonDivisor_46
      · have hf := dq_f hf c4
        clear c4
        refine lv_lload hx hb dX6_commonDivisor_16 (lv_at hl 1 rfl) ?_
        refine lv_lconst (v := 0) hx hb dX6_commonDivisor_18 (by decide) ?_
        refine W.lcmp hx hb dX6_commonDivisor_19 ?_
        refine lv_if_eq (tgt := 44) hx hb dX6_commonDivisor_20 (by decide) (fun c5 => ?_) (fun c5 => ?_)
        · have hf := dq_t hf c5
          clear c5
          refine lv_lload hx hb dX6_commonDivisor_44 (lv_at hl 0 rfl) ?_
          obtain rfl := dq_r1 hf
          exact ct_lret hx hb hr hlocks hAe hP hK hD hS dX6_commonDivisor_46
        · have hf := dq_f hf c5
          clear c5
          refine lv_lload hx hb dX6_commonDivisor_23 (lv_at hl 0 rfl) ?_
          refine lv_lload hx hb dX6_commonDivisor_25 (lv_at hl 1 rfl) ?_
          obtain ⟨h6, hf⟩ := dq_g hf
          refine lv_lrem hx hb dX6_commonDivisor_27 h6 ?_
          refine lv_topl (fun x7 ex7 => ?_)
          have hf := dq_l hf x7 ex7
          clear ex7
          refine lv_lstore (lv' := [(9, .long x7), (4, .long x1), (6, .long x2), (8, .int x3)]) hx hb dX6_commonDivisor_28 hl (by decide) rfl (fun ls hl => ?_)
          refine lv_lload hx hb dX6_commonDivisor_30 (lv_at hl 2 rfl) ?_
          refine lv_lstore (lv' := [(4, .long x2), (9, .long x7), (6, .long x2), (8, .int x3)]) hx hb dX6_commonDivisor_32 hl (by decide) rfl (fun ls hl => ?_)
          refine lv_lload hx hb dX6_commonDivisor_34 (lv_at hl 1 rfl) ?_
          refine lv_lstore (lv' := [(6, .long x7), (4, .long x2), (9, .long x7), (8, .int x3)]) hx hb dX6_commonDivisor_36 hl (by decide) rfl (fun ls hl => ?_)
          obtain ⟨x8, ex8⟩ : ∃ z : Int32, z = (x3 + (1 : Int32)) := ⟨_, rfl⟩
          have hf := dq_l hf x8 ex8
          refine lv_iinc (v := x8) (lv' := [(8, .int x8), (6, .long x7), (4, .long x2), (9, .long x7)]) hx hb dX6_commonDivisor_38 hl (k := 3) rfl (by rw [ex8]; rfl) (by decide) rfl (fun ls hl => ?_)
          clear ex8
          refine lv_goto (tgt := 9) hx hb dX6_commonDivisor_41 (by decide) ?_
          exact I9 _ _ _ hf _ _ hP hD hS _ (lv_sub hl [2, 1, 0] rfl)
  exact J9 4096 _ _ _ hf _ _ hP hD hS _ (lv_sub hl [2, 1, 0] rfl)
