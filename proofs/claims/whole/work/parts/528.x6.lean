noncomputable def f_X6_restore (g_hasImage : Int32) (g_n_shutBits : Int64) (g_n_airs : Int32) (g_n_crownedBits : Int32) (g_n_sitters : Int32) (g_n_onBits : Int32) (g_n_turn : Int32) (g_n_taken : Int32) (g_n_warmth : (Nat → UInt32)) (g_n_kind : (Nat → Int32)) (g_n_figure : (Nat → Int32)) (g_n_airCell : (Nat → Int32)) (g_n_way : (Nat → Int32)) (g_n_seat : (Nat → Int32)) (g_n_shawls : (Nat → Int32)) (g_n_count : Int32) (g_n_steps : (Nat → Int32)) (g_n_numbers : (Nat → Int32)) (g_i_shutBits : Int64) (g_i_airs : Int32) (g_i_crownedBits : Int32) (g_i_sitters : Int32) (g_i_onBits : Int32) (g_i_turn : Int32) (g_i_taken : Int32) (g_i_warmth : (Nat → UInt32)) (g_i_kind : (Nat → Int32)) (g_i_figure : (Nat → Int32)) (g_i_airCell : (Nat → Int32)) (g_i_way : (Nat → Int32)) (g_i_seat : (Nat → Int32)) (g_i_shawls : (Nat → Int32)) (g_i_count : Int32) (g_i_steps : (Nat → Int32)) (g_i_numbers : (Nat → Int32)) (g_past_count : Int32) (g_refused : (Nat → Int32)) : Option (Int32 × Int64 × Int32 × Int32 × Int32 × Int32 × Int32 × Int32 × (Nat → UInt32) × (Nat → Int32) × (Nat → Int32) × (Nat → Int32) × (Nat → Int32) × (Nat → Int32) × (Nat → Int32) × Int32 × (Nat → Int32) × (Nat → Int32) × Int32 × (Nat → Int32)) := dq_if (g_hasImage = 0) (dq_bd2 (f_X6_refuse g_refused (-3 : Int32)) (fun (x22 : Int32) (g_refused_23 : (Nat → Int32)) => some (x22, g_n_shutBits, g_n_airs, g_n_crownedBits, g_n_sitters, g_n_onBits, g_n_turn, g_n_taken, g_n_warmth, g_n_kind, g_n_figure, g_n_airCell, g_n_way, g_n_seat, g_n_shawls, g_n_count, g_n_steps, g_n_numbers, g_past_count, g_refused_23))) (dq_bd17 (f_X2_take g_n_warmth g_n_kind g_n_figure g_n_airCell g_n_way g_n_seat g_n_shawls g_n_steps g_n_numbers g_i_shutBits g_i_airs g_i_crownedBits g_i_sitters g_i_onBits g_i_turn g_i_taken g_i_warmth g_i_kind g_i_figure g_i_airCell g_i_way g_i_seat g_i_shawls g_i_count g_i_steps g_i_numbers) (fun (g_n_shutBits_2 : Int64) (g_n_airs_3 : Int32) (g_n_crownedBits_4 : Int32) (g_n_sitters_5 : Int32) (g_n_onBits_6 : Int32) (g_n_turn_7 : Int32) (g_n_taken_8 : Int32) (g_n_warmth_9 : (Nat → UInt32)) (g_n_kind_10 : (Nat → Int32)) (g_n_figure_11 : (Nat → Int32)) (g_n_airCell_12 : (Nat → Int32)) (g_n_way_13 : (Nat → Int32)) (g_n_seat_14 : (Nat → Int32)) (g_n_shawls_15 : (Nat → Int32)) (g_n_count_16 : Int32) (g_n_steps_17 : (Nat → Int32)) (g_n_numbers_18 : (Nat → Int32)) => dq_bd (f_X3_forget) (fun (g_past_count_20 : Int32) => some (g_n_turn_7, g_n_shutBits_2, g_n_airs_3, g_n_crownedBits_4, g_n_sitters_5, g_n_onBits_6, g_n_turn_7, g_n_taken_8, g_n_warmth_9, g_n_kind_10, g_n_figure_11, g_n_airCell_12, g_n_way_13, g_n_seat_14, g_n_shawls_15, g_n_count_16, g_n_steps_17, g_n_numbers_18, g_past_count_20, g_refused))))
def wA_X6_restore : List Cond := .code yX6_restore cX6_restore 1 (some .int) :: wsL_law
-- DraughtsTake.restore()I
set_option maxHeartbeats 4000000 in
set_option maxRecDepth 100000 in
theorem m_X6_restore (l : Launch) (D : va_G) (y : Nat → ClassId) (a : (Nat → Nat)) (g_hasImage : Int32) (g_toldCount : Int32) (g_n_shutBits : Int64) (g_n_airs : Int32) (g_n_crownedBits : Int32) (g_n_sitters : Int32) (g_n_onBits : Int32) (g_n_turn : Int32) (g_n_taken : Int32) (g_n_warmth : (Nat → UInt32)) (g_n_kind : (Nat → Int32)) (g_n_figure : (Nat → Int32)) (g_n_airCell : (Nat → Int32)) (g_n_way : (Nat → Int32)) (g_n_seat : (Nat → Int32)) (g_n_shawls : (Nat → Int32)) (g_n_count : Int32) (g_n_steps : (Nat → Int32)) (g_n_numbers : (Nat → Int32)) (g_m_shutBits : Int64) (g_m_airs : Int32) (g_m_crownedBits : Int32) (g_m_sitters : Int32) (g_m_onBits : Int32) (g_m_turn : Int32) (g_m_taken : Int32) (g_m_warmth : (Nat → UInt32)) (g_m_kind : (Nat → Int32)) (g_m_figure : (Nat → Int32)) (g_m_airCell : (Nat → Int32)) (g_m_way : (Nat → Int32)) (g_m_seat : (Nat → Int32)) (g_m_shawls : (Nat → Int32)) (g_m_count : Int32) (g_m_steps : (Nat → Int32)) (g_m_numbers : (Nat → Int32)) (g_i_shutBits : Int64) (g_i_airs : Int32) (g_i_crownedBits : Int32) (g_i_sitters : Int32) (g_i_onBits : Int32) (g_i_turn : Int32) (g_i_taken : Int32) (g_i_warmth : (Nat → UInt32)) (g_i_kind : (Nat → Int32)) (g_i_figure : (Nat → Int32)) (g_i_airCell : (Nat → Int32)) (g_i_way : (Nat → Int32)) (g_i_seat : (Nat → Int32)) (g_i_shawls : (Nat → Int32)) (g_i_count : Int32) (g_i_steps : (Nat → Int32)) (g_i_numbers : (Nat → Int32)) (g_past_next : Int32) (g_past_count : Int32) (g_text_length : Int32) (g_text_letters : (Nat → Int32)) (g_coats_sorts : (Nat → Int32)) (g_coats_sizes : (Nat → Int32)) (g_places : (Nat → Nat → Int32)) (g_coats_carried : (Nat → Int32)) (g_told : (Nat → Int32)) (g_refused : (Nat → Int32)) (g_oneHas : (Nat → Int32)) (g_otherHas : (Nat → Int32)) (g_k_shutBits : (Nat → Int64)) (g_k_airs : (Nat → Int32)) (g_k_crownedBits : (Nat → Int32)) (g_k_sitters : (Nat → Int32)) (g_k_onBits : (Nat → Int32)) (g_k_turn : (Nat → Int32)) (g_k_taken : (Nat → Int32)) (g_k_warmth : (Nat → Nat → UInt32)) (g_k_kind : (Nat → Nat → Int32)) (g_k_figure : (Nat → Nat → Int32)) (g_k_airCell : (Nat → Nat → Int32)) (g_k_way : (Nat → Nat → Int32)) (g_k_seat : (Nat → Nat → Int32)) (g_k_shawls : (Nat → Nat → Int32)) (g_k_count : (Nat → Int32)) (g_k_steps : (Nat → Nat → Int32)) (g_k_numbers : (Nat → Nat → Int32)) (z0 : Int32) (z1 : Int64) (z2 : Int32) (z3 : Int32) (z4 : Int32) (z5 : Int32) (z6 : Int32) (z7 : Int32) (z8 : (Nat → UInt32)) (z9 : (Nat → Int32)) (z10 : (Nat → Int32)) (z11 : (Nat → Int32)) (z12 : (Nat → Int32)) (z13 : (Nat → Int32)) (z14 : (Nat → Int32)) (z15 : Int32) (z16 : (Nat → Int32)) (z17 : (Nat → Int32)) (z18 : Int32) (z19 : (Nat → Int32)) (hf : f_X6_restore g_hasImage g_n_shutBits g_n_airs g_n_crownedBits g_n_sitters g_n_onBits g_n_turn g_n_taken g_n_warmth g_n_kind g_n_figure g_n_airCell g_n_way g_n_seat g_n_shawls g_n_count g_n_steps g_n_numbers g_i_shutBits g_i_airs g_i_crownedBits g_i_sitters g_i_onBits g_i_turn g_i_taken g_i_warmth g_i_kind g_i_figure g_i_airCell g_i_way g_i_seat g_i_shawls g_i_count g_i_steps g_i_numbers g_past_count g_refused = some (z0, z1, z2, z3, z4, z5, z6, z7, z8, z9, z10, z11, z12, z13, z14, z15, z16, z17, z18, z19)) : Ct l D y yX6_restore wA_X6_restore 3 82 [.ref (a 0)] ((w_X6 y a g_hasImage g_toldCount g_n_shutBits g_n_airs g_n_crownedBits g_n_sitters g_n_onBits g_n_turn g_n_taken g_n_warmth g_n_kind g_n_figure g_n_airCell g_n_way g_n_seat g_n_shawls g_n_count g_n_steps g_n_numbers g_m_shutBits g_m_airs g_m_crownedBits g_m_sitters g_m_onBits g_m_turn g_m_taken g_m_warmth g_m_kind g_m_figure g_m_airCell g_m_way g_m_seat g_m_shawls g_m_count g_m_steps g_m_numbers g_i_shutBits g_i_airs g_i_crownedBits g_i_sitters g_i_onBits g_i_turn g_i_taken g_i_warmth g_i_kind g_i_figure g_i_airCell g_i_way g_i_seat g_i_shawls g_i_count g_i_steps g_i_numbers g_past_next g_past_count g_text_length g_text_letters g_coats_sorts g_coats_sizes g_places g_coats_carried g_told g_refused g_oneHas g_otherHas) ++ (w_blob y (fun k => a (34 + (1 + k))) g_k_shutBits g_k_airs g_k_crownedBits g_k_sitters g_k_onBits g_k_turn g_k_taken g_k_warmth g_k_kind g_k_figure g_k_airCell g_k_way g_k_seat g_k_shawls g_k_count g_k_steps g_k_numbers)) ((w_X6 y a g_hasImage g_toldCount z1 z2 z3 z4 z5 z6 z7 z8 z9 z10 z11 z12 z13 z14 z15 z16 z17 g_m_shutBits g_m_airs g_m_crownedBits g_m_sitters g_m_onBits g_m_turn g_m_taken g_m_warmth g_m_kind g_m_figure g_m_airCell g_m_way g_m_seat g_m_shawls g_m_count g_m_steps g_m_numbers g_i_shutBits g_i_airs g_i_crownedBits g_i_sitters g_i_onBits g_i_turn g_i_taken g_i_warmth g_i_kind g_i_figure g_i_airCell g_i_way g_i_seat g_i_shawls g_i_count g_i_steps g_i_numbers g_past_next z18 g_text_length g_text_letters g_coats_sorts g_coats_sizes g_places g_coats_carried g_told z19 g_oneHas g_otherHas) ++ (w_blob y (fun k => a (34 + (1 + k))) g_k_shutBits g_k_airs g_k_crownedBits g_k_sitters g_k_onBits g_k_turn g_k_taken g_k_warmth g_k_kind g_k_figure g_k_airCell g_k_way g_k_seat g_k_shawls g_k_count g_k_steps g_k_numbers)) (some (.int z0)) := by
  refine ct_head (cc := cX6_restore) (n := 1) (ret := (some .int)) (by decide) rfl (Nat.le_of_ble_eq_true rfl) ?_
  intro p e s m below meth c A ls hx hb hr hml hown hlocks hts hA hAe hP hK hD hl
  have hS : va_S A s.heap s.heap [] := va_S.rf
  have hl : lv_has ls 1 [(0, .ref (a 0))] := hl
  have hown : s.vm.findClass RX6 = some m.cls := hown
  have hts : ∀ w ∈ wsL_law, w.before [.ref (a 0)].toArray s = true := fun w h => hts w (List.mem_cons_of_mem _ h)
  unfold f_X6_restore at hf
  refine lv_aload_n hx hb dX6_restore_0 rfl (lv_at hl 0 rfl) ?_
  refine va_get (D := D) (ci := 5) (v := .int g_hasImage) (C := RX6) (T := TX6) (N := 12) hx hb hts iwX6 hown hK hP 0 rfl rfl 3 (by decide) (hts _ wl_1106) (fun _ h9 => h9) rfl dX6_restore_1 ?_
  refine lv_if_ne (tgt := 14) hx hb dX6_restore_4 (by decide) (fun c1 => ?_) (fun c1 => ?_)
  · have hf := dq_f hf c1
    clear c1
    refine lv_aload_n hx hb dX6_restore_14 rfl (lv_at hl 0 rfl) ?_
    refine va_get (D := D) (ci := 5) (v := .ref (a 1)) (C := RX6) (T := TX6) (N := 12) hx hb hts iwX6 hown hK hP 0 rfl rfl 0 (by decide) (hts _ wl_15) (fun _ h9 => h9) rfl dX6_restore_15 ?_
    refine lv_aload_n hx hb dX6_restore_18 rfl (lv_at hl 0 rfl) ?_
    refine va_get (D := D) (ci := 5) (v := .ref (a 23)) (C := RX6) (T := TX6) (N := 12) hx hb hts iwX6 hown hK hP 0 rfl rfl 2 (by decide) (hts _ wl_17) (fun _ h9 => h9) rfl dX6_restore_19 ?_
    obtain ⟨g_n_shutBits_2, g_n_airs_3, g_n_crownedBits_4, g_n_sitters_5, g_n_onBits_6, g_n_turn_7, g_n_taken_8, g_n_warmth_9, g_n_kind_10, g_n_figure_11, g_n_airCell_12, g_n_way_13, g_n_seat_14, g_n_shawls_15, g_n_count_16, g_n_steps_17, g_n_numbers_18, hy19, hf⟩ := dq_b17 hf
    refine ct_callVS (ci := 1) (q0 := 0) (own := RX6) (As := [.ref (a 23)]) (rest := []) (L' := (w_X6 y a g_hasImage g_toldCount g_n_shutBits_2 g_n_airs_3 g_n_crownedBits_4 g_n_sitters_5 g_n_onBits_6 g_n_turn_7 g_n_taken_8 g_n_warmth_9 g_n_kind_10 g_n_figure_11 g_n_airCell_12 g_n_way_13 g_n_seat_14 g_n_shawls_15 g_n_count_16 g_n_steps_17 g_n_numbers_18 g_m_shutBits g_m_airs g_m_crownedBits g_m_sitters g_m_onBits g_m_turn g_m_taken g_m_warmth g_m_kind g_m_figure g_m_airCell g_m_way g_m_seat g_m_shawls g_m_count g_m_steps g_m_numbers g_i_shutBits g_i_airs g_i_crownedBits g_i_sitters g_i_onBits g_i_turn g_i_taken g_i_warmth g_i_kind g_i_figure g_i_airCell g_i_way g_i_seat g_i_shawls g_i_count g_i_steps g_i_numbers g_past_next g_past_count g_text_length g_text_letters g_coats_sorts g_coats_sizes g_places g_coats_carried g_told g_refused g_oneHas g_otherHas)) (B := (w_blob y (fun k => a (34 + (1 + k))) g_k_shutBits g_k_airs g_k_crownedBits g_k_sitters g_k_onBits g_k_turn g_k_taken g_k_warmth g_k_kind g_k_figure g_k_airCell g_k_way g_k_seat g_k_shawls g_k_count g_k_steps g_k_numbers)) ⟨hx, hb, hml, hown, hts⟩ (m_X2_take l D y (fun k => a (1 + k)) (fun k => a (23 + k)) g_n_shutBits g_n_airs g_n_crownedBits g_n_sitters g_n_onBits g_n_turn g_n_taken g_n_warmth g_n_kind g_n_figure g_n_airCell g_n_way g_n_seat g_n_shawls g_n_count g_n_steps g_n_numbers g_i_shutBits g_i_airs g_i_crownedBits g_i_sitters g_i_onBits g_i_turn g_i_taken g_i_warmth g_i_kind g_i_figure g_i_airCell g_i_way g_i_seat g_i_shawls g_i_count g_i_steps g_i_numbers g_n_shutBits_2 g_n_airs_3 g_n_crownedBits_4 g_n_sitters_5 g_n_onBits_6 g_n_turn_7 g_n_taken_8 g_n_warmth_9 g_n_kind_10 g_n_figure_11 g_n_airCell_12 g_n_way_13 g_n_seat_14 g_n_shawls_15 g_n_count_16 g_n_steps_17 g_n_numbers_18 hy19) (cwV 1 hts (gA_V wl_176 wl_177 wl_178 wl_14 wl_179) rfl rfl rfl (by decide +kernel) ⟨Nat.le_of_ble_eq_true rfl, Nat.le_of_ble_eq_true rfl⟩) rfl rfl rfl hl.1 rfl (Nat.le_of_ble_eq_true rfl) dX6_restore_22 ⟨Nat.zero_le _, Nat.zero_le _⟩ hK hP hD hS hA (ct_tail 1 11 ++ ct_tail 23 11) rfl rfl (by decide) rfl (sg2 1 11 23 11 (by decide) rfl rfl rfl (fun i hi => hi)) (fun H locs hP hD hS => ?_)
    refine lv_aload_n hx hb dX6_restore_25 rfl (lv_at hl 0 rfl) ?_
    refine va_get (D := D) (ci := 5) (v := .ref (a 34)) (C := RX6) (T := TX6) (N := 12) hx hb hts iwX6 hown hK hP 0 rfl rfl 4 (by decide) (hts _ wl_21) (fun _ h9 => h9) rfl dX6_restore_26 ?_
    obtain ⟨g_past_count_20, hy21, hf⟩ := dq_b hf
    refine ct_callVS (ci := 2) (q0 := 0) (own := RX6) (As := []) (rest := []) (L' := (w_X6 y a g_hasImage g_toldCount g_n_shutBits_2 g_n_airs_3 g_n_crownedBits_4 g_n_sitters_5 g_n_onBits_6 g_n_turn_7 g_n_taken_8 g_n_warmth_9 g_n_kind_10 g_n_figure_11 g_n_airCell_12 g_n_way_13 g_n_seat_14 g_n_shawls_15 g_n_count_16 g_n_steps_17 g_n_numbers_18 g_m_shutBits g_m_airs g_m_crownedBits g_m_sitters g_m_onBits g_m_turn g_m_taken g_m_warmth g_m_kind g_m_figure g_m_airCell g_m_way g_m_seat g_m_shawls g_m_count g_m_steps g_m_numbers g_i_shutBits g_i_airs g_i_crownedBits g_i_sitters g_i_onBits g_i_turn g_i_taken g_i_warmth g_i_kind g_i_figure g_i_airCell g_i_way g_i_seat g_i_shawls g_i_count g_i_steps g_i_numbers g_past_next g_past_count_20 g_text_length g_text_letters g_coats_sorts g_coats_sizes g_places g_coats_carried g_told g_refused g_oneHas g_otherHas)) (B := (w_blob y (fun k => a (34 + (1 + k))) g_k_shutBits g_k_airs g_k_crownedBits g_k_sitters g_k_onBits g_k_turn g_k_taken g_k_warmth g_k_kind g_k_figure g_k_airCell g_k_way g_k_seat g_k_shawls g_k_count g_k_steps g_k_numbers)) ⟨hx, hb, hml, hown, hts⟩ (m_X3_forget l D y (fun k => a (34 + k)) g_past_next g_past_count g_past_count_20 hy21) (cwV 0 hts (gA_V wl_349 wl_350 wl_351 wl_20 wl_352) rfl rfl rfl (by decide +kernel) ⟨Nat.le_of_ble_eq_true rfl, Nat.le_of_ble_eq_true rfl⟩) rfl rfl rfl hl.1 rfl (Nat.le_of_ble_eq_true rfl) dX6_restore_29 ⟨Nat.zero_le _, Nat.zero_le _⟩ hK hP hD hS hA (ct_tail 34 1) rfl rfl (by decide) rfl (sg1 34 1 rfl rfl) (fun H locs hP hD hS => ?_)
    refine lv_aload_n hx hb dX6_restore_32 rfl (lv_at hl 0 rfl) ?_
    refine va_get (D := D) (ci := 5) (v := .ref (a 1)) (C := RX6) (T := TX6) (N := 12) hx hb hts iwX6 hown hK hP 0 rfl rfl 0 (by decide) (hts _ wl_15) (fun _ h9 => h9) rfl dX6_restore_33 ?_
    refine va_get (D := D) (ci := 1) (v := .int g_n_turn_7) (C := RX2) (T := TX2) (N := 15) hx hb hts iwX2 hown hK hP 1 rfl rfl 12 (by decide) (hts _ wl_722) (fun _ h9 => h9) rfl dX6_restore_36 ?_
    obtain ⟨rfl, rfl, rfl, rfl, rfl, rfl, rfl, rfl, rfl, rfl, rfl, rfl, rfl, rfl, rfl, rfl, rfl, rfl, rfl, rfl⟩ := dq_r20 hf
    exact ct_iret hx hb hr hlocks hAe hP hK hD hS dX6_restore_39
  · have hf := dq_t hf c1
    clear c1
    refine lv_aload_n hx hb dX6_restore_7 rfl (lv_at hl 0 rfl) ?_
    refine lv_bipush (v := -3) hx hb dX6_restore_8 (by decide) ?_
    obtain ⟨x22, g_refused_23, hy24, hf⟩ := dq_b2 hf
    refine ct_callV0 (ci := 5) (q0 := 0) (own := RX6) (As := [.int (-3 : Int32)]) (rest := []) (ws' := ((w_X6 y a g_hasImage g_toldCount g_n_shutBits g_n_airs g_n_crownedBits g_n_sitters g_n_onBits g_n_turn g_n_taken g_n_warmth g_n_kind g_n_figure g_n_airCell g_n_way g_n_seat g_n_shawls g_n_count g_n_steps g_n_numbers g_m_shutBits g_m_airs g_m_crownedBits g_m_sitters g_m_onBits g_m_turn g_m_taken g_m_warmth g_m_kind g_m_figure g_m_airCell g_m_way g_m_seat g_m_shawls g_m_count g_m_steps g_m_numbers g_i_shutBits g_i_airs g_i_crownedBits g_i_sitters g_i_onBits g_i_turn g_i_taken g_i_warmth g_i_kind g_i_figure g_i_airCell g_i_way g_i_seat g_i_shawls g_i_count g_i_steps g_i_numbers g_past_next g_past_count g_text_length g_text_letters g_coats_sorts g_coats_sizes g_places g_coats_carried g_told g_refused_23 g_oneHas g_otherHas) ++ (w_blob y (fun k => a (34 + (1 + k))) g_k_shutBits g_k_airs g_k_crownedBits g_k_sitters g_k_onBits g_k_turn g_k_taken g_k_warmth g_k_kind g_k_figure g_k_airCell g_k_way g_k_seat g_k_shawls g_k_count g_k_steps g_k_numbers))) ⟨hx, hb, hml, hown, hts⟩ (m_X6_refuse l D y a g_hasImage g_toldCount g_n_shutBits g_n_airs g_n_crownedBits g_n_sitters g_n_onBits g_n_turn g_n_taken g_n_warmth g_n_kind g_n_figure g_n_airCell g_n_way g_n_seat g_n_shawls g_n_count g_n_steps g_n_numbers g_m_shutBits g_m_airs g_m_crownedBits g_m_sitters g_m_onBits g_m_turn g_m_taken g_m_warmth g_m_kind g_m_figure g_m_airCell g_m_way g_m_seat g_m_shawls g_m_count g_m_steps g_m_numbers g_i_shutBits g_i_airs g_i_crownedBits g_i_sitters g_i_onBits g_i_turn g_i_taken g_i_warmth g_i_kind g_i_figure g_i_airCell g_i_way g_i_seat g_i_shawls g_i_count g_i_steps g_i_numbers g_past_next g_past_count g_text_length g_text_letters g_coats_sorts g_coats_sizes g_places g_coats_carried g_told g_refused g_oneHas g_otherHas g_k_shutBits g_k_airs g_k_crownedBits g_k_sitters g_k_onBits g_k_turn g_k_taken g_k_warmth g_k_kind g_k_figure g_k_airCell g_k_way g_k_seat g_k_shawls g_k_count g_k_steps g_k_numbers (-3 : Int32) x22 g_refused_23 hy24) (cwV 1 hts (gA_V wl_124 wl_125 wl_126 wl_2 wl_127) rfl rfl rfl (by decide +kernel) ⟨Nat.le_of_ble_eq_true rfl, Nat.le_of_ble_eq_true rfl⟩) rfl rfl rfl hl.1 rfl (Nat.le_of_ble_eq_true rfl) dX6_restore_10 ⟨Nat.zero_le _, Nat.zero_le _⟩ hK hP hD hS hA (fun H locs hP hD hS => ?_)
    obtain ⟨rfl, rfl, rfl, rfl, rfl, rfl, rfl, rfl, rfl, rfl, rfl, rfl, rfl, rfl, rfl, rfl, rfl, rfl, rfl, rfl⟩ := dq_r20 hf
    exact ct_iret hx hb hr hlocks hAe hP hK hD hS dX6_restore_13
noncomputable def f_X6_count_b22 (n0 : Int32) (g_toldCount : Int32) (g_n_shutBits : Int64) (g_n_airs : Int32) (g_n_sitters : Int32) (g_n_onBits : Int32) (g_n_turn : Int32) (g_n_taken : Int32) (g_n_count : Int32) (g_past_count : Int32) (g_text_length : Int32)   : Option Int32 := dq_if (n0 = 0) (some g_n_airs) (dq_if (n0 = 1) (some g_n_sitters) (dq_if (n0 = 2) (some g_n_turn) (dq_if (n0 = 3) (some g_n_taken) (dq_if (n0 = 4) (some g_n_onBits) (dq_if (n0 = 5) (some g_n_count) (dq_if (n0 = 6) (dq_bd (f_J13_bitCount_95d88 g_n_shutBits) (fun (x8 : Int32) => some x8)) (dq_if (n0 = 7) (some g_text_length) (dq_if (n0 = 8) (some g_toldCount) (dq_if (n0 = 9) (some g_past_count) (some (-9 : Int32)))))))))))
noncomputable def f_X6_count (g_toldCount : Int32) (g_n_shutBits : Int64) (g_n_airs : Int32) (g_n_sitters : Int32) (g_n_onBits : Int32) (g_n_turn : Int32) (g_n_taken : Int32) (g_n_count : Int32) (g_past_count : Int32) (g_text_length : Int32) (g_refused : (Nat → Int32)) (n0 : Int32) : Option Int32 := dq_if (n0 < (11 : Int32)) (f_X6_count_b22 n0 g_toldCount g_n_shutBits g_n_airs g_n_sitters g_n_onBits g_n_turn g_n_taken g_n_count g_past_count g_text_length) (dq_if ((16 : Int32) < n0) (f_X6_count_b22 n0 g_toldCount g_n_shutBits g_n_airs g_n_sitters g_n_onBits g_n_turn g_n_taken g_n_count g_past_count g_text_length) (dq_gd (vp_in (n0 - (10 : Int32)) 7) (some (g_refused (n0 - (10 : Int32)).toNatClampNeg))))
def wA_X6_count : List Cond := .code yX6_count cX6_count 2 (some .int) :: wsL_law
-- DraughtsTake.count(I)I
set_option maxHeartbeats 4000000 in
set_option maxRecDepth 100000 in
theorem m_X6_count (l : Launch) (D : va_G) (y : Nat → ClassId) (a : (Nat → Nat)) (g_hasImage : Int32) (g_toldCount : Int32) (g_n_shutBits : Int64) (g_n_airs : Int32) (g_n_crownedBits : Int32) (g_n_sitters : Int32) (g_n_onBits : Int32) (g_n_turn : Int32) (g_n_taken : Int32) (g_n_warmth : (Nat → UInt32)) (g_n_kind : (Nat → Int32)) (g_n_figure : (Nat → Int32)) (g_n_airCell : (Nat → Int32)) (g_n_way : (Nat → Int32)) (g_n_seat : (Nat → Int32)) (g_n_shawls : (Nat → Int32)) (g_n_count : Int32) (g_n_steps : (Nat → Int32)) (g_n_numbers : (Nat → Int32)) (g_m_shutBits : Int64) (g_m_airs : Int32) (g_m_crownedBits : Int32) (g_m_sitters : Int32) (g_m_onBits : Int32) (g_m_turn : Int32) (g_m_taken : Int32) (g_m_warmth : (Nat → UInt32)) (g_m_kind : (Nat → Int32)) (g_m_figure : (Nat → Int32)) (g_m_airCell : (Nat → Int32)) (g_m_way : (Nat → Int32)) (g_m_seat : (Nat → Int32)) (g_m_shawls : (Nat → Int32)) (g_m_count : Int32) (g_m_steps : (Nat → Int32)) (g_m_numbers : (Nat → Int32)) (g_i_shutBits : Int64) (g_i_airs : Int32) (g_i_crownedBits : Int32) (g_i_sitters : Int32) (g_i_onBits : Int32) (g_i_turn : Int32) (g_i_taken : Int32) (g_i_warmth : (Nat → UInt32)) (g_i_kind : (Nat → Int32)) (g_i_figure : (Nat → Int32)) (g_i_airCell : (Nat → Int32)) (g_i_way : (Nat → Int32)) (g_i_seat : (Nat → Int32)) (g_i_shawls : (Nat → Int32)) (g_i_count : Int32) (g_i_steps : (Nat → Int32)) (g_i_numbers : (Nat → Int32)) (g_past_next : Int32) (g_past_count : Int32) (g_text_length : Int32) (g_text_letters : (Nat → Int32)) (g_coats_sorts : (Nat → Int32)) (g_coats_sizes : (Nat → Int32)) (g_places : (Nat → Nat → Int32)) (g_coats_carried : (Nat → Int32)) (g_told : (Nat → Int32)) (g_refused : (Nat → Int32)) (g_oneHas : (Nat → Int32)) (g_otherHas : (Nat → Int32)) (g_k_shutBits : (Nat → Int64)) (g_k_airs : (Nat → Int32)) (g_k_crownedBits : (Nat → Int32)) (g_k_sitters : (Nat → Int32)) (g_k_onBits : (Nat → Int32)) (g_k_turn : (Nat → Int32)) (g_k_taken : (Nat → Int32)) (g_k_warmth : (Nat → Nat → UInt32)) (g_k_kind : (Nat → Nat → Int32)) (g_k_figure : (Nat → Nat → Int32)) (g_k_airCell : (Nat → Nat → Int32)) (g_k_way : (Nat → Nat → Int32)) (g_k_seat : (Nat → Nat → Int32)) (g_k_shawls : (Nat → Nat → Int32)) (g_k_count : (Nat → Int32)) (g_k_steps : (Nat → Nat → Int32)) (g_k_numbers : (Nat → Nat → Int32)) (n0 : Int32) (z0 : Int32) (hf : f_X6_count g_toldCount g_n_shutBits g_n_airs g_n_sitters g_n_onBits g_n_turn g_n_taken g_n_count g_past_count g_text_length g_refused n0 = some z0) : Ct l D y yX6_count wA_X6_count 1 21 [.ref (a 0), .int n0] ((w_X6 y a g_hasImage g_toldCount g_n_shutBits g_n_airs g_n_crownedBits g_n_sitters g_n_onBits g_n_turn g_n_taken g_n_warmth g_n_kind g_n_figure g_n_airCell g_n_way g_n_seat g_n_shawls g_n_count g_n_steps g_n_numbers g_m_shutBits g_m_airs g_m_crownedBits g_m_sitters g_m_onBits g_m_turn g_m_taken g_m_warmth g_m_kind g_m_figure g_m_airCell g_m_way g_m_seat g_m_shawls g_m_count g_m_steps g_m_numbers g_i_shutBits g_i_airs g_i_crownedBits g_i_sitters g_i_onBits g_i_turn g_i_taken g_i_warmth g_i_kind g_i_figure g_i_airCell g_i_way g_i_seat g_i_shawls g_i_count g_i_steps g_i_numbers g_past_next g_past_count g_text_length g_text_letters g_coats_sorts g_coats_sizes g_places g_coats_carried g_told g_refused g_oneHas g_otherHas) ++ (w_blob y (fun k => a (34 + (1 + k))) g_k_shutBits g_k_airs g_k_crownedBits g_k_sitters g_k_onBits g_k_turn g_k_taken g_k_warmth g_k_kind g_k_figure g_k_airCell g_k_way g_k_seat g_k_shawls g_k_count g_k_steps g_k_numbers)) ((w_X6 y a g_hasImage g_toldCount g_n_shutBits g_n_airs g_n_crownedBits g_n_sitters g_n_onBits g_n_turn g_n_taken g_n_warmth g_n_kind g_n_figure g_n_airCell g_n_way g_n_seat g_n_shawls g_n_count g_n_steps g_n_numbers g_m_shutBits g_m_airs g_m_crownedBits g_m_sitters g_m_onBits g_m_turn g_m_taken g_m_warmth g_m_kind g_m_figure g_m_airCell g_m_way g_m_seat g_m_shawls g_m_count g_m_steps g_m_numbers g_i_shutBits g_i_airs g_i_crownedBits g_i_sitters g_i_onBits g_i_turn g_i_taken g_i_warmth g_i_kind g_i_figure g_i_airCell g_i_way g_i_seat g_i_shawls g_i_count g_i_steps g_i_numbers g_past_next g_past_count g_text_length g_text_letters g_coats_sorts g_coats_sizes g_places g_coats_carried g_told g_refused g_oneHas g_otherHas) ++ (w_blob y (fun k => a (34 + (1 + k))) g_k_shutBits g_k_airs g_k_crownedBits g_k_sitters g_k_onBits g_k_turn g_k_taken g_k_warmth g_k_kind g_k_figure g_k_airCell g_k_way g_k_seat g_k_shawls g_k_count g_k_steps g_k_numbers)) (some (.int z0)) := by
  refine ct_head (cc := cX6_count) (n := 2) (ret := (some .int)) (by decide) rfl (Nat.le_of_ble_eq_true rfl) ?_
  intro p e s m below meth c A ls hx hb hr hml hown hlocks hts hA hAe hP hK hD hl
  have hS : va_S A s.heap s.heap [] := va_S.rf
  have hl : lv_has ls 2 [(0, .ref (a 0)), (1, .int n0)] := hl
  have hown : s.vm.findClass RX6 = some m.cls := hown
  have hts : ∀ w ∈ wsL_law, w.before [.ref (a 0), .int n0].toArray s = true := fun w h => hts w (List.mem_cons_of_mem _ h)
  unfold f_X6_count at hf
  refine lv_iload_n hx hb dX6_count_0 rfl (lv_at hl 1 rfl) ?_
  refine lv_bipush (v := 11) hx hb dX6_count_1 (by decide) ?_
  have J22 : f_X6_count_b22 n0 g_toldCount g_n_shutBits g_n_airs g_n_sitters g_n_onBits g_n_turn g_n_taken g_n_count g_past_count g_text_length = some z0 → ∀ (H : Heap) (locs : List Loc), va_P D vwCl ((w_X6 y a g_hasImage g_toldCount g_n_shutBits g_n_airs g_n_crownedBits g_n_sitters g_n_onBits g_n_turn g_n_taken g_n_warmth g_n_kind g_n_figure g_n_airCell g_n_way g_n_seat g_n_shawls g_n_count g_n_steps g_n_numbers g_m_shutBits g_m_airs g_m_crownedBits g_m_sitters g_m_onBits g_m_turn g_m_taken g_m_warmth g_m_kind g_m_figure g_m_airCell g_m_way g_m_seat g_m_shawls g_m_count g_m_steps g_m_numbers g_i_shutBits g_i_airs g_i_crownedBits g_i_sitters g_i_onBits g_i_turn g_i_taken g_i_warmth g_i_kind g_i_figure g_i_airCell g_i_way g_i_seat g_i_shawls g_i_count g_i_steps g_i_numbers g_past_next g_past_count g_text_length g_text_letters g_coats_sorts g_coats_sizes g_places g_coats_carried g_told g_refused g_oneHas g_otherHas) ++ (w_blob y (fun k => a (34 + (1 + k))) g_k_shutBits g_k_airs g_k_crownedBits g_k_sitters g_k_onBits g_k_turn g_k_taken g_k_warmth g_k_kind g_k_figure g_k_airCell g_k_way g_k_seat g_k_shawls g_k_count g_k_steps g_k_numbers)) H → va_D A ((w_X6 y a g_hasImage g_toldCount g_n_shutBits g_n_airs g_n_crownedBits g_n_sitters g_n_onBits g_n_turn g_n_taken g_n_warmth g_n_kind g_n_figure g_n_airCell g_n_way g_n_seat g_n_shawls g_n_count g_n_steps g_n_numbers g_m_shutBits g_m_airs g_m_crownedBits g_m_sitters g_m_onBits g_m_turn g_m_taken g_m_warmth g_m_kind g_m_figure g_m_airCell g_m_way g_m_seat g_m_shawls g_m_count g_m_steps g_m_numbers g_i_shutBits g_i_airs g_i_crownedBits g_i_sitters g_i_onBits g_i_turn g_i_taken g_i_warmth g_i_kind g_i_figure g_i_airCell g_i_way g_i_seat g_i_shawls g_i_count g_i_steps g_i_numbers g_past_next g_past_count g_text_length g_text_letters g_coats_sorts g_coats_sizes g_places g_coats_carried g_told g_refused g_oneHas g_otherHas) ++ (w_blob y (fun k => a (34 + (1 + k))) g_k_shutBits g_k_airs g_k_crownedBits g_k_sitters g_k_onBits g_k_turn g_k_taken g_k_warmth g_k_kind g_k_figure g_k_airCell g_k_way g_k_seat g_k_shawls g_k_count g_k_steps g_k_numbers)) → va_S A s.heap H locs → ∀ ls : Array Slot, lv_has ls 2 [(0, .ref (a 0)), (1, .int n0)] → W p l e ({ frames := 1, cells := 0, slots := 0, locals := 21 } : Room) s m [.ref (a 0), .int n0].toArray below meth c H locs 0 0 (MQ below (dQ D y (some (.int z0)) s.heap.size ((w_X6 y a g_hasImage g_toldCount g_n_shutBits g_n_airs g_n_crownedBits g_n_sitters g_n_onBits g_n_turn g_n_taken g_n_warmth g_n_kind g_n_figure g_n_airCell g_n_way g_n_seat g_n_shawls g_n_count g_n_steps g_n_numbers g_m_shutBits g_m_airs g_m_crownedBits g_m_sitters g_m_onBits g_m_turn g_m_taken g_m_warmth g_m_kind g_m_figure g_m_airCell g_m_way g_m_seat g_m_shawls g_m_count g_m_steps g_m_numbers g_i_shutBits g_i_airs g_i_crownedBits g_i_sitters g_i_onBits g_i_turn g_i_taken g_i_warmth g_i_kind g_i_figure g_i_airCell g_i_way g_i_seat g_i_shawls g_i_count g_i_steps g_i_numbers g_past_next g_past_count g_text_length g_text_letters g_coats_sorts g_coats_sizes g_places g_coats_carried g_told g_refused g_oneHas g_otherHas) ++ (w_blob y (fun k => a (34 + (1 + k))) g_k_shutBits g_k_airs g_k_crownedBits g_k_sitters g_k_onBits g_k_turn g_k_taken g_k_warmth g_k_kind g_k_figure g_k_airCell g_k_way g_k_seat g_k_shawls g_k_count g_k_steps g_k_numbers)) ((w_X6 y a g_hasImage g_toldCount g_n_shutBits g_n_airs g_n_crownedBits g_n_sitters g_n_onBits g_n_turn g_n_taken g_n_warmth g_n_kind g_n_figure g_n_airCell g_n_way g_n_seat g_n_shawls g_n_count g_n_steps g_n_numbers g_m_shutBits g_m_airs g_m_crownedBits g_m_sitters g_m_onBits g_m_turn g_m_taken g_m_warmth g_m_kind g_m_figure g_m_airCell g_m_way g_m_seat g_m_shawls g_m_count g_m_steps g_m_numbers g_i_shutBits g_i_airs g_i_crownedBits g_i_sitters g_i_onBits g_i_turn g_i_taken g_i_warmth g_i_kind g_i_figure g_i_airCell g_i_way g_i_seat g_i_shawls g_i_count g_i_steps g_i_numbers g_past_next g_past_count g_text_length g_text_letters g_coats_sorts g_coats_sizes g_places g_coats_carried g_told g_refused g_oneHas g_otherHas) ++ (w_blob y (fun k => a (34 + (1 + k))) g_k_shutBits g_k_airs g_k_crownedBits g_k_sitters g_k_onBits g_k_turn g_k_taken g_k_warmth g_k_kind g_k_figure g_k_airCell g_k_way g_k_seat g_k_shawls g_k_count g_k_steps g_k_numbers))) [.ref (a 0), .int n0].toArray s 0 0 A) (F0 m 22 ls []) := by
    intro  hf H locs hP hD hS ls hl
    unfold f_X6_count_b22 at hf
    refine lv_iload_n hx hb dX6_count_22 rfl (lv_at hl 1 rfl) ?_
    by_cases c1 : n0 = (0 : Int32)
    · have hf := dq_t hf c1
      refine lv_tableIn (tgt := 76) (off := 53) hx hb dX6_count_23 (by rw [c1]; decide) (by rw [c1]; decide) (by rw [c1]; decide) (by decide) ?_
      clear c1
      refine lv_aload_n hx hb dX6_count_76 rfl (lv_at hl 0 rfl) ?_
      refine va_get (D := D) (ci := 5) (v := .ref (a 1)) (C := RX6) (T := TX6) (N := 12) hx hb hts iwX6 hown hK hP 0 rfl rfl 0 (by decide) (hts _ wl_15) (fun _ h9 => h9) rfl dX6_count_77 ?_
      refine va_get (D := D) (ci := 1) (v := .int g_n_airs) (C := RX2) (T := TX2) (N := 15) hx hb hts iwX2 hown hK hP 1 rfl rfl 2 (by decide) (hts _ wl_541) (fun _ h9 => h9) rfl dX6_count_80 ?_
      obtain rfl := dq_r1 hf
      exact ct_iret hx hb hr hlocks hAe hP hK hD hS dX6_count_83
    have hf := dq_f hf c1
    by_cases c2 : n0 = (1 : Int32)
    · have hf := dq_t hf c2
      refine lv_tableIn (tgt := 84) (off := 61) hx hb dX6_count_23 (by rw [c2]; decide) (by rw [c2]; decide) (by rw [c2]; decide) (by decide) ?_
      clear c1 c2
      refine lv_aload_n hx hb dX6_count_84 rfl (lv_at hl 0 rfl) ?_
      refine va_get (D := D) (ci := 5) (v := .ref (a 1)) (C := RX6) (T := TX6) (N := 12) hx hb hts iwX6 hown hK hP 0 rfl rfl 0 (by decide) (hts _ wl_15) (fun _ h9 => h9) rfl dX6_count_85 ?_
      refine va_get (D := D) (ci := 1) (v := .int g_n_sitters) (C := RX2) (T := TX2) (N := 15) hx hb hts iwX2 hown hK hP 1 rfl rfl 8 (by decide) (hts _ wl_562) (fun _ h9 => h9) rfl dX6_count_88 ?_
      obtain rfl := dq_r1 hf
      exact ct_iret hx hb hr hlocks hAe hP hK hD hS dX6_count_91
    have hf := dq_f hf c2
    by_cases c3 : n0 = (2 : Int32)
    · have hf := dq_t hf c3
      refine lv_tableIn (tgt := 92) (off := 69) hx hb dX6_count_23 (by rw [c3]; decide) (by rw [c3]; decide) (by rw [c3]; decide) (by decide) ?_
      clear c1 c2 c3
      refine lv_aload_n hx hb dX6_count_92 rfl (lv_at hl 0 rfl) ?_
      refine va_get (D := D) (ci := 5) (v := .ref (a 1)) (C := RX6) (T := TX6) (N := 12) hx hb hts iwX6 hown hK hP 0 rfl rfl 0 (by decide) (hts _ wl_15) (fun _ h9 => h9) rfl dX6_count_93 ?_
      refine va_get (D := D) (ci := 1) (v := .int g_n_turn) (C := RX2) (T := TX2) (N := 15) hx hb hts iwX2 hown hK hP 1 rfl rfl 12 (by decide) (hts _ wl_722) (fun _ h9 => h9) rfl dX6_count_96 ?_
      obtain rfl := dq_r1 hf
      exact ct_iret hx hb hr hlocks hAe hP hK hD hS dX6_count_99
    have hf := dq_f hf c3
    by_cases c4 : n0 = (3 : Int32)
    · have hf := dq_t hf c4
      refine lv_tableIn (tgt := 100) (off := 77) hx hb dX6_count_23 (by rw [c4]; decide) (by rw [c4]; decide) (by rw [c4]; decide) (by decide) ?_
      clear c1 c2 c3 c4
      refine lv_aload_n hx hb dX6_count_100 rfl (lv_at hl 0 rfl) ?_
      refine va_get (D := D) (ci := 5) (v := .ref (a 1)) (C := RX6) (T := TX6) (N := 12) hx hb hts iwX6 hown hK hP 0 rfl rfl 0 (by decide) (hts _ wl_15) (fun _ h9 => h9) rfl dX6_count_101 ?_
      refine va_get (D := D) (ci := 1) (v := .int g_n_taken) (C := RX2) (T := TX2) (N := 15) hx hb hts iwX2 hown hK hP 1 rfl rfl 13 (by decide) (hts _ wl_723) (fun _ h9 => h9) rfl dX6_count_104 ?_
      obtain rfl := dq_r1 hf
      exact ct_iret hx hb hr hlocks hAe hP hK hD hS dX6_count_107
    have hf := dq_f hf c4
    by_cases c5 : n0 = (4 : Int32)
    · have hf := dq_t hf c5
      refine lv_tableIn (tgt := 108) (off := 85) hx hb dX6_count_23 (by rw [c5]; decide) (by rw [c5]; decide) (by rw [c5]; decide) (by decide) ?_
      clear c1 c2 c3 c4 c5
      refine lv_aload_n hx hb dX6_count_108 rfl (lv_at hl 0 rfl) ?_
      refine va_get (D := D) (ci := 5) (v := .ref (a 1)) (C := RX6) (T := TX6) (N := 12) hx hb hts iwX6 hown hK hP 0 rfl rfl 0 (by decide) (hts _ wl_15) (fun _ h9 => h9) rfl dX6_count_109 ?_
      refine va_get (D := D) (ci := 1) (v := .int g_n_onBits) (C := RX2) (T := TX2) (N := 15) hx hb hts iwX2 hown hK hP 1 rfl rfl 11 (by decide) (hts _ wl_673) (fun _ h9 => h9) rfl dX6_count_112 ?_
      obtain rfl := dq_r1 hf
      exact ct_iret hx hb hr hlocks hAe hP hK hD hS dX6_count_115
    have hf := dq_f hf c5
    by_cases c6 : n0 = (5 : Int32)
    · have hf := dq_t hf c6
      refine lv_tableIn (tgt := 116) (off := 93) hx hb dX6_count_23 (by rw [c6]; decide) (by rw [c6]; decide) (by rw [c6]; decide) (by decide) ?_
      clear c1 c2 c3 c4 c5 c6
      refine lv_aload_n hx hb dX6_count_116 rfl (lv_at hl 0 rfl) ?_
      refine va_get (D := D) (ci := 5) (v := .ref (a 1)) (C := RX6) (T := TX6) (N := 12) hx hb hts iwX6 hown hK hP 0 rfl rfl 0 (by decide) (hts _ wl_15) (fun _ h9 => h9) rfl dX6_count_117 ?_
      refine va_get (D := D) (ci := 1) (v := .ref (a 9)) (C := RX2) (T := TX2) (N := 15) hx hb hts iwX2 hown hK hP 1 rfl rfl 14 (by decide) (hts _ wl_702) (fun _ h9 => h9) rfl dX6_count_120 ?_
      refine va_get (D := D) (ci := 0) (v := .int g_n_count) (C := RX1) (T := TX1) (N := 3) hx hb hts iwX1 hown hK hP 9 rfl rfl 2 (by decide) (hts _ wl_703) (fun _ h9 => h9) rfl dX6_count_123 ?_
      obtain rfl := dq_r1 hf
      exact ct_iret hx hb hr hlocks hAe hP hK hD hS dX6_count_126
    have hf := dq_f hf c6
    by_cases c7 : n0 = (6 : Int32)
    · have hf := dq_t hf c7
      refine lv_tableIn (tgt := 127) (off := 104) hx hb dX6_count_23 (by rw [c7]; decide) (by rw [c7]; decide) (by rw [c7]; decide) (by decide) ?_
      clear c1 c2 c3 c4 c5 c6 c7
      refine lv_aload_n hx hb dX6_count_127 rfl (lv_at hl 0 rfl) ?_
      refine va_get (D := D) (ci := 5) (v := .ref (a 1)) (C := RX6) (T := TX6) (N := 12) hx hb hts iwX6 hown hK hP 0 rfl rfl 0 (by decide) (hts _ wl_15) (fun _ h9 => h9) rfl dX6_count_128 ?_
      refine va_get (D := D) (ci := 1) (v := .long g_n_shutBits) (C := RX2) (T := TX2) (N := 15) hx hb hts iwX2 hown hK hP 1 rfl rfl 1 (by decide) (hts _ wl_1124) (fun _ h9 => h9) rfl dX6_count_131 ?_
      obtain ⟨x8, hy9, hf⟩ := dq_b hf
      refine ct_callS0 (own := RX6) (As := [.long g_n_shutBits]) (rest := []) ⟨hx, hb, hml, hown, hts⟩ (m_J13_bitCount_95d88 l D y g_n_shutBits x8 hy9) (va_cwS 1 hts (gA_S wl_1125 wl_1126 wl_1127 wl_1128) rfl rfl rfl (by decide +kernel) ⟨Nat.le_of_ble_eq_true rfl, Nat.le_of_ble_eq_true rfl⟩) rfl hl.1 rfl (Nat.le_of_ble_eq_true rfl) dX6_count_134 ⟨Nat.zero_le _, Nat.zero_le _⟩ hK hP hD hS hA (fun H locs hP hD hS => ?_)
      obtain rfl := dq_r1 hf
      exact ct_iret hx hb hr hlocks hAe hP hK hD hS dX6_count_137
    have hf := dq_f hf c7
    by_cases c10 : n0 = (7 : Int32)
    · have hf := dq_t hf c10
      refine lv_tableIn (tgt := 138) (off := 115) hx hb dX6_count_23 (by rw [c10]; decide) (by rw [c10]; decide) (by rw [c10]; decide) (by decide) ?_
      clear c1 c2 c3 c4 c5 c6 c7 c10
      refine lv_aload_n hx hb dX6_count_138 rfl (lv_at hl 0 rfl) ?_
      refine va_get (D := D) (ci := 5) (v := .ref (a 124)) (C := RX6) (T := TX6) (N := 12) hx hb hts iwX6 hown hK hP 0 rfl rfl 5 (by decide) (hts _ wl_25) (fun _ h9 => h9) rfl dX6_count_139 ?_
      refine va_get (D := D) (ci := 4) (v := .int g_text_length) (C := RX5) (T := TX5) (N := 2) hx hb hts iwX5 hown hK hP 35 rfl rfl 1 (by decide) (hts _ wl_122) (fun _ h9 => h9) rfl dX6_count_142 ?_
      obtain rfl := dq_r1 hf
      exact ct_iret hx hb hr hlocks hAe hP hK hD hS dX6_count_145
    have hf := dq_f hf c10
    by_cases c11 : n0 = (8 : Int32)
    · have hf := dq_t hf c11
      refine lv_tableIn (tgt := 146) (off := 123) hx hb dX6_count_23 (by rw [c11]; decide) (by rw [c11]; decide) (by rw [c11]; decide) (by decide) ?_
      clear c1 c2 c3 c4 c5 c6 c7 c10 c11
      refine lv_aload_n hx hb dX6_count_146 rfl (lv_at hl 0 rfl) ?_
      refine va_get (D := D) (ci := 5) (v := .int g_toldCount) (C := RX6) (T := TX6) (N := 12) hx hb hts iwX6 hown hK hP 0 rfl rfl 8 (by decide) (hts _ wl_855) (fun _ h9 => h9) rfl dX6_count_147 ?_
      obtain rfl := dq_r1 hf
      exact ct_iret hx hb hr hlocks hAe hP hK hD hS dX6_count_150
    have hf := dq_f hf c11
    by_cases c12 : n0 = (9 : Int32)
    · have hf := dq_t hf c12
      refine lv_tableIn (tgt := 151) (off := 128) hx hb dX6_count_23 (by rw [c12]; decide) (by rw [c12]; decide) (by rw [c12]; decide) (by decide) ?_
      clear c1 c2 c3 c4 c5 c6 c7 c10 c11 c12
      refine lv_aload_n hx hb dX6_count_151 rfl (lv_at hl 0 rfl) ?_
      refine va_get (D := D) (ci := 5) (v := .ref (a 34)) (C := RX6) (T := TX6) (N := 12) hx hb hts iwX6 hown hK hP 0 rfl rfl 4 (by decide) (hts _ wl_21) (fun _ h9 => h9) rfl dX6_count_152 ?_
      refine va_get (D := D) (ci := 2) (v := .int g_past_count) (C := RX3) (T := TX3) (N := 3) hx hb hts iwX3 hown hK hP 34 rfl rfl 2 (by decide) (hts _ wl_733) (fun _ h9 => h9) rfl dX6_count_155 ?_
      obtain rfl := dq_r1 hf
      exact ct_iret hx hb hr hlocks hAe hP hK hD hS dX6_count_158
    have hf := dq_f hf c12
    have c1 : n0.toInt ≠ 0 := fun q => c1 (Int32.toInt_inj.mp q)
    have c2 : n0.toInt ≠ 1 := fun q => c2 (Int32.toInt_inj.mp q)
    have c3 : n0.toInt ≠ 2 := fun q => c3 (Int32.toInt_inj.mp q)
    have c4 : n0.toInt ≠ 3 := fun q => c4 (Int32.toInt_inj.mp q)
    have c5 : n0.toInt ≠ 4 := fun q => c5 (Int32.toInt_inj.mp q)
    have c6 : n0.toInt ≠ 5 := fun q => c6 (Int32.toInt_inj.mp q)
    have c7 : n0.toInt ≠ 6 := fun q => c7 (Int32.toInt_inj.mp q)
    have c10 : n0.toInt ≠ 7 := fun q => c10 (Int32.toInt_inj.mp q)
    have c11 : n0.toInt ≠ 8 := fun q => c11 (Int32.toInt_inj.mp q)
    have c12 : n0.toInt ≠ 9 := fun q => c12 (Int32.toInt_inj.mp q)
    refine lv_tableOut (tgt := 159) hx hb dX6_count_23 (by omega) (by decide) ?_
    clear c1 c2 c3 c4 c5 c6 c7 c10 c11 c12
    refine lv_bipush (v := -9) hx hb dX6_count_159 (by decide) ?_
    obtain rfl := dq_r1 hf
    exact ct_iret hx hb hr hlocks hAe hP hK hD hS dX6_count_161
  refine lv_icmp_lt (tgt := 22) hx hb dX6_count_3 (by decide) (fun c13 => ?_) (fun c13 => ?_)
  · have hf := dq_t hf c13
    clear c13
    exact J22  hf _ _ hP hD hS _ (lv_sub hl [0, 1] rfl)
  · have hf := dq_f hf c13
    clear c13
    refine lv_iload_n hx hb dX6_count_6 rfl (lv_at hl 1 rfl) ?_
    refine lv_bipush (v := 16) hx hb dX6_count_7 (by decide) ?_
    refine lv_icmp_gt (tgt := 22) hx hb dX6_count_9 (by decide) (fun c14 => ?_) (fun c14 => ?_)
    · have hf := dq_t hf c14
      clear c14
      exact J22  hf _ _ hP hD hS _ (lv_sub hl [0, 1] rfl)
    · have hf := dq_f hf c14
      clear c14
      refine lv_aload_n hx hb dX6_count_12 rfl (lv_at hl 0 rfl) ?_
      refine va_get (D := D) (ci := 5) (v := .ref (a 135)) (C := RX6) (T := TX6) (N := 12) hx hb hts iwX6 hown hK hP 0 rfl rfl 9 (by decide) (hts _ wl_32) (fun _ h9 => h9) rfl dX6_count_13 ?_
      refine lv_iload_n hx hb dX6_count_16 rfl (lv_at hl 1 rfl) ?_
      refine lv_bipush (v := 10) hx hb dX6_count_17 (by decide) ?_
      refine lv_isub hx hb dX6_count_19 ?_
      obtain ⟨h15, hf⟩ := dq_g hf
      refine va_iald (cA := y 1) (n := 7) (f := g_refused) hx hb hK hP 46 1 rfl rfl h15 dX6_count_20 ?_
      obtain rfl := dq_r1 hf
      exact ct_iret hx hb hr hlocks hAe hP hK hD hS dX6_count_21
