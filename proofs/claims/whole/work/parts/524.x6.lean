noncomputable def f_X6_wears (g_n_shutBits : Int64) (g_n_airs : Int32) (g_n_crownedBits : Int32) (g_n_sitters : Int32) (g_n_onBits : Int32) (g_n_turn : Int32) (g_n_taken : Int32) (g_n_warmth : (Nat → UInt32)) (g_n_kind : (Nat → Int32)) (g_n_figure : (Nat → Int32)) (g_n_airCell : (Nat → Int32)) (g_n_way : (Nat → Int32)) (g_n_seat : (Nat → Int32)) (g_n_shawls : (Nat → Int32)) (g_n_count : Int32) (g_n_steps : (Nat → Int32)) (g_n_numbers : (Nat → Int32)) (g_past_next : Int32) (g_past_count : Int32) (g_coats_sizes : (Nat → Int32)) (g_places : (Nat → Nat → Int32)) (g_refused : (Nat → Int32)) (g_k_shutBits : (Nat → Int64)) (g_k_airs : (Nat → Int32)) (g_k_crownedBits : (Nat → Int32)) (g_k_sitters : (Nat → Int32)) (g_k_onBits : (Nat → Int32)) (g_k_turn : (Nat → Int32)) (g_k_taken : (Nat → Int32)) (g_k_warmth : (Nat → Nat → UInt32)) (g_k_kind : (Nat → Nat → Int32)) (g_k_figure : (Nat → Nat → Int32)) (g_k_airCell : (Nat → Nat → Int32)) (g_k_way : (Nat → Nat → Int32)) (g_k_seat : (Nat → Nat → Int32)) (g_k_shawls : (Nat → Nat → Int32)) (g_k_count : (Nat → Int32)) (g_k_steps : (Nat → Nat → Int32)) (g_k_numbers : (Nat → Nat → Int32)) (n0 : Int32) (n1 : Int32) (n2 : Int32) : Option (Int32 × (Nat → Int32) × Int32 × Int32 × (Nat → Nat → Int32) × (Nat → Int32) × (Nat → Int64) × (Nat → Int32) × (Nat → Int32) × (Nat → Int32) × (Nat → Int32) × (Nat → Int32) × (Nat → Int32) × (Nat → Nat → UInt32) × (Nat → Nat → Int32) × (Nat → Nat → Int32) × (Nat → Nat → Int32) × (Nat → Nat → Int32) × (Nat → Nat → Int32) × (Nat → Nat → Int32) × (Nat → Int32) × (Nat → Nat → Int32) × (Nat → Nat → Int32)) := dq_bd (f_X6_isSitter g_n_sitters n0) (fun (x1 : Int32) => dq_if (x1 = 0) (dq_bd2 (f_X6_refuse g_refused (-1 : Int32)) (fun (x4 : Int32) (g_refused_5 : (Nat → Int32)) => some (x4, g_n_shawls, g_past_next, g_past_count, g_places, g_refused_5, g_k_shutBits, g_k_airs, g_k_crownedBits, g_k_sitters, g_k_onBits, g_k_turn, g_k_taken, g_k_warmth, g_k_kind, g_k_figure, g_k_airCell, g_k_way, g_k_seat, g_k_shawls, g_k_count, g_k_steps, g_k_numbers))) (dq_bd (f_X6_isPeg n1) (fun (x7 : Int32) => dq_if (x7 = 0) (dq_bd2 (f_X6_refuse g_refused (-1 : Int32)) (fun (x107 : Int32) (g_refused_108 : (Nat → Int32)) => some (x107, g_n_shawls, g_past_next, g_past_count, g_places, g_refused_108, g_k_shutBits, g_k_airs, g_k_crownedBits, g_k_sitters, g_k_onBits, g_k_turn, g_k_taken, g_k_warmth, g_k_kind, g_k_figure, g_k_airCell, g_k_way, g_k_seat, g_k_shawls, g_k_count, g_k_steps, g_k_numbers))) (dq_bd (f_X4_coatFault g_coats_sizes g_places n1 n2) (fun (x10 : Int32) => dq_if (x10 = 0) (dq_bd19 (f_X3_keep g_past_next g_past_count g_n_shutBits g_n_airs g_n_crownedBits g_n_sitters g_n_onBits g_n_turn g_n_taken g_n_warmth g_n_kind g_n_figure g_n_airCell g_n_way g_n_seat g_n_shawls g_n_count g_n_steps g_n_numbers g_k_shutBits g_k_airs g_k_crownedBits g_k_sitters g_k_onBits g_k_turn g_k_taken g_k_warmth g_k_kind g_k_figure g_k_airCell g_k_way g_k_seat g_k_shawls g_k_count g_k_steps g_k_numbers) (fun (g_past_next_13 : Int32) (g_past_count_14 : Int32) (g_k_shutBits_15 : (Nat → Int64)) (g_k_airs_16 : (Nat → Int32)) (g_k_crownedBits_17 : (Nat → Int32)) (g_k_sitters_18 : (Nat → Int32)) (g_k_onBits_19 : (Nat → Int32)) (g_k_turn_20 : (Nat → Int32)) (g_k_taken_21 : (Nat → Int32)) (g_k_warmth_22 : (Nat → Nat → UInt32)) (g_k_kind_23 : (Nat → Nat → Int32)) (g_k_figure_24 : (Nat → Nat → Int32)) (g_k_airCell_25 : (Nat → Nat → Int32)) (g_k_way_26 : (Nat → Nat → Int32)) (g_k_seat_27 : (Nat → Nat → Int32)) (g_k_shawls_28 : (Nat → Nat → Int32)) (g_k_count_29 : (Nat → Int32)) (g_k_steps_30 : (Nat → Nat → Int32)) (g_k_numbers_31 : (Nat → Nat → Int32)) => dq_gd (vp_in n1 3) (dq_gd (vp_in n2 12) (dq_let ((g_places n1.toNatClampNeg) n2.toNatClampNeg) (fun (x35 : Int32) => dq_gd (vp_in n1 3) (dq_gd (vp_in n2 12) (dq_let (upd (g_places n1.toNatClampNeg) n2.toNatClampNeg (0 : Int32)) (fun (g_places_38 : (Nat → Int32)) => dq_if ((x35 / (10 : Int32)) = (2 : Int32)) (dq_let ((2 : Int32) * (x35 - x35 / (10 : Int32) * (10 : Int32))) (fun (x46 : Int32) => dq_gd (vp_in n0 6) (dq_let (if (9 : Int32) < ((g_n_shawls n0.toNatClampNeg) + x46) then (9 : Int32) else ((g_n_shawls n0.toNatClampNeg) + x46)) (fun (x48 : Int32) => dq_gd (vp_in n0 6) (dq_let (upd g_n_shawls n0.toNatClampNeg x48) (fun (g_n_shawls_50 : (Nat → Int32)) => dq_gd (vp_in n0 6) (some ((g_n_shawls_50 n0.toNatClampNeg), g_n_shawls_50, g_past_next_13, g_past_count_14, (va_up g_places n1.toNatClampNeg g_places_38), g_refused, g_k_shutBits_15, g_k_airs_16, g_k_crownedBits_17, g_k_sitters_18, g_k_onBits_19, g_k_turn_20, g_k_taken_21, g_k_warmth_22, g_k_kind_23, g_k_figure_24, g_k_airCell_25, g_k_way_26, g_k_seat_27, g_k_shawls_28, g_k_count_29, g_k_steps_30, g_k_numbers_31)))))))) (dq_let (x35 - x35 / (10 : Int32) * (10 : Int32)) (fun (x40 : Int32) => dq_gd (vp_in n0 6) (dq_let (if (9 : Int32) < ((g_n_shawls n0.toNatClampNeg) + x40) then (9 : Int32) else ((g_n_shawls n0.toNatClampNeg) + x40)) (fun (x42 : Int32) => dq_gd (vp_in n0 6) (dq_let (upd g_n_shawls n0.toNatClampNeg x42) (fun (g_n_shawls_44 : (Nat → Int32)) => dq_gd (vp_in n0 6) (some ((g_n_shawls_44 n0.toNatClampNeg), g_n_shawls_44, g_past_next_13, g_past_count_14, (va_up g_places n1.toNatClampNeg g_places_38), g_refused, g_k_shutBits_15, g_k_airs_16, g_k_crownedBits_17, g_k_sitters_18, g_k_onBits_19, g_k_turn_20, g_k_taken_21, g_k_warmth_22, g_k_kind_23, g_k_figure_24, g_k_airCell_25, g_k_way_26, g_k_seat_27, g_k_shawls_28, g_k_count_29, g_k_steps_30, g_k_numbers_31)))))))))))))))) (some (x10, g_n_shawls, g_past_next, g_past_count, g_places, g_refused, g_k_shutBits, g_k_airs, g_k_crownedBits, g_k_sitters, g_k_onBits, g_k_turn, g_k_taken, g_k_warmth, g_k_kind, g_k_figure, g_k_airCell, g_k_way, g_k_seat, g_k_shawls, g_k_count, g_k_steps, g_k_numbers)))))))
def wA_X6_wears : List Cond := .code yX6_wears cX6_wears 7 (some .int) :: wsL_law
-- DraughtsTake.wears(III)I
set_option maxHeartbeats 4000000 in
set_option maxRecDepth 100000 in
theorem m_X6_wears (l : Launch) (D : va_G) (y : Nat → ClassId) (a : (Nat → Nat)) (g_hasImage : Int32) (g_toldCount : Int32) (g_n_shutBits : Int64) (g_n_airs : Int32) (g_n_crownedBits : Int32) (g_n_sitters : Int32) (g_n_onBits : Int32) (g_n_turn : Int32) (g_n_taken : Int32) (g_n_warmth : (Nat → UInt32)) (g_n_kind : (Nat → Int32)) (g_n_figure : (Nat → Int32)) (g_n_airCell : (Nat → Int32)) (g_n_way : (Nat → Int32)) (g_n_seat : (Nat → Int32)) (g_n_shawls : (Nat → Int32)) (g_n_count : Int32) (g_n_steps : (Nat → Int32)) (g_n_numbers : (Nat → Int32)) (g_m_shutBits : Int64) (g_m_airs : Int32) (g_m_crownedBits : Int32) (g_m_sitters : Int32) (g_m_onBits : Int32) (g_m_turn : Int32) (g_m_taken : Int32) (g_m_warmth : (Nat → UInt32)) (g_m_kind : (Nat → Int32)) (g_m_figure : (Nat → Int32)) (g_m_airCell : (Nat → Int32)) (g_m_way : (Nat → Int32)) (g_m_seat : (Nat → Int32)) (g_m_shawls : (Nat → Int32)) (g_m_count : Int32) (g_m_steps : (Nat → Int32)) (g_m_numbers : (Nat → Int32)) (g_i_shutBits : Int64) (g_i_airs : Int32) (g_i_crownedBits : Int32) (g_i_sitters : Int32) (g_i_onBits : Int32) (g_i_turn : Int32) (g_i_taken : Int32) (g_i_warmth : (Nat → UInt32)) (g_i_kind : (Nat → Int32)) (g_i_figure : (Nat → Int32)) (g_i_airCell : (Nat → Int32)) (g_i_way : (Nat → Int32)) (g_i_seat : (Nat → Int32)) (g_i_shawls : (Nat → Int32)) (g_i_count : Int32) (g_i_steps : (Nat → Int32)) (g_i_numbers : (Nat → Int32)) (g_past_next : Int32) (g_past_count : Int32) (g_text_length : Int32) (g_text_letters : (Nat → Int32)) (g_coats_sorts : (Nat → Int32)) (g_coats_sizes : (Nat → Int32)) (g_places : (Nat → Nat → Int32)) (g_coats_carried : (Nat → Int32)) (g_told : (Nat → Int32)) (g_refused : (Nat → Int32)) (g_oneHas : (Nat → Int32)) (g_otherHas : (Nat → Int32)) (g_k_shutBits : (Nat → Int64)) (g_k_airs : (Nat → Int32)) (g_k_crownedBits : (Nat → Int32)) (g_k_sitters : (Nat → Int32)) (g_k_onBits : (Nat → Int32)) (g_k_turn : (Nat → Int32)) (g_k_taken : (Nat → Int32)) (g_k_warmth : (Nat → Nat → UInt32)) (g_k_kind : (Nat → Nat → Int32)) (g_k_figure : (Nat → Nat → Int32)) (g_k_airCell : (Nat → Nat → Int32)) (g_k_way : (Nat → Nat → Int32)) (g_k_seat : (Nat → Nat → Int32)) (g_k_shawls : (Nat → Nat → Int32)) (g_k_count : (Nat → Int32)) (g_k_steps : (Nat → Nat → Int32)) (g_k_numbers : (Nat → Nat → Int32)) (n0 : Int32) (n1 : Int32) (n2 : Int32) (z0 : Int32) (z1 : (Nat → Int32)) (z2 : Int32) (z3 : Int32) (z4 : (Nat → Nat → Int32)) (z5 : (Nat → Int32)) (z6 : (Nat → Int64)) (z7 : (Nat → Int32)) (z8 : (Nat → Int32)) (z9 : (Nat → Int32)) (z10 : (Nat → Int32)) (z11 : (Nat → Int32)) (z12 : (Nat → Int32)) (z13 : (Nat → Nat → UInt32)) (z14 : (Nat → Nat → Int32)) (z15 : (Nat → Nat → Int32)) (z16 : (Nat → Nat → Int32)) (z17 : (Nat → Nat → Int32)) (z18 : (Nat → Nat → Int32)) (z19 : (Nat → Nat → Int32)) (z20 : (Nat → Int32)) (z21 : (Nat → Nat → Int32)) (z22 : (Nat → Nat → Int32)) (hf : f_X6_wears g_n_shutBits g_n_airs g_n_crownedBits g_n_sitters g_n_onBits g_n_turn g_n_taken g_n_warmth g_n_kind g_n_figure g_n_airCell g_n_way g_n_seat g_n_shawls g_n_count g_n_steps g_n_numbers g_past_next g_past_count g_coats_sizes g_places g_refused g_k_shutBits g_k_airs g_k_crownedBits g_k_sitters g_k_onBits g_k_turn g_k_taken g_k_warmth g_k_kind g_k_figure g_k_airCell g_k_way g_k_seat g_k_shawls g_k_count g_k_steps g_k_numbers n0 n1 n2 = some (z0, z1, z2, z3, z4, z5, z6, z7, z8, z9, z10, z11, z12, z13, z14, z15, z16, z17, z18, z19, z20, z21, z22)) : Ct l D y yX6_wears wA_X6_wears 4 103 [.ref (a 0), .int n0, .int n1, .int n2] ((w_X6 y a g_hasImage g_toldCount g_n_shutBits g_n_airs g_n_crownedBits g_n_sitters g_n_onBits g_n_turn g_n_taken g_n_warmth g_n_kind g_n_figure g_n_airCell g_n_way g_n_seat g_n_shawls g_n_count g_n_steps g_n_numbers g_m_shutBits g_m_airs g_m_crownedBits g_m_sitters g_m_onBits g_m_turn g_m_taken g_m_warmth g_m_kind g_m_figure g_m_airCell g_m_way g_m_seat g_m_shawls g_m_count g_m_steps g_m_numbers g_i_shutBits g_i_airs g_i_crownedBits g_i_sitters g_i_onBits g_i_turn g_i_taken g_i_warmth g_i_kind g_i_figure g_i_airCell g_i_way g_i_seat g_i_shawls g_i_count g_i_steps g_i_numbers g_past_next g_past_count g_text_length g_text_letters g_coats_sorts g_coats_sizes g_places g_coats_carried g_told g_refused g_oneHas g_otherHas) ++ (w_blob y (fun k => a (34 + (1 + k))) g_k_shutBits g_k_airs g_k_crownedBits g_k_sitters g_k_onBits g_k_turn g_k_taken g_k_warmth g_k_kind g_k_figure g_k_airCell g_k_way g_k_seat g_k_shawls g_k_count g_k_steps g_k_numbers)) ((w_X6 y a g_hasImage g_toldCount g_n_shutBits g_n_airs g_n_crownedBits g_n_sitters g_n_onBits g_n_turn g_n_taken g_n_warmth g_n_kind g_n_figure g_n_airCell g_n_way g_n_seat z1 g_n_count g_n_steps g_n_numbers g_m_shutBits g_m_airs g_m_crownedBits g_m_sitters g_m_onBits g_m_turn g_m_taken g_m_warmth g_m_kind g_m_figure g_m_airCell g_m_way g_m_seat g_m_shawls g_m_count g_m_steps g_m_numbers g_i_shutBits g_i_airs g_i_crownedBits g_i_sitters g_i_onBits g_i_turn g_i_taken g_i_warmth g_i_kind g_i_figure g_i_airCell g_i_way g_i_seat g_i_shawls g_i_count g_i_steps g_i_numbers z2 z3 g_text_length g_text_letters g_coats_sorts g_coats_sizes z4 g_coats_carried g_told z5 g_oneHas g_otherHas) ++ (w_blob y (fun k => a (34 + (1 + k))) z6 z7 z8 z9 z10 z11 z12 z13 z14 z15 z16 z17 z18 z19 z20 z21 z22)) (some (.int z0)) := by
  refine ct_head (cc := cX6_wears) (n := 7) (ret := (some .int)) (by decide) rfl (Nat.le_of_ble_eq_true rfl) ?_
  intro p e s m below meth c A ls hx hb hr hml hown hlocks hts hA hAe hP hK hD hl
  have hS : va_S A s.heap s.heap [] := va_S.rf
  have hl : lv_has ls 7 [(0, .ref (a 0)), (1, .int n0), (2, .int n1), (3, .int n2)] := hl
  have hown : s.vm.findClass RX6 = some m.cls := hown
  have hts : ∀ w ∈ wsL_law, w.before [.ref (a 0), .int n0, .int n1, .int n2].toArray s = true := fun w h => hts w (List.mem_cons_of_mem _ h)
  unfold f_X6_wears at hf
  refine lv_aload_n hx hb dX6_wears_0 rfl (lv_at hl 0 rfl) ?_
  refine lv_iload_n hx hb dX6_wears_1 rfl (lv_at hl 1 rfl) ?_
  obtain ⟨x1, hy2, hf⟩ := dq_b hf
  refine ct_callV0 (ci := 5) (q0 := 0) (own := RX6) (As := [.int n0]) (rest := []) (ws' := ((w_X6 y a g_hasImage g_toldCount g_n_shutBits g_n_airs g_n_crownedBits g_n_sitters g_n_onBits g_n_turn g_n_taken g_n_warmth g_n_kind g_n_figure g_n_airCell g_n_way g_n_seat g_n_shawls g_n_count g_n_steps g_n_numbers g_m_shutBits g_m_airs g_m_crownedBits g_m_sitters g_m_onBits g_m_turn g_m_taken g_m_warmth g_m_kind g_m_figure g_m_airCell g_m_way g_m_seat g_m_shawls g_m_count g_m_steps g_m_numbers g_i_shutBits g_i_airs g_i_crownedBits g_i_sitters g_i_onBits g_i_turn g_i_taken g_i_warmth g_i_kind g_i_figure g_i_airCell g_i_way g_i_seat g_i_shawls g_i_count g_i_steps g_i_numbers g_past_next g_past_count g_text_length g_text_letters g_coats_sorts g_coats_sizes g_places g_coats_carried g_told g_refused g_oneHas g_otherHas) ++ (w_blob y (fun k => a (34 + (1 + k))) g_k_shutBits g_k_airs g_k_crownedBits g_k_sitters g_k_onBits g_k_turn g_k_taken g_k_warmth g_k_kind g_k_figure g_k_airCell g_k_way g_k_seat g_k_shawls g_k_count g_k_steps g_k_numbers))) ⟨hx, hb, hml, hown, hts⟩ (m_X6_isSitter l D y a g_hasImage g_toldCount g_n_shutBits g_n_airs g_n_crownedBits g_n_sitters g_n_onBits g_n_turn g_n_taken g_n_warmth g_n_kind g_n_figure g_n_airCell g_n_way g_n_seat g_n_shawls g_n_count g_n_steps g_n_numbers g_m_shutBits g_m_airs g_m_crownedBits g_m_sitters g_m_onBits g_m_turn g_m_taken g_m_warmth g_m_kind g_m_figure g_m_airCell g_m_way g_m_seat g_m_shawls g_m_count g_m_steps g_m_numbers g_i_shutBits g_i_airs g_i_crownedBits g_i_sitters g_i_onBits g_i_turn g_i_taken g_i_warmth g_i_kind g_i_figure g_i_airCell g_i_way g_i_seat g_i_shawls g_i_count g_i_steps g_i_numbers g_past_next g_past_count g_text_length g_text_letters g_coats_sorts g_coats_sizes g_places g_coats_carried g_told g_refused g_oneHas g_otherHas g_k_shutBits g_k_airs g_k_crownedBits g_k_sitters g_k_onBits g_k_turn g_k_taken g_k_warmth g_k_kind g_k_figure g_k_airCell g_k_way g_k_seat g_k_shawls g_k_count g_k_steps g_k_numbers n0 x1 hy2) (cwV 1 hts (gA_V wl_558 wl_559 wl_560 wl_2 wl_561) rfl rfl rfl (by decide +kernel) ⟨Nat.le_of_ble_eq_true rfl, Nat.le_of_ble_eq_true rfl⟩) rfl rfl rfl hl.1 rfl (Nat.le_of_ble_eq_true rfl) dX6_wears_2 ⟨Nat.zero_le _, Nat.zero_le _⟩ hK hP hD hS hA (fun H locs hP hD hS => ?_)
  refine lv_if_eq (tgt := 15) hx hb dX6_wears_5 (by decide) (fun c3 => ?_) (fun c3 => ?_)
  · have hf := dq_t hf c3
    clear c3
    refine lv_aload_n hx hb dX6_wears_15 rfl (lv_at hl 0 rfl) ?_
    refine lv_iconst (v := -1) hx hb dX6_wears_16 (by decide) ?_
    obtain ⟨x4, g_refused_5, hy6, hf⟩ := dq_b2 hf
    refine ct_callV0 (ci := 5) (q0 := 0) (own := RX6) (As := [.int (-1 : Int32)]) (rest := []) (ws' := ((w_X6 y a g_hasImage g_toldCount g_n_shutBits g_n_airs g_n_crownedBits g_n_sitters g_n_onBits g_n_turn g_n_taken g_n_warmth g_n_kind g_n_figure g_n_airCell g_n_way g_n_seat g_n_shawls g_n_count g_n_steps g_n_numbers g_m_shutBits g_m_airs g_m_crownedBits g_m_sitters g_m_onBits g_m_turn g_m_taken g_m_warmth g_m_kind g_m_figure g_m_airCell g_m_way g_m_seat g_m_shawls g_m_count g_m_steps g_m_numbers g_i_shutBits g_i_airs g_i_crownedBits g_i_sitters g_i_onBits g_i_turn g_i_taken g_i_warmth g_i_kind g_i_figure g_i_airCell g_i_way g_i_seat g_i_shawls g_i_count g_i_steps g_i_numbers g_past_next g_past_count g_text_length g_text_letters g_coats_sorts g_coats_sizes g_places g_coats_carried g_told g_refused_5 g_oneHas g_otherHas) ++ (w_blob y (fun k => a (34 + (1 + k))) g_k_shutBits g_k_airs g_k_crownedBits g_k_sitters g_k_onBits g_k_turn g_k_taken g_k_warmth g_k_kind g_k_figure g_k_airCell g_k_way g_k_seat g_k_shawls g_k_count g_k_steps g_k_numbers))) ⟨hx, hb, hml, hown, hts⟩ (m_X6_refuse l D y a g_hasImage g_toldCount g_n_shutBits g_n_airs g_n_crownedBits g_n_sitters g_n_onBits g_n_turn g_n_taken g_n_warmth g_n_kind g_n_figure g_n_airCell g_n_way g_n_seat g_n_shawls g_n_count g_n_steps g_n_numbers g_m_shutBits g_m_airs g_m_crownedBits g_m_sitters g_m_onBits g_m_turn g_m_taken g_m_warmth g_m_kind g_m_figure g_m_airCell g_m_way g_m_seat g_m_shawls g_m_count g_m_steps g_m_numbers g_i_shutBits g_i_airs g_i_crownedBits g_i_sitters g_i_onBits g_i_turn g_i_taken g_i_warmth g_i_kind g_i_figure g_i_airCell g_i_way g_i_seat g_i_shawls g_i_count g_i_steps g_i_numbers g_past_next g_past_count g_text_length g_text_letters g_coats_sorts g_coats_sizes g_places g_coats_carried g_told g_refused g_oneHas g_otherHas g_k_shutBits g_k_airs g_k_crownedBits g_k_sitters g_k_onBits g_k_turn g_k_taken g_k_warmth g_k_kind g_k_figure g_k_airCell g_k_way g_k_seat g_k_shawls g_k_count g_k_steps g_k_numbers (-1 : Int32) x4 g_refused_5 hy6) (cwV 1 hts (gA_V wl_124 wl_125 wl_126 wl_2 wl_127) rfl rfl rfl (by decide +kernel) ⟨Nat.le_of_ble_eq_true rfl, Nat.le_of_ble_eq_true rfl⟩) rfl rfl rfl hl.1 rfl (Nat.le_of_ble_eq_true rfl) dX6_wears_17 ⟨Nat.zero_le _, Nat.zero_le _⟩ hK hP hD hS hA (fun H locs hP hD hS => ?_)
    obtain ⟨rfl, rfl, rfl, rfl, rfl, rfl, rfl, rfl, rfl, rfl, rfl, rfl, rfl, rfl, rfl, rfl, rfl, rfl, rfl, rfl, rfl, rfl, rfl⟩ := dq_r23 hf
    exact ct_iret hx hb hr hlocks hAe hP hK hD hS dX6_wears_20
  · have hf := dq_f hf c3
    clear c3
    refine lv_iload_n hx hb dX6_wears_8 rfl (lv_at hl 2 rfl) ?_
    obtain ⟨x7, hy8, hf⟩ := dq_b hf
    refine ct_callS0 (own := RX6) (As := [.int n1]) (rest := []) ⟨hx, hb, hml, hown, hts⟩ (m_X6_isPeg l D y n1 x7 hy8) (va_cwS 1 hts (gA_S wl_976 wl_977 wl_2 wl_978) rfl rfl rfl (by decide +kernel) ⟨Nat.le_of_ble_eq_true rfl, Nat.le_of_ble_eq_true rfl⟩) rfl hl.1 rfl (Nat.le_of_ble_eq_true rfl) dX6_wears_9 ⟨Nat.zero_le _, Nat.zero_le _⟩ hK hP hD hS hA (fun H locs hP hD hS => ?_)
    refine lv_if_ne (tgt := 21) hx hb dX6_wears_12 (by decide) (fun c9 => ?_) (fun c9 => ?_)
    · have hf := dq_f hf c9
      clear c9
      refine lv_aload_n hx hb dX6_wears_21 rfl (lv_at hl 0 rfl) ?_
      refine va_get (D := D) (ci := 5) (v := .ref (a 126)) (C := RX6) (T := TX6) (N := 12) hx hb hts iwX6 hown hK hP 0 rfl rfl 6 (by decide) (hts _ wl_29) (fun _ h9 => h9) rfl dX6_wears_22 ?_
      refine lv_iload_n hx hb dX6_wears_25 rfl (lv_at hl 2 rfl) ?_
      refine lv_iload_n hx hb dX6_wears_26 rfl (lv_at hl 3 rfl) ?_
      obtain ⟨x10, hy11, hf⟩ := dq_b hf
      refine ct_callVS (ci := 3) (q0 := 0) (own := RX6) (As := [.int n1, .int n2]) (rest := []) (L' := (w_X6 y a g_hasImage g_toldCount g_n_shutBits g_n_airs g_n_crownedBits g_n_sitters g_n_onBits g_n_turn g_n_taken g_n_warmth g_n_kind g_n_figure g_n_airCell g_n_way g_n_seat g_n_shawls g_n_count g_n_steps g_n_numbers g_m_shutBits g_m_airs g_m_crownedBits g_m_sitters g_m_onBits g_m_turn g_m_taken g_m_warmth g_m_kind g_m_figure g_m_airCell g_m_way g_m_seat g_m_shawls g_m_count g_m_steps g_m_numbers g_i_shutBits g_i_airs g_i_crownedBits g_i_sitters g_i_onBits g_i_turn g_i_taken g_i_warmth g_i_kind g_i_figure g_i_airCell g_i_way g_i_seat g_i_shawls g_i_count g_i_steps g_i_numbers g_past_next g_past_count g_text_length g_text_letters g_coats_sorts g_coats_sizes g_places g_coats_carried g_told g_refused g_oneHas g_otherHas)) (B := (w_blob y (fun k => a (34 + (1 + k))) g_k_shutBits g_k_airs g_k_crownedBits g_k_sitters g_k_onBits g_k_turn g_k_taken g_k_warmth g_k_kind g_k_figure g_k_airCell g_k_way g_k_seat g_k_shawls g_k_count g_k_steps g_k_numbers)) ⟨hx, hb, hml, hown, hts⟩ (m_X4_coatFault l D y (fun k => a (126 + k)) g_coats_sorts g_coats_sizes g_places g_coats_carried n1 n2 x10 hy11) (cwV 2 hts (gA_V wl_1027 wl_1028 wl_1029 wl_28 wl_1030) rfl rfl rfl (by decide +kernel) ⟨Nat.le_of_ble_eq_true rfl, Nat.le_of_ble_eq_true rfl⟩) rfl rfl rfl hl.1 rfl (Nat.le_of_ble_eq_true rfl) dX6_wears_27 ⟨Nat.zero_le _, Nat.zero_le _⟩ hK hP hD hS hA (ct_tail 37 8) rfl rfl (by decide) rfl (sg1 37 8 rfl rfl) (fun H locs hP hD hS => ?_)
      refine lv_istore (lv' := [(4, .int x10), (0, .ref (a 0)), (1, .int n0), (2, .int n1), (3, .int n2)]) hx hb dX6_wears_30 hl (by decide) rfl (fun ls hl => ?_)
      refine lv_iload hx hb dX6_wears_32 (lv_at hl 0 rfl) ?_
      refine lv_if_eq (tgt := 40) hx hb dX6_wears_34 (by decide) (fun c12 => ?_) (fun c12 => ?_)
      · have hf := dq_t hf c12
        clear c12
        refine lv_aload_n hx hb dX6_wears_40 rfl (lv_at hl 1 rfl) ?_
        refine va_get (D := D) (ci := 5) (v := .ref (a 34)) (C := RX6) (T := TX6) (N := 12) hx hb hts iwX6 hown hK hP 0 rfl rfl 4 (by decide) (hts _ wl_21) (fun _ h9 => h9) rfl dX6_wears_41 ?_
        refine lv_aload_n hx hb dX6_wears_44 rfl (lv_at hl 1 rfl) ?_
        refine va_get (D := D) (ci := 5) (v := .ref (a 1)) (C := RX6) (T := TX6) (N := 12) hx hb hts iwX6 hown hK hP 0 rfl rfl 0 (by decide) (hts _ wl_15) (fun _ h9 => h9) rfl dX6_wears_45 ?_
        obtain ⟨g_past_next_13, g_past_count_14, g_k_shutBits_15, g_k_airs_16, g_k_crownedBits_17, g_k_sitters_18, g_k_onBits_19, g_k_turn_20, g_k_taken_21, g_k_warmth_22, g_k_kind_23, g_k_figure_24, g_k_airCell_25, g_k_way_26, g_k_seat_27, g_k_shawls_28, g_k_count_29, g_k_steps_30, g_k_numbers_31, hy32, hf⟩ := dq_b19 hf
        refine ct_callVBS (ci := 2) (q0 := 0) (own := RX6) (As := [.ref (a 1)]) (rest := []) (L' := (w_X6 y a g_hasImage g_toldCount g_n_shutBits g_n_airs g_n_crownedBits g_n_sitters g_n_onBits g_n_turn g_n_taken g_n_warmth g_n_kind g_n_figure g_n_airCell g_n_way g_n_seat g_n_shawls g_n_count g_n_steps g_n_numbers g_m_shutBits g_m_airs g_m_crownedBits g_m_sitters g_m_onBits g_m_turn g_m_taken g_m_warmth g_m_kind g_m_figure g_m_airCell g_m_way g_m_seat g_m_shawls g_m_count g_m_steps g_m_numbers g_i_shutBits g_i_airs g_i_crownedBits g_i_sitters g_i_onBits g_i_turn g_i_taken g_i_warmth g_i_kind g_i_figure g_i_airCell g_i_way g_i_seat g_i_shawls g_i_count g_i_steps g_i_numbers g_past_next_13 g_past_count_14 g_text_length g_text_letters g_coats_sorts g_coats_sizes g_places g_coats_carried g_told g_refused g_oneHas g_otherHas)) (B' := (w_blob y (fun k => a (34 + (1 + k))) g_k_shutBits_15 g_k_airs_16 g_k_crownedBits_17 g_k_sitters_18 g_k_onBits_19 g_k_turn_20 g_k_taken_21 g_k_warmth_22 g_k_kind_23 g_k_figure_24 g_k_airCell_25 g_k_way_26 g_k_seat_27 g_k_shawls_28 g_k_count_29 g_k_steps_30 g_k_numbers_31)) ⟨hx, hb, hml, hown, hts⟩ (m_X3_keep l D y (fun k => a (34 + k)) (fun k => a (1 + k)) g_past_next g_past_count g_n_shutBits g_n_airs g_n_crownedBits g_n_sitters g_n_onBits g_n_turn g_n_taken g_n_warmth g_n_kind g_n_figure g_n_airCell g_n_way g_n_seat g_n_shawls g_n_count g_n_steps g_n_numbers g_k_shutBits g_k_airs g_k_crownedBits g_k_sitters g_k_onBits g_k_turn g_k_taken g_k_warmth g_k_kind g_k_figure g_k_airCell g_k_way g_k_seat g_k_shawls g_k_count g_k_steps g_k_numbers g_past_next_13 g_past_count_14 g_k_shutBits_15 g_k_airs_16 g_k_crownedBits_17 g_k_sitters_18 g_k_onBits_19 g_k_turn_20 g_k_taken_21 g_k_warmth_22 g_k_kind_23 g_k_figure_24 g_k_airCell_25 g_k_way_26 g_k_seat_27 g_k_shawls_28 g_k_count_29 g_k_steps_30 g_k_numbers_31 hy32) (cwV 1 hts (gA_V wl_640 wl_641 wl_642 wl_20 wl_643) rfl rfl rfl (by decide +kernel) ⟨Nat.le_of_ble_eq_true rfl, Nat.le_of_ble_eq_true rfl⟩) rfl rfl rfl hl.1 rfl (Nat.le_of_ble_eq_true rfl) dX6_wears_48 ⟨Nat.zero_le _, Nat.zero_le _⟩ hK hP hD hS hA (ct_tail 34 1 ++ ct_tail 1 11) rfl rfl (by decide) rfl (sg2 1 11 34 1 (by decide) rfl rfl rfl (fun i hi => fun q => hi ((List.mem_append.mp q).elim (fun r => List.mem_append_right _ r) (fun r => List.mem_append_left _ r)))) w_blob_len (fun H locs hP hD hS => ?_)
        refine lv_aload_n hx hb dX6_wears_51 rfl (lv_at hl 1 rfl) ?_
        refine va_get (D := D) (ci := 5) (v := .ref (a 126)) (C := RX6) (T := TX6) (N := 12) hx hb hts iwX6 hown hK hP 0 rfl rfl 6 (by decide) (hts _ wl_29) (fun _ h9 => h9) rfl dX6_wears_52 ?_
        refine va_get (D := D) (ci := 3) (v := .ref (a 129)) (C := RX4) (T := TX4) (N := 4) hx hb hts iwX4 hown hK hP 37 rfl rfl 2 (by decide) (hts _ wl_1026) (fun _ h9 => h9) rfl dX6_wears_55 ?_
        refine lv_iload_n hx hb dX6_wears_58 rfl (lv_at hl 3 rfl) ?_
        obtain ⟨h33, hf⟩ := dq_g hf
        obtain ⟨j52, hjj52, ej52⟩ := dq_ix h33
        have hjj52 : j52 = 0 ∨ j52 = 1 ∨ j52 = 2 := by omega
        rcases hjj52 with rfl | rfl | rfl
        · try rw [ej52] at hf
          refine dq_aldI (cA := y 4) (n := 3) (b := (a 130)) (f := (fun i => if i < 3 then some (a (126 + (4 + i))) else none)) hx hb hK hP 40 4 rfl rfl h33 (by rw [ej52]; rfl) dX6_wears_59 ?_
          refine lv_iload_n hx hb dX6_wears_60 rfl (lv_at hl 4 rfl) ?_
          obtain ⟨h53, hf⟩ := dq_g hf
          refine va_iald (cA := y 1) (n := 12) (f := (g_places 0)) hx hb hK hP 41 1 rfl rfl h53 dX6_wears_61 ?_
          refine lv_topi (fun x54 ex54 => ?_)
          have hf := dq_l hf x54 ex54
          clear ex54
          refine lv_istore (lv' := [(5, .int x54), (4, .int x10), (0, .ref (a 0)), (1, .int n0), (2, .int n1), (3, .int n2)]) hx hb dX6_wears_62 hl (by decide) rfl (fun ls hl => ?_)
          refine lv_aload_n hx hb dX6_wears_64 rfl (lv_at hl 2 rfl) ?_
          refine va_get (D := D) (ci := 5) (v := .ref (a 126)) (C := RX6) (T := TX6) (N := 12) hx hb hts iwX6 hown hK hP 0 rfl rfl 6 (by decide) (hts _ wl_29) (fun _ h9 => h9) rfl dX6_wears_65 ?_
          refine va_get (D := D) (ci := 3) (v := .ref (a 129)) (C := RX4) (T := TX4) (N := 4) hx hb hts iwX4 hown hK hP 37 rfl rfl 2 (by decide) (hts _ wl_1026) (fun _ h9 => h9) rfl dX6_wears_68 ?_
          refine lv_iload_n hx hb dX6_wears_71 rfl (lv_at hl 4 rfl) ?_
          obtain ⟨h55, hf⟩ := dq_g hf
          refine dq_aldI (cA := y 4) (n := 3) (b := (a 130)) (f := (fun i => if i < 3 then some (a (126 + (4 + i))) else none)) hx hb hK hP 40 4 rfl rfl h55 (by rw [ej52]; rfl) dX6_wears_72 ?_
          refine lv_iload_n hx hb dX6_wears_73 rfl (lv_at hl 5 rfl) ?_
          refine lv_iconst (v := 0) hx hb dX6_wears_74 (by decide) ?_
          obtain ⟨h56, hf⟩ := dq_g hf
          refine dq_iast (cA := y 1) (n := 12) (f := (g_places 0)) hx hb hK hP hD hS 41 1 rfl rfl h56 dX6_wears_75 (fun g_places_57 eg_places_57 H locs hP hD hS => ?_)
          have hf := dq_l hf g_places_57 eg_places_57
          clear eg_places_57
          have hP : va_P D vwCl ((w_X6 y a g_hasImage g_toldCount g_n_shutBits g_n_airs g_n_crownedBits g_n_sitters g_n_onBits g_n_turn g_n_taken g_n_warmth g_n_kind g_n_figure g_n_airCell g_n_way g_n_seat g_n_shawls g_n_count g_n_steps g_n_numbers g_m_shutBits g_m_airs g_m_crownedBits g_m_sitters g_m_onBits g_m_turn g_m_taken g_m_warmth g_m_kind g_m_figure g_m_airCell g_m_way g_m_seat g_m_shawls g_m_count g_m_steps g_m_numbers g_i_shutBits g_i_airs g_i_crownedBits g_i_sitters g_i_onBits g_i_turn g_i_taken g_i_warmth g_i_kind g_i_figure g_i_airCell g_i_way g_i_seat g_i_shawls g_i_count g_i_steps g_i_numbers g_past_next_13 g_past_count_14 g_text_length g_text_letters g_coats_sorts g_coats_sizes (va_up g_places 0 g_places_57) g_coats_carried g_told g_refused g_oneHas g_otherHas) ++ (w_blob y (fun k => a (34 + (1 + k))) g_k_shutBits_15 g_k_airs_16 g_k_crownedBits_17 g_k_sitters_18 g_k_onBits_19 g_k_turn_20 g_k_taken_21 g_k_warmth_22 g_k_kind_23 g_k_figure_24 g_k_airCell_25 g_k_way_26 g_k_seat_27 g_k_shawls_28 g_k_count_29 g_k_steps_30 g_k_numbers_31)) H := hP
          have hD : va_D A ((w_X6 y a g_hasImage g_toldCount g_n_shutBits g_n_airs g_n_crownedBits g_n_sitters g_n_onBits g_n_turn g_n_taken g_n_warmth g_n_kind g_n_figure g_n_airCell g_n_way g_n_seat g_n_shawls g_n_count g_n_steps g_n_numbers g_m_shutBits g_m_airs g_m_crownedBits g_m_sitters g_m_onBits g_m_turn g_m_taken g_m_warmth g_m_kind g_m_figure g_m_airCell g_m_way g_m_seat g_m_shawls g_m_count g_m_steps g_m_numbers g_i_shutBits g_i_airs g_i_crownedBits g_i_sitters g_i_onBits g_i_turn g_i_taken g_i_warmth g_i_kind g_i_figure g_i_airCell g_i_way g_i_seat g_i_shawls g_i_count g_i_steps g_i_numbers g_past_next_13 g_past_count_14 g_text_length g_text_letters g_coats_sorts g_coats_sizes (va_up g_places 0 g_places_57) g_coats_carried g_told g_refused g_oneHas g_otherHas) ++ (w_blob y (fun k => a (34 + (1 + k))) g_k_shutBits_15 g_k_airs_16 g_k_crownedBits_17 g_k_sitters_18 g_k_onBits_19 g_k_turn_20 g_k_taken_21 g_k_warmth_22 g_k_kind_23 g_k_figure_24 g_k_airCell_25 g_k_way_26 g_k_seat_27 g_k_shawls_28 g_k_count_29 g_k_steps_30 g_k_numbers_31)) := hD
          refine lv_iload hx hb dX6_wears_76 (lv_at hl 0 rfl) ?_
          refine lv_bipush (v := 10) hx hb dX6_wears_78 (by decide) ?_
          refine lv_idiv hx hb dX6_wears_80 (by decide) ?_
          refine lv_iconst (v := 2) hx hb dX6_wears_81 (by decide) ?_
          refine lv_icmp_ne (tgt := 95) hx hb dX6_wears_82 (by decide) (fun c58 => ?_) (fun c58 => ?_)
          · have hf := dq_f hf c58
            clear c58
            refine lv_iload hx hb dX6_wears_95 (lv_at hl 0 rfl) ?_
            refine lv_bipush (v := 10) hx hb dX6_wears_97 (by decide) ?_
            refine lv_irem hx hb dX6_wears_99 (by decide) ?_
            refine lv_topi (fun x59 ex59 => ?_)
            have hf := dq_l hf x59 ex59
            clear ex59
            refine lv_istore (lv' := [(6, .int x59), (5, .int x54), (4, .int x10), (0, .ref (a 0)), (1, .int n0), (2, .int n1), (3, .int n2)]) hx hb dX6_wears_100 hl (by decide) rfl (fun ls hl => ?_)
            refine lv_aload_n hx hb dX6_wears_102 rfl (lv_at hl 3 rfl) ?_
            refine va_get (D := D) (ci := 5) (v := .ref (a 1)) (C := RX6) (T := TX6) (N := 12) hx hb hts iwX6 hown hK hP 0 rfl rfl 0 (by decide) (hts _ wl_15) (fun _ h9 => h9) rfl dX6_wears_103 ?_
            refine va_get (D := D) (ci := 1) (v := .ref (a 8)) (C := RX2) (T := TX2) (N := 15) hx hb hts iwX2 hown hK hP 1 rfl rfl 10 (by decide) (hts _ wl_557) (fun _ h9 => h9) rfl dX6_wears_106 ?_
            refine lv_iload_n hx hb dX6_wears_109 rfl (lv_at hl 4 rfl) ?_
            refine lv_aload_n hx hb dX6_wears_110 rfl (lv_at hl 3 rfl) ?_
            refine va_get (D := D) (ci := 5) (v := .ref (a 1)) (C := RX6) (T := TX6) (N := 12) hx hb hts iwX6 hown hK hP 0 rfl rfl 0 (by decide) (hts _ wl_15) (fun _ h9 => h9) rfl dX6_wears_111 ?_
            refine va_get (D := D) (ci := 1) (v := .ref (a 8)) (C := RX2) (T := TX2) (N := 15) hx hb hts iwX2 hown hK hP 1 rfl rfl 10 (by decide) (hts _ wl_557) (fun _ h9 => h9) rfl dX6_wears_114 ?_
            refine lv_iload_n hx hb dX6_wears_117 rfl (lv_at hl 4 rfl) ?_
            obtain ⟨h60, hf⟩ := dq_g hf
            refine va_iald (cA := y 1) (n := 6) (f := g_n_shawls) hx hb hK hP 8 1 rfl rfl h60 dX6_wears_118 ?_
            refine lv_iload hx hb dX6_wears_119 (lv_at hl 0 rfl) ?_
            refine lv_iadd hx hb dX6_wears_121 ?_
            refine lv_bipush (v := 9) hx hb dX6_wears_122 (by decide) ?_
            refine va_mmin hx hb (hml.trans hl.1.symm) hown (hts _ wl_882) (hts _ wl_314) (hts _ wl_293) (hts _ wl_315) (Nat.le_of_ble_eq_true rfl) (Nat.le_of_ble_eq_true rfl) (Nat.zero_le _) (Nat.zero_le _) dX6_wears_124 ?_
            refine lv_topi (fun x61 ex61 => ?_)
            have hf := dq_l hf x61 ex61
            clear ex61
            obtain ⟨h62, hf⟩ := dq_g hf
            refine dq_iast (cA := y 1) (n := 6) (f := g_n_shawls) hx hb hK hP hD hS 8 1 rfl rfl h62 dX6_wears_127 (fun g_n_shawls_63 eg_n_shawls_63 H locs hP hD hS => ?_)
            have hf := dq_l hf g_n_shawls_63 eg_n_shawls_63
            clear eg_n_shawls_63
            have hP : va_P D vwCl ((w_X6 y a g_hasImage g_toldCount g_n_shutBits g_n_airs g_n_crownedBits g_n_sitters g_n_onBits g_n_turn g_n_taken g_n_warmth g_n_kind g_n_figure g_n_airCell g_n_way g_n_seat g_n_shawls_63 g_n_count g_n_steps g_n_numbers g_m_shutBits g_m_airs g_m_crownedBits g_m_sitters g_m_onBits g_m_turn g_m_taken g_m_warmth g_m_kind g_m_figure g_m_airCell g_m_way g_m_seat g_m_shawls g_m_count g_m_steps g_m_numbers g_i_shutBits g_i_airs g_i_crownedBits g_i_sitters g_i_onBits g_i_turn g_i_taken g_i_warmth g_i_kind g_i_figure g_i_airCell g_i_way g_i_seat g_i_shawls g_i_count g_i_steps g_i_numbers g_past_next_13 g_past_count_14 g_text_length g_text_letters g_coats_sorts g_coats_sizes (va_up g_places 0 g_places_57) g_coats_carried g_told g_refused g_oneHas g_otherHas) ++ (w_blob y (fun k => a (34 + (1 + k))) g_k_shutBits_15 g_k_airs_16 g_k_crownedBits_17 g_k_sitters_18 g_k_onBits_19 g_k_turn_20 g_k_taken_21 g_k_warmth_22 g_k_kind_23 g_k_figure_24 g_k_airCell_25 g_k_way_26 g_k_seat_27 g_k_shawls_28 g_k_count_29 g_k_steps_30 g_k_numbers_31)) H := hP
            have hD : va_D A ((w_X6 y a g_hasImage g_toldCount g_n_shutBits g_n_airs g_n_crownedBits g_n_sitters g_n_onBits g_n_turn g_n_taken g_n_warmth g_n_kind g_n_figure g_n_airCell g_n_way g_n_seat g_n_shawls_63 g_n_count g_n_steps g_n_numbers g_m_shutBits g_m_airs g_m_crownedBits g_m_sitters g_m_onBits g_m_turn g_m_taken g_m_warmth g_m_kind g_m_figure g_m_airCell g_m_way g_m_seat g_m_shawls g_m_count g_m_steps g_m_numbers g_i_shutBits g_i_airs g_i_crownedBits g_i_sitters g_i_onBits g_i_turn g_i_taken g_i_warmth g_i_kind g_i_figure g_i_airCell g_i_way g_i_seat g_i_shawls g_i_count g_i_steps g_i_numbers g_past_next_13 g_past_count_14 g_text_length g_text_letters g_coats_sorts g_coats_sizes (va_up g_places 0 g_places_57) g_coats_carried g_told g_refused g_oneHas g_otherHas) ++ (w_blob y (fun k => a (34 + (1 + k))) g_k_shutBits_15 g_k_airs_16 g_k_crownedBits_17 g_k_sitters_18 g_k_onBits_19 g_k_turn_20 g_k_taken_21 g_k_warmth_22 g_k_kind_23 g_k_figure_24 g_k_airCell_25 g_k_way_26 g_k_seat_27 g_k_shawls_28 g_k_count_29 g_k_steps_30 g_k_numbers_31)) := hD
            refine lv_aload_n hx hb dX6_wears_128 rfl (lv_at hl 3 rfl) ?_
            refine va_get (D := D) (ci := 5) (v := .ref (a 1)) (C := RX6) (T := TX6) (N := 12) hx hb hts iwX6 hown hK hP 0 rfl rfl 0 (by decide) (hts _ wl_15) (fun _ h9 => h9) rfl dX6_wears_129 ?_
            refine va_get (D := D) (ci := 1) (v := .ref (a 8)) (C := RX2) (T := TX2) (N := 15) hx hb hts iwX2 hown hK hP 1 rfl rfl 10 (by decide) (hts _ wl_557) (fun _ h9 => h9) rfl dX6_wears_132 ?_
            refine lv_iload_n hx hb dX6_wears_135 rfl (lv_at hl 4 rfl) ?_
            obtain ⟨h64, hf⟩ := dq_g hf
            refine va_iald (cA := y 1) (n := 6) (f := g_n_shawls_63) hx hb hK hP 8 1 rfl rfl h64 dX6_wears_136 ?_
            obtain ⟨rfl, rfl, rfl, rfl, rfl, rfl, rfl, rfl, rfl, rfl, rfl, rfl, rfl, rfl, rfl, rfl, rfl, rfl, rfl, rfl, rfl, rfl, rfl⟩ := dq_r23 hf
            exact ct_iret hx hb hr hlocks hAe hP hK hD hS dX6_wears_137
          · have hf := dq_t hf c58
            clear c58
            refine lv_iconst (v := 2) hx hb dX6_wears_85 (by decide) ?_
            refine lv_iload hx hb dX6_wears_86 (lv_at hl 0 rfl) ?_
            refine lv_bipush (v := 10) hx hb dX6_wears_88 (by decide) ?_
            refine lv_irem hx hb dX6_wears_90 (by decide) ?_
            refine lv_imul hx hb dX6_wears_91 ?_
            refine lv_goto (tgt := 100) hx hb dX6_wears_92 (by decide) ?_
            refine lv_topi (fun x65 ex65 => ?_)
            have hf := dq_l hf x65 ex65
            clear ex65
            refine lv_istore (lv' := [(6, .int x65), (5, .int x54), (4, .int x10), (0, .ref (a 0)), (1, .int n0), (2, .int n1), (3, .int n2)]) hx hb dX6_wears_100 hl (by decide) rfl (fun ls hl => ?_)
            refine lv_aload_n hx hb dX6_wears_102 rfl (lv_at hl 3 rfl) ?_
            refine va_get (D := D) (ci := 5) (v := .ref (a 1)) (C := RX6) (T := TX6) (N := 12) hx hb hts iwX6 hown hK hP 0 rfl rfl 0 (by decide) (hts _ wl_15) (fun _ h9 => h9) rfl dX6_wears_103 ?_
            refine va_get (D := D) (ci := 1) (v := .ref (a 8)) (C := RX2) (T := TX2) (N := 15) hx hb hts iwX2 hown hK hP 1 rfl rfl 10 (by decide) (hts _ wl_557) (fun _ h9 => h9) rfl dX6_wears_106 ?_
            refine lv_iload_n hx hb dX6_wears_109 rfl (lv_at hl 4 rfl) ?_
            refine lv_aload_n hx hb dX6_wears_110 rfl (lv_at hl 3 rfl) ?_
            refine va_get (D := D) (ci := 5) (v := .ref (a 1)) (C := RX6) (T := TX6) (N := 12) hx hb hts iwX6 hown hK hP 0 rfl rfl 0 (by decide) (hts _ wl_15) (fun _ h9 => h9) rfl dX6_wears_111 ?_
            refine va_get (D := D) (ci := 1) (v := .ref (a 8)) (C := RX2) (T := TX2) (N := 15) hx hb hts iwX2 hown hK hP 1 rfl rfl 10 (by decide) (hts _ wl_557) (fun _ h9 => h9) rfl dX6_wears_114 ?_
            refine lv_iload_n hx hb dX6_wears_117 rfl (lv_at hl 4 rfl) ?_
            obtain ⟨h66, hf⟩ := dq_g hf
            refine va_iald (cA := y 1) (n := 6) (f := g_n_shawls) hx hb hK hP 8 1 rfl rfl h66 dX6_wears_118 ?_
            refine lv_iload hx hb dX6_wears_119 (lv_at hl 0 rfl) ?_
            refine lv_iadd hx hb dX6_wears_121 ?_
            refine lv_bipush (v := 9) hx hb dX6_wears_122 (by decide) ?_
            refine va_mmin hx hb (hml.trans hl.1.symm) hown (hts _ wl_882) (hts _ wl_314) (hts _ wl_293) (hts _ wl_315) (Nat.le_of_ble_eq_true rfl) (Nat.le_of_ble_eq_true rfl) (Nat.zero_le _) (Nat.zero_le _) dX6_wears_124 ?_
            refine lv_topi (fun x67 ex67 => ?_)
            have hf := dq_l hf x67 ex67
            clear ex67
            obtain ⟨h68, hf⟩ := dq_g hf
            refine dq_iast (cA := y 1) (n := 6) (f := g_n_shawls) hx hb hK hP hD hS 8 1 rfl rfl h68 dX6_wears_127 (fun g_n_shawls_69 eg_n_shawls_69 H locs hP hD hS => ?_)
            have hf := dq_l hf g_n_shawls_69 eg_n_shawls_69
            clear eg_n_shawls_69
            have hP : va_P D vwCl ((w_X6 y a g_hasImage g_toldCount g_n_shutBits g_n_airs g_n_crownedBits g_n_sitters g_n_onBits g_n_turn g_n_taken g_n_warmth g_n_kind g_n_figure g_n_airCell g_n_way g_n_seat g_n_shawls_69 g_n_count g_n_steps g_n_numbers g_m_shutBits g_m_airs g_m_crownedBits g_m_sitters g_m_onBits g_m_turn g_m_taken g_m_warmth g_m_kind g_m_figure g_m_airCell g_m_way g_m_seat g_m_shawls g_m_count g_m_steps g_m_numbers g_i_shutBits g_i_airs g_i_crownedBits g_i_sitters g_i_onBits g_i_turn g_i_taken g_i_warmth g_i_kind g_i_figure g_i_airCell g_i_way g_i_seat g_i_shawls g_i_count g_i_steps g_i_numbers g_past_next_13 g_past_count_14 g_text_length g_text_letters g_coats_sorts g_coats_sizes (va_up g_places 0 g_places_57) g_coats_carried g_told g_refused g_oneHas g_otherHas) ++ (w_blob y (fun k => a (34 + (1 + k))) g_k_shutBits_15 g_k_airs_16 g_k_crownedBits_17 g_k_sitters_18 g_k_onBits_19 g_k_turn_20 g_k_taken_21 g_k_warmth_22 g_k_kind_23 g_k_figure_24 g_k_airCell_25 g_k_way_26 g_k_seat_27 g_k_shawls_28 g_k_count_29 g_k_steps_30 g_k_numbers_31)) H := hP
            have hD : va_D A ((w_X6 y a g_hasImage g_toldCount g_n_shutBits g_n_airs g_n_crownedBits g_n_sitters g_n_onBits g_n_turn g_n_taken g_n_warmth g_n_kind g_n_figure g_n_airCell g_n_way g_n_seat g_n_shawls_69 g_n_count g_n_steps g_n_numbers g_m_shutBits g_m_airs g_m_crownedBits g_m_sitters g_m_onBits g_m_turn g_m_taken g_m_warmth g_m_kind g_m_figure g_m_airCell g_m_way g_m_seat g_m_shawls g_m_count g_m_steps g_m_numbers g_i_shutBits g_i_airs g_i_crownedBits g_i_sitters g_i_onBits g_i_turn g_i_taken g_i_warmth g_i_kind g_i_figure g_i_airCell g_i_way g_i_seat g_i_shawls g_i_count g_i_steps g_i_numbers g_past_next_13 g_past_count_14 g_text_length g_text_letters g_coats_sorts g_coats_sizes (va_up g_places 0 g_places_57) g_coats_carried g_told g_refused g_oneHas g_otherHas) ++ (w_blob y (fun k => a (34 + (1 + k))) g_k_shutBits_15 g_k_airs_16 g_k_crownedBits_17 g_k_sitters_18 g_k_onBits_19 g_k_turn_20 g_k_taken_21 g_k_warmth_22 g_k_kind_23 g_k_figure_24 g_k_airCell_25 g_k_way_26 g_k_seat_27 g_k_shawls_28 g_k_count_29 g_k_steps_30 g_k_numbers_31)) := hD
            refine lv_aload_n hx hb dX6_wears_128 rfl (lv_at hl 3 rfl) ?_
            refine va_get (D := D) (ci := 5) (v := .ref (a 1)) (C := RX6) (T := TX6) (N := 12) hx hb hts iwX6 hown hK hP 0 rfl rfl 0 (by decide) (hts _ wl_15) (fun _ h9 => h9) rfl dX6_wears_129 ?_
            refine va_get (D := D) (ci := 1) (v := .ref (a 8)) (C := RX2) (T := TX2) (N := 15) hx hb hts iwX2 hown hK hP 1 rfl rfl 10 (by decide) (hts _ wl_557) (fun _ h9 => h9) rfl dX6_wears_132 ?_
            refine lv_iload_n hx hb dX6_wears_135 rfl (lv_at hl 4 rfl) ?_
            obtain ⟨h70, hf⟩ := dq_g hf
            refine va_iald (cA := y 1) (n := 6) (f := g_n_shawls_69) hx hb hK hP 8 1 rfl rfl h70 dX6_wears_136 ?_
            obtain ⟨rfl, rfl, rfl, rfl, rfl, rfl, rfl, rfl, rfl, rfl, rfl, rfl, rfl, rfl, rfl, rfl, rfl, rfl, rfl, rfl, rfl, rfl, rfl⟩ := dq_r23 hf
            exact ct_iret hx hb hr hlocks hAe hP hK hD hS dX6_wears_137
        · try rw [ej52] at hf
          refine dq_aldI (cA := y 4) (n := 3) (b := (a 131)) (f := (fun i => if i < 3 then some (a (126 + (4 + i))) else none)) hx hb hK hP 40 4 rfl rfl h33 (by rw [ej52]; rfl) dX6_wears_59 ?_
          refine lv_iload_n hx hb dX6_wears_60 rfl (lv_at hl 4 rfl) ?_
          obtain ⟨h71, hf⟩ := dq_g hf
          refine va_iald (cA := y 1) (n := 12) (f := (g_places 1)) hx hb hK hP 42 1 rfl rfl h71 dX6_wears_61 ?_
          refine lv_topi (fun x72 ex72 => ?_)
          have hf := dq_l hf x72 ex72
          clear ex72
          refine lv_istore (lv' := [(5, .int x72), (4, .int x10), (0, .ref (a 0)), (1, .int n0), (2, .int n1), (3, .int n2)]) hx hb dX6_wears_62 hl (by decide) rfl (fun ls hl => ?_)
          refine lv_aload_n hx hb dX6_wears_64 rfl (lv_at hl 2 rfl) ?_
          refine va_get (D := D) (ci := 5) (v := .ref (a 126)) (C := RX6) (T := TX6) (N := 12) hx hb hts iwX6 hown hK hP 0 rfl rfl 6 (by decide) (hts _ wl_29) (fun _ h9 => h9) rfl dX6_wears_65 ?_
          refine va_get (D := D) (ci := 3) (v := .ref (a 129)) (C := RX4) (T := TX4) (N := 4) hx hb hts iwX4 hown hK hP 37 rfl rfl 2 (by decide) (hts _ wl_1026) (fun _ h9 => h9) rfl dX6_wears_68 ?_
          refine lv_iload_n hx hb dX6_wears_71 rfl (lv_at hl 4 rfl) ?_
          obtain ⟨h73, hf⟩ := dq_g hf
          refine dq_aldI (cA := y 4) (n := 3) (b := (a 131)) (f := (fun i => if i < 3 then some (a (126 + (4 + i))) else none)) hx hb hK hP 40 4 rfl rfl h73 (by rw [ej52]; rfl) dX6_wears_72 ?_
          refine lv_iload_n hx hb dX6_wears_73 rfl (lv_at hl 5 rfl) ?_
          refine lv_iconst (v := 0) hx hb dX6_wears_74 (by decide) ?_
          obtain ⟨h74, hf⟩ := dq_g hf
          refine dq_iast (cA := y 1) (n := 12) (f := (g_places 1)) hx hb hK hP hD hS 42 1 rfl rfl h74 dX6_wears_75 (fun g_places_75 eg_places_75 H locs hP hD hS => ?_)
          have hf := dq_l hf g_places_75 eg_places_75
          clear eg_places_75
          have hP : va_P D vwCl ((w_X6 y a g_hasImage g_toldCount g_n_shutBits g_n_airs g_n_crownedBits g_n_sitters g_n_onBits g_n_turn g_n_taken g_n_warmth g_n_kind g_n_figure g_n_airCell g_n_way g_n_seat g_n_shawls g_n_count g_n_steps g_n_numbers g_m_shutBits g_m_airs g_m_crownedBits g_m_sitters g_m_onBits g_m_turn g_m_taken g_m_warmth g_m_kind g_m_figure g_m_airCell g_m_way g_m_seat g_m_shawls g_m_count g_m_steps g_m_numbers g_i_shutBits g_i_airs g_i_crownedBits g_i_sitters g_i_onBits g_i_turn g_i_taken g_i_warmth g_i_kind g_i_figure g_i_airCell g_i_way g_i_seat g_i_shawls g_i_count g_i_steps g_i_numbers g_past_next_13 g_past_count_14 g_text_length g_text_letters g_coats_sorts g_coats_sizes (va_up g_places 1 g_places_75) g_coats_carried g_told g_refused g_oneHas g_otherHas) ++ (w_blob y (fun k => a (34 + (1 + k))) g_k_shutBits_15 g_k_airs_16 g_k_crownedBits_17 g_k_sitters_18 g_k_onBits_19 g_k_turn_20 g_k_taken_21 g_k_warmth_22 g_k_kind_23 g_k_figure_24 g_k_airCell_25 g_k_way_26 g_k_seat_27 g_k_shawls_28 g_k_count_29 g_k_steps_30 g_k_numbers_31)) H := hP
          have hD : va_D A ((w_X6 y a g_hasImage g_toldCount g_n_shutBits g_n_airs g_n_crownedBits g_n_sitters g_n_onBits g_n_turn g_n_taken g_n_warmth g_n_kind g_n_figure g_n_airCell g_n_way g_n_seat g_n_shawls g_n_count g_n_steps g_n_numbers g_m_shutBits g_m_airs g_m_crownedBits g_m_sitters g_m_onBits g_m_turn g_m_taken g_m_warmth g_m_kind g_m_figure g_m_airCell g_m_way g_m_seat g_m_shawls g_m_count g_m_steps g_m_numbers g_i_shutBits g_i_airs g_i_crownedBits g_i_sitters g_i_onBits g_i_turn g_i_taken g_i_warmth g_i_kind g_i_figure g_i_airCell g_i_way g_i_seat g_i_shawls g_i_count g_i_steps g_i_numbers g_past_next_13 g_past_count_14 g_text_length g_text_letters g_coats_sorts g_coats_sizes (va_up g_places 1 g_places_75) g_coats_carried g_told g_refused g_oneHas g_otherHas) ++ (w_blob y (fun k => a (34 + (1 + k))) g_k_shutBits_15 g_k_airs_16 g_k_crownedBits_17 g_k_sitters_18 g_k_onBits_19 g_k_turn_20 g_k_taken_21 g_k_warmth_22 g_k_kind_23 g_k_figure_24 g_k_airCell_25 g_k_way_26 g_k_seat_27 g_k_shawls_28 g_k_count_29 g_k_steps_30 g_k_numbers_31)) := hD
          refine lv_iload hx hb dX6_wears_76 (lv_at hl 0 rfl) ?_
          refine lv_bipush (v := 10) hx hb dX6_wears_78 (by decide) ?_
          refine lv_idiv hx hb dX6_wears_80 (by decide) ?_
          refine lv_iconst (v := 2) hx hb dX6_wears_81 (by decide) ?_
          refine lv_icmp_ne (tgt := 95) hx hb dX6_wears_82 (by decide) (fun c76 => ?_) (fun c76 => ?_)
          · have hf := dq_f hf c76
            clear c76
            refine lv_iload hx hb dX6_wears_95 (lv_at hl 0 rfl) ?_
            refine lv_bipush (v := 10) hx hb dX6_wears_97 (by decide) ?_
            refine lv_irem hx hb dX6_wears_99 (by decide) ?_
            refine lv_topi (fun x77 ex77 => ?_)
            have hf := dq_l hf x77 ex77
            clear ex77
            refine lv_istore (lv' := [(6, .int x77), (5, .int x72), (4, .int x10), (0, .ref (a 0)), (1, .int n0), (2, .int n1), (3, .int n2)]) hx hb dX6_wears_100 hl (by decide) rfl (fun ls hl => ?_)
            refine lv_aload_n hx hb dX6_wears_102 rfl (lv_at hl 3 rfl) ?_
            refine va_get (D := D) (ci := 5) (v := .ref (a 1)) (C := RX6) (T := TX6) (N := 12) hx hb hts iwX6 hown hK hP 0 rfl rfl 0 (by decide) (hts _ wl_15) (fun _ h9 => h9) rfl dX6_wears_103 ?_
            refine va_get (D := D) (ci := 1) (v := .ref (a 8)) (C := RX2) (T := TX2) (N := 15) hx hb hts iwX2 hown hK hP 1 rfl rfl 10 (by decide) (hts _ wl_557) (fun _ h9 => h9) rfl dX6_wears_106 ?_
            refine lv_iload_n hx hb dX6_wears_109 rfl (lv_at hl 4 rfl) ?_
            refine lv_aload_n hx hb dX6_wears_110 rfl (lv_at hl 3 rfl) ?_
            refine va_get (D := D) (ci := 5) (v := .ref (a 1)) (C := RX6) (T := TX6) (N := 12) hx hb hts iwX6 hown hK hP 0 rfl rfl 0 (by decide) (hts _ wl_15) (fun _ h9 => h9) rfl dX6_wears_111 ?_
            refine va_get (D := D) (ci := 1) (v := .ref (a 8)) (C := RX2) (T := TX2) (N := 15) hx hb hts iwX2 hown hK hP 1 rfl rfl 10 (by decide) (hts _ wl_557) (fun _ h9 => h9) rfl dX6_wears_114 ?_
            refine lv_iload_n hx hb dX6_wears_117 rfl (lv_at hl 4 rfl) ?_
            obtain ⟨h78, hf⟩ := dq_g hf
            refine va_iald (cA := y 1) (n := 6) (f := g_n_shawls) hx hb hK hP 8 1 rfl rfl h78 dX6_wears_118 ?_
            refine lv_iload hx hb dX6_wears_119 (lv_at hl 0 rfl) ?_
            refine lv_iadd hx hb dX6_wears_121 ?_
            refine lv_bipush (v := 9) hx hb dX6_wears_122 (by decide) ?_
            refine va_mmin hx hb (hml.trans hl.1.symm) hown (hts _ wl_882) (hts _ wl_314) (hts _ wl_293) (hts _ wl_315) (Nat.le_of_ble_eq_true rfl) (Nat.le_of_ble_eq_true rfl) (Nat.zero_le _) (Nat.zero_le _) dX6_wears_124 ?_
            refine lv_topi (fun x79 ex79 => ?_)
            have hf := dq_l hf x79 ex79
            clear ex79
            obtain ⟨h80, hf⟩ := dq_g hf
            refine dq_iast (cA := y 1) (n := 6) (f := g_n_shawls) hx hb hK hP hD hS 8 1 rfl rfl h80 dX6_wears_127 (fun g_n_shawls_81 eg_n_shawls_81 H locs hP hD hS => ?_)
            have hf := dq_l hf g_n_shawls_81 eg_n_shawls_81
            clear eg_n_shawls_81
            have hP : va_P D vwCl ((w_X6 y a g_hasImage g_toldCount g_n_shutBits g_n_airs g_n_crownedBits g_n_sitters g_n_onBits g_n_turn g_n_taken g_n_warmth g_n_kind g_n_figure g_n_airCell g_n_way g_n_seat g_n_shawls_81 g_n_count g_n_steps g_n_numbers g_m_shutBits g_m_airs g_m_crownedBits g_m_sitters g_m_onBits g_m_turn g_m_taken g_m_warmth g_m_kind g_m_figure g_m_airCell g_m_way g_m_seat g_m_shawls g_m_count g_m_steps g_m_numbers g_i_shutBits g_i_airs g_i_crownedBits g_i_sitters g_i_onBits g_i_turn g_i_taken g_i_warmth g_i_kind g_i_figure g_i_airCell g_i_way g_i_seat g_i_shawls g_i_count g_i_steps g_i_numbers g_past_next_13 g_past_count_14 g_text_length g_text_letters g_coats_sorts g_coats_sizes (va_up g_places 1 g_places_75) g_coats_carried g_told g_refused g_oneHas g_otherHas) ++ (w_blob y (fun k => a (34 + (1 + k))) g_k_shutBits_15 g_k_airs_16 g_k_crownedBits_17 g_k_sitters_18 g_k_onBits_19 g_k_turn_20 g_k_taken_21 g_k_warmth_22 g_k_kind_23 g_k_figure_24 g_k_airCell_25 g_k_way_26 g_k_seat_27 g_k_shawls_28 g_k_count_29 g_k_steps_30 g_k_numbers_31)) H := hP
            have hD : va_D A ((w_X6 y a g_hasImage g_toldCount g_n_shutBits g_n_airs g_n_crownedBits g_n_sitters g_n_onBits g_n_turn g_n_taken g_n_warmth g_n_kind g_n_figure g_n_airCell g_n_way g_n_seat g_n_shawls_81 g_n_count g_n_steps g_n_numbers g_m_shutBits g_m_airs g_m_crownedBits g_m_sitters g_m_onBits g_m_turn g_m_taken g_m_warmth g_m_kind g_m_figure g_m_airCell g_m_way g_m_seat g_m_shawls g_m_count g_m_steps g_m_numbers g_i_shutBits g_i_airs g_i_crownedBits g_i_sitters g_i_onBits g_i_turn g_i_taken g_i_warmth g_i_kind g_i_figure g_i_airCell g_i_way g_i_seat g_i_shawls g_i_count g_i_steps g_i_numbers g_past_next_13 g_past_count_14 g_text_length g_text_letters g_coats_sorts g_coats_sizes (va_up g_places 1 g_places_75) g_coats_carried g_told g_refused g_oneHas g_otherHas) ++ (w_blob y (fun k => a (34 + (1 + k))) g_k_shutBits_15 g_k_airs_16 g_k_crownedBits_17 g_k_sitters_18 g_k_onBits_19 g_k_turn_20 g_k_taken_21 g_k_warmth_22 g_k_kind_23 g_k_figure_24 g_k_airCell_25 g_k_way_26 g_k_seat_27 g_k_shawls_28 g_k_count_29 g_k_steps_30 g_k_numbers_31)) := hD
            refine lv_aload_n hx hb dX6_wears_128 rfl (lv_at hl 3 rfl) ?_
            refine va_get (D := D) (ci := 5) (v := .ref (a 1)) (C := RX6) (T := TX6) (N := 12) hx hb hts iwX6 hown hK hP 0 rfl rfl 0 (by decide) (hts _ wl_15) (fun _ h9 => h9) rfl dX6_wears_129 ?_
            refine va_get (D := D) (ci := 1) (v := .ref (a 8)) (C := RX2) (T := TX2) (N := 15) hx hb hts iwX2 hown hK hP 1 rfl rfl 10 (by decide) (hts _ wl_557) (fun _ h9 => h9) rfl dX6_wears_132 ?_
            refine lv_iload_n hx hb dX6_wears_135 rfl (lv_at hl 4 rfl) ?_
            obtain ⟨h82, hf⟩ := dq_g hf
            refine va_iald (cA := y 1) (n := 6) (f := g_n_shawls_81) hx hb hK hP 8 1 rfl rfl h82 dX6_wears_136 ?_
            obtain ⟨rfl, rfl, rfl, rfl, rfl, rfl, rfl, rfl, rfl, rfl, rfl, rfl, rfl, rfl, rfl, rfl, rfl, rfl, rfl, rfl, rfl, rfl, rfl⟩ := dq_r23 hf
            exact ct_iret hx hb hr hlocks hAe hP hK hD hS dX6_wears_137
          · have hf := dq_t hf c76
            clear c76
            refine lv_iconst (v := 2) hx hb dX6_wears_85 (by decide) ?_
            refine lv_iload hx hb dX6_wears_86 (lv_at hl 0 rfl) ?_
            refine lv_bipush (v := 10) hx hb dX6_wears_88 (by decide) ?_
            refine lv_irem hx hb dX6_wears_90 (by decide) ?_
            refine lv_imul hx hb dX6_wears_91 ?_
            refine lv_goto (tgt := 100) hx hb dX6_wears_92 (by decide) ?_
            refine lv_topi (fun x83 ex83 => ?_)
            have hf := dq_l hf x83 ex83
            clear ex83
            refine lv_istore (lv' := [(6, .int x83), (5, .int x72), (4, .int x10), (0, .ref (a 0)), (1, .int n0), (2, .int n1), (3, .int n2)]) hx hb dX6_wears_100 hl (by decide) rfl (fun ls hl => ?_)
            refine lv_aload_n hx hb dX6_wears_102 rfl (lv_at hl 3 rfl) ?_
            refine va_get (D := D) (ci := 5) (v := .ref (a 1)) (C := RX6) (T := TX6) (N := 12) hx hb hts iwX6 hown hK hP 0 rfl rfl 0 (by decide) (hts _ wl_15) (fun _ h9 => h9) rfl dX6_wears_103 ?_
            refine va_get (D := D) (ci := 1) (v := .ref (a 8)) (C := RX2) (T := TX2) (N := 15) hx hb hts iwX2 hown hK hP 1 rfl rfl 10 (by decide) (hts _ wl_557) (fun _ h9 => h9) rfl dX6_wears_106 ?_
            refine lv_iload_n hx hb dX6_wears_109 rfl (lv_at hl 4 rfl) ?_
            refine lv_aload_n hx hb dX6_wears_110 rfl (lv_at hl 3 rfl) ?_
            refine va_get (D := D) (ci := 5) (v := .ref (a 1)) (C := RX6) (T := TX6) (N := 12) hx hb hts iwX6 hown hK hP 0 rfl rfl 0 (by decide) (hts _ wl_15) (fun _ h9 => h9) rfl dX6_wears_111 ?_
            refine va_get (D := D) (ci := 1) (v := .ref (a 8)) (C := RX2) (T := TX2) (N := 15) hx hb hts iwX2 hown hK hP 1 rfl rfl 10 (by decide) (hts _ wl_557) (fun _ h9 => h9) rfl dX6_wears_114 ?_
            refine lv_iload_n hx hb dX6_wears_117 rfl (lv_at hl 4 rfl) ?_
            obtain ⟨h84, hf⟩ := dq_g hf
            refine va_iald (cA := y 1) (n := 6) (f := g_n_shawls) hx hb hK hP 8 1 rfl rfl h84 dX6_wears_118 ?_
            refine lv_iload hx hb dX6_wears_119 (lv_at hl 0 rfl) ?_
            refine lv_iadd hx hb dX6_wears_121 ?_
            refine lv_bipush (v := 9) hx hb dX6_wears_122 (by decide) ?_
            refine va_mmin hx hb (hml.trans hl.1.symm) hown (hts _ wl_882) (hts _ wl_314) (hts _ wl_293) (hts _ wl_315) (Nat.le_of_ble_eq_true rfl) (Nat.le_of_ble_eq_true rfl) (Nat.zero_le _) (Nat.zero_le _) dX6_wears_124 ?_
            refine lv_topi (fun x85 ex85 => ?_)
            have hf := dq_l hf x85 ex85
            clear ex85
            obtain ⟨h86, hf⟩ := dq_g hf
            refine dq_iast (cA := y 1) (n := 6) (f := g_n_shawls) hx hb hK hP hD hS 8 1 rfl rfl h86 dX6_wears_127 (fun g_n_shawls_87 eg_n_shawls_87 H locs hP hD hS => ?_)
            have hf := dq_l hf g_n_shawls_87 eg_n_shawls_87
            clear eg_n_shawls_87
            have hP : va_P D vwCl ((w_X6 y a g_hasImage g_toldCount g_n_shutBits g_n_airs g_n_crownedBits g_n_sitters g_n_onBits g_n_turn g_n_taken g_n_warmth g_n_kind g_n_figure g_n_airCell g_n_way g_n_seat g_n_shawls_87 g_n_count g_n_steps g_n_numbers g_m_shutBits g_m_airs g_m_crownedBits g_m_sitters g_m_onBits g_m_turn g_m_taken g_m_warmth g_m_kind g_m_figure g_m_airCell g_m_way g_m_seat g_m_shawls g_m_count g_m_steps g_m_numbers g_i_shutBits g_i_airs g_i_crownedBits g_i_sitters g_i_onBits g_i_turn g_i_taken g_i_warmth g_i_kind g_i_figure g_i_airCell g_i_way g_i_seat g_i_shawls g_i_count g_i_steps g_i_numbers g_past_next_13 g_past_count_14 g_text_length g_text_letters g_coats_sorts g_coats_sizes (va_up g_places 1 g_places_75) g_coats_carried g_told g_refused g_oneHas g_otherHas) ++ (w_blob y (fun k => a (34 + (1 + k))) g_k_shutBits_15 g_k_airs_16 g_k_crownedBits_17 g_k_sitters_18 g_k_onBits_19 g_k_turn_20 g_k_taken_21 g_k_warmth_22 g_k_kind_23 g_k_figure_24 g_k_airCell_25 g_k_way_26 g_k_seat_27 g_k_shawls_28 g_k_count_29 g_k_steps_30 g_k_numbers_31)) H := hP
            have hD : va_D A ((w_X6 y a g_hasImage g_toldCount g_n_shutBits g_n_airs g_n_crownedBits g_n_sitters g_n_onBits g_n_turn g_n_taken g_n_warmth g_n_kind g_n_figure g_n_airCell g_n_way g_n_seat g_n_shawls_87 g_n_count g_n_steps g_n_numbers g_m_shutBits g_m_airs g_m_crownedBits g_m_sitters g_m_onBits g_m_turn g_m_taken g_m_warmth g_m_kind g_m_figure g_m_airCell g_m_way g_m_seat g_m_shawls g_m_count g_m_steps g_m_numbers g_i_shutBits g_i_airs g_i_crownedBits g_i_sitters g_i_onBits g_i_turn g_i_taken g_i_warmth g_i_kind g_i_figure g_i_airCell g_i_way g_i_seat g_i_shawls g_i_count g_i_steps g_i_numbers g_past_next_13 g_past_count_14 g_text_length g_text_letters g_coats_sorts g_coats_sizes (va_up g_places 1 g_places_75) g_coats_carried g_told g_refused g_oneHas g_otherHas) ++ (w_blob y (fun k => a (34 + (1 + k))) g_k_shutBits_15 g_k_airs_16 g_k_crownedBits_17 g_k_sitters_18 g_k_onBits_19 g_k_turn_20 g_k_taken_21 g_k_warmth_22 g_k_kind_23 g_k_figure_24 g_k_airCell_25 g_k_way_26 g_k_seat_27 g_k_shawls_28 g_k_count_29 g_k_steps_30 g_k_numbers_31)) := hD
            refine lv_aload_n hx hb dX6_wears_128 rfl (lv_at hl 3 rfl) ?_
            refine va_get (D := D) (ci := 5) (v := .ref (a 1)) (C := RX6) (T := TX6) (N := 12) hx hb hts iwX6 hown hK hP 0 rfl rfl 0 (by decide) (hts _ wl_15) (fun _ h9 => h9) rfl dX6_wears_129 ?_
            refine va_get (D := D) (ci := 1) (v := .ref (a 8)) (C := RX2) (T := TX2) (N := 15) hx hb hts iwX2 hown hK hP 1 rfl rfl 10 (by decide) (hts _ wl_557) (fun _ h9 => h9) rfl dX6_wears_132 ?_
            refine lv_iload_n hx hb dX6_wears_135 rfl (lv_at hl 4 rfl) ?_
            obtain ⟨h88, hf⟩ := dq_g hf
            refine va_iald (cA := y 1) (n := 6) (f := g_n_shawls_87) hx hb hK hP 8 1 rfl rfl h88 dX6_wears_136 ?_
            obtain ⟨rfl, rfl, rfl, rfl, rfl, rfl, rfl, rfl, rfl, rfl, rfl, rfl, rfl, rfl, rfl, rfl, rfl, rfl, rfl, rfl, rfl, rfl, rfl⟩ := dq_r23 hf
            exact ct_iret hx hb hr hlocks hAe hP hK hD hS dX6_wears_137
        · try rw [ej52] at hf
          refine dq_aldI (cA := y 4) (n := 3) (b := (a 132)) (f := (fun i => if i < 3 then some (a (126 + (4 + i))) else none)) hx hb hK hP 40 4 rfl rfl h33 (by rw [ej52]; rfl) dX6_wears_59 ?_
          refine lv_iload_n hx hb dX6_wears_60 rfl (lv_at hl 4 rfl) ?_
          obtain ⟨h89, hf⟩ := dq_g hf
          refine va_iald (cA := y 1) (n := 12) (f := (g_places 2)) hx hb hK hP 43 1 rfl rfl h89 dX6_wears_61 ?_
          refine lv_topi (fun x90 ex90 => ?_)
          have hf := dq_l hf x90 ex90
          clear ex90
          refine lv_istore (lv' := [(5, .int x90), (4, .int x10), (0, .ref (a 0)), (1, .int n0), (2, .int n1), (3, .int n2)]) hx hb dX6_wears_62 hl (by decide) rfl (fun ls hl => ?_)
          refine lv_aload_n hx hb dX6_wears_64 rfl (lv_at hl 2 rfl) ?_
          refine va_get (D := D) (ci := 5) (v := .ref (a 126)) (C := RX6) (T := TX6) (N := 12) hx hb hts iwX6 hown hK hP 0 rfl rfl 6 (by decide) (hts _ wl_29) (fun _ h9 => h9) rfl dX6_wears_65 ?_
          refine va_get (D := D) (ci := 3) (v := .ref (a 129)) (C := RX4) (T := TX4) (N := 4) hx hb hts iwX4 hown hK hP 37 rfl rfl 2 (by decide) (hts _ wl_1026) (fun _ h9 => h9) rfl dX6_wears_68 ?_
          refine lv_iload_n hx hb dX6_wears_71 rfl (lv_at hl 4 rfl) ?_
          obtain ⟨h91, hf⟩ := dq_g hf
          refine dq_aldI (cA := y 4) (n := 3) (b := (a 132)) (f := (fun i => if i < 3 then some (a (126 + (4 + i))) else none)) hx hb hK hP 40 4 rfl rfl h91 (by rw [ej52]; rfl) dX6_wears_72 ?_
          refine lv_iload_n hx hb dX6_wears_73 rfl (lv_at hl 5 rfl) ?_
          refine lv_iconst (v := 0) hx hb dX6_wears_74 (by decide) ?_
          obtain ⟨h92, hf⟩ := dq_g hf
          refine dq_iast (cA := y 1) (n := 12) (f := (g_places 2)) hx hb hK hP hD hS 43 1 rfl rfl h92 dX6_wears_75 (fun g_places_93 eg_places_93 H locs hP hD hS => ?_)
          have hf := dq_l hf g_places_93 eg_places_93
          clear eg_places_93
          have hP : va_P D vwCl ((w_X6 y a g_hasImage g_toldCount g_n_shutBits g_n_airs g_n_crownedBits g_n_sitters g_n_onBits g_n_turn g_n_taken g_n_warmth g_n_kind g_n_figure g_n_airCell g_n_way g_n_seat g_n_shawls g_n_count g_n_steps g_n_numbers g_m_shutBits g_m_airs g_m_crownedBits g_m_sitters g_m_onBits g_m_turn g_m_taken g_m_warmth g_m_kind g_m_figure g_m_airCell g_m_way g_m_seat g_m_shawls g_m_count g_m_steps g_m_numbers g_i_shutBits g_i_airs g_i_crownedBits g_i_sitters g_i_onBits g_i_turn g_i_taken g_i_warmth g_i_kind g_i_figure g_i_airCell g_i_way g_i_seat g_i_shawls g_i_count g_i_steps g_i_numbers g_past_next_13 g_past_count_14 g_text_length g_text_letters g_coats_sorts g_coats_sizes (va_up g_places 2 g_places_93) g_coats_carried g_told g_refused g_oneHas g_otherHas) ++ (w_blob y (fun k => a (34 + (1 + k))) g_k_shutBits_15 g_k_airs_16 g_k_crownedBits_17 g_k_sitters_18 g_k_onBits_19 g_k_turn_20 g_k_taken_21 g_k_warmth_22 g_k_kind_23 g_k_figure_24 g_k_airCell_25 g_k_way_26 g_k_seat_27 g_k_shawls_28 g_k_count_29 g_k_steps_30 g_k_numbers_31)) H := hP
          have hD : va_D A ((w_X6 y a g_hasImage g_toldCount g_n_shutBits g_n_airs g_n_crownedBits g_n_sitters g_n_onBits g_n_turn g_n_taken g_n_warmth g_n_kind g_n_figure g_n_airCell g_n_way g_n_seat g_n_shawls g_n_count g_n_steps g_n_numbers g_m_shutBits g_m_airs g_m_crownedBits g_m_sitters g_m_onBits g_m_turn g_m_taken g_m_warmth g_m_kind g_m_figure g_m_airCell g_m_way g_m_seat g_m_shawls g_m_count g_m_steps g_m_numbers g_i_shutBits g_i_airs g_i_crownedBits g_i_sitters g_i_onBits g_i_turn g_i_taken g_i_warmth g_i_kind g_i_figure g_i_airCell g_i_way g_i_seat g_i_shawls g_i_count g_i_steps g_i_numbers g_past_next_13 g_past_count_14 g_text_length g_text_letters g_coats_sorts g_coats_sizes (va_up g_places 2 g_places_93) g_coats_carried g_told g_refused g_oneHas g_otherHas) ++ (w_blob y (fun k => a (34 + (1 + k))) g_k_shutBits_15 g_k_airs_16 g_k_crownedBits_17 g_k_sitters_18 g_k_onBits_19 g_k_turn_20 g_k_taken_21 g_k_warmth_22 g_k_kind_23 g_k_figure_24 g_k_airCell_25 g_k_way_26 g_k_seat_27 g_k_shawls_28 g_k_count_29 g_k_steps_30 g_k_numbers_31)) := hD
          refine lv_iload hx hb dX6_wears_76 (lv_at hl 0 rfl) ?_
          refine lv_bipush (v := 10) hx hb dX6_wears_78 (by decide) ?_
          refine lv_idiv hx hb dX6_wears_80 (by decide) ?_
          refine lv_iconst (v := 2) hx hb dX6_wears_81 (by decide) ?_
          refine lv_icmp_ne (tgt := 95) hx hb dX6_wears_82 (by decide) (fun c94 => ?_) (fun c94 => ?_)
          · have hf := dq_f hf c94
            clear c94
            refine lv_iload hx hb dX6_wears_95 (lv_at hl 0 rfl) ?_
            refine lv_bipush (v := 10) hx hb dX6_wears_97 (by decide) ?_
            refine lv_irem hx hb dX6_wears_99 (by decide) ?_
            refine lv_topi (fun x95 ex95 => ?_)
            have hf := dq_l hf x95 ex95
            clear ex95
            refine lv_istore (lv' := [(6, .int x95), (5, .int x90), (4, .int x10), (0, .ref (a 0)), (1, .int n0), (2, .int n1), (3, .int n2)]) hx hb dX6_wears_100 hl (by decide) rfl (fun ls hl => ?_)
            refine lv_aload_n hx hb dX6_wears_102 rfl (lv_at hl 3 rfl) ?_
            refine va_get (D := D) (ci := 5) (v := .ref (a 1)) (C := RX6) (T := TX6) (N := 12) hx hb hts iwX6 hown hK hP 0 rfl rfl 0 (by decide) (hts _ wl_15) (fun _ h9 => h9) rfl dX6_wears_103 ?_
            refine va_get (D := D) (ci := 1) (v := .ref (a 8)) (C := RX2) (T := TX2) (N := 15) hx hb hts iwX2 hown hK hP 1 rfl rfl 10 (by decide) (hts _ wl_557) (fun _ h9 => h9) rfl dX6_wears_106 ?_
            refine lv_iload_n hx hb dX6_wears_109 rfl (lv_at hl 4 rfl) ?_
            refine lv_aload_n hx hb dX6_wears_110 rfl (lv_at hl 3 rfl) ?_
            refine va_get (D := D) (ci := 5) (v := .ref (a 1)) (C := RX6) (T := TX6) (N := 12) hx hb hts iwX6 hown hK hP 0 rfl rfl 0 (by decide) (hts _ wl_15) (fun _ h9 => h9) rfl dX6_wears_111 ?_
            refine va_get (D := D) (ci := 1) (v := .ref (a 8)) (C := RX2) (T := TX2) (N := 15) hx hb hts iwX2 hown hK hP 1 rfl rfl 10 (by decide) (hts _ wl_557) (fun _ h9 => h9) rfl dX6_wears_114 ?_
            refine lv_iload_n hx hb dX6_wears_117 rfl (lv_at hl 4 rfl) ?_
            obtain ⟨h96, hf⟩ := dq_g hf
            refine va_iald (cA := y 1) (n := 6) (f := g_n_shawls) hx hb hK hP 8 1 rfl rfl h96 dX6_wears_118 ?_
            refine lv_iload hx hb dX6_wears_119 (lv_at hl 0 rfl) ?_
            refine lv_iadd hx hb dX6_wears_121 ?_
            refine lv_bipush (v := 9) hx hb dX6_wears_122 (by decide) ?_
            refine va_mmin hx hb (hml.trans hl.1.symm) hown (hts _ wl_882) (hts _ wl_314) (hts _ wl_293) (hts _ wl_315) (Nat.le_of_ble_eq_true rfl) (Nat.le_of_ble_eq_true rfl) (Nat.zero_le _) (Nat.zero_le _) dX6_wears_124 ?_
            refine lv_topi (fun x97 ex97 => ?_)
            have hf := dq_l hf x97 ex97
            clear ex97
            obtain ⟨h98, hf⟩ := dq_g hf
            refine dq_iast (cA := y 1) (n := 6) (f := g_n_shawls) hx hb hK hP hD hS 8 1 rfl rfl h98 dX6_wears_127 (fun g_n_shawls_99 eg_n_shawls_99 H locs hP hD hS => ?_)
            have hf := dq_l hf g_n_shawls_99 eg_n_shawls_99
            clear eg_n_shawls_99
            have hP : va_P D vwCl ((w_X6 y a g_hasImage g_toldCount g_n_shutBits g_n_airs g_n_crownedBits g_n_sitters g_n_onBits g_n_turn g_n_taken g_n_warmth g_n_kind g_n_figure g_n_airCell g_n_way g_n_seat g_n_shawls_99 g_n_count g_n_steps g_n_numbers g_m_shutBits g_m_airs g_m_crownedBits g_m_sitters g_m_onBits g_m_turn g_m_taken g_m_warmth g_m_kind g_m_figure g_m_airCell g_m_way g_m_seat g_m_shawls g_m_count g_m_steps g_m_numbers g_i_shutBits g_i_airs g_i_crownedBits g_i_sitters g_i_onBits g_i_turn g_i_taken g_i_warmth g_i_kind g_i_figure g_i_airCell g_i_way g_i_seat g_i_shawls g_i_count g_i_steps g_i_numbers g_past_next_13 g_past_count_14 g_text_length g_text_letters g_coats_sorts g_coats_sizes (va_up g_places 2 g_places_93) g_coats_carried g_told g_refused g_oneHas g_otherHas) ++ (w_blob y (fun k => a (34 + (1 + k))) g_k_shutBits_15 g_k_airs_16 g_k_crownedBits_17 g_k_sitters_18 g_k_onBits_19 g_k_turn_20 g_k_taken_21 g_k_warmth_22 g_k_kind_23 g_k_figure_24 g_k_airCell_25 g_k_way_26 g_k_seat_27 g_k_shawls_28 g_k_count_29 g_k_steps_30 g_k_numbers_31)) H := hP
            have hD : va_D A ((w_X6 y a g_hasImage g_toldCount g_n_shutBits g_n_airs g_n_crownedBits g_n_sitters g_n_onBits g_n_turn g_n_taken g_n_warmth g_n_kind g_n_figure g_n_airCell g_n_way g_n_seat g_n_shawls_99 g_n_count g_n_steps g_n_numbers g_m_shutBits g_m_airs g_m_crownedBits g_m_sitters g_m_onBits g_m_turn g_m_taken g_m_warmth g_m_kind g_m_figure g_m_airCell g_m_way g_m_seat g_m_shawls g_m_count g_m_steps g_m_numbers g_i_shutBits g_i_airs g_i_crownedBits g_i_sitters g_i_onBits g_i_turn g_i_taken g_i_warmth g_i_kind g_i_figure g_i_airCell g_i_way g_i_seat g_i_shawls g_i_count g_i_steps g_i_numbers g_past_next_13 g_past_count_14 g_text_length g_text_letters g_coats_sorts g_coats_sizes (va_up g_places 2 g_places_93) g_coats_carried g_told g_refused g_oneHas g_otherHas) ++ (w_blob y (fun k => a (34 + (1 + k))) g_k_shutBits_15 g_k_airs_16 g_k_crownedBits_17 g_k_sitters_18 g_k_onBits_19 g_k_turn_20 g_k_taken_21 g_k_warmth_22 g_k_kind_23 g_k_figure_24 g_k_airCell_25 g_k_way_26 g_k_seat_27 g_k_shawls_28 g_k_count_29 g_k_steps_30 g_k_numbers_31)) := hD
            refine lv_aload_n hx hb dX6_wears_128 rfl (lv_at hl 3 rfl) ?_
            refine va_get (D := D) (ci := 5) (v := .ref (a 1)) (C := RX6) (T := TX6) (N := 12) hx hb hts iwX6 hown hK hP 0 rfl rfl 0 (by decide) (hts _ wl_15) (fun _ h9 => h9) rfl dX6_wears_129 ?_
            refine va_get (D := D) (ci := 1) (v := .ref (a 8)) (C := RX2) (T := TX2) (N := 15) hx hb hts iwX2 hown hK hP 1 rfl rfl 10 (by decide) (hts _ wl_557) (fun _ h9 => h9) rfl dX6_wears_132 ?_
            refine lv_iload_n hx hb dX6_wears_135 rfl (lv_at hl 4 rfl) ?_
            obtain ⟨h100, hf⟩ := dq_g hf
            refine va_iald (cA := y 1) (n := 6) (f := g_n_shawls_99) hx hb hK hP 8 1 rfl rfl h100 dX6_wears_136 ?_
            obtain ⟨rfl, rfl, rfl, rfl, rfl, rfl, rfl, rfl, rfl, rfl, rfl, rfl, rfl, rfl, rfl, rfl, rfl, rfl, rfl, rfl, rfl, rfl, rfl⟩ := dq_r23 hf
            exact ct_iret hx hb hr hlocks hAe hP hK hD hS dX6_wears_137
          · have hf := dq_t hf c94
            clear c94
            refine lv_iconst (v := 2) hx hb dX6_wears_85 (by decide) ?_
            refine lv_iload hx hb dX6_wears_86 (lv_at hl 0 rfl) ?_
            refine lv_bipush (v := 10) hx hb dX6_wears_88 (by decide) ?_
            refine lv_irem hx hb dX6_wears_90 (by decide) ?_
            refine lv_imul hx hb dX6_wears_91 ?_
            refine lv_goto (tgt := 100) hx hb dX6_wears_92 (by decide) ?_
            refine lv_topi (fun x101 ex101 => ?_)
            have hf := dq_l hf x101 ex101
            clear ex101
            refine lv_istore (lv' := [(6, .int x101), (5, .int x90), (4, .int x10), (0, .ref (a 0)), (1, .int n0), (2, .int n1), (3, .int n2)]) hx hb dX6_wears_100 hl (by decide) rfl (fun ls hl => ?_)
            refine lv_aload_n hx hb dX6_wears_102 rfl (lv_at hl 3 rfl) ?_
            refine va_get (D := D) (ci := 5) (v := .ref (a 1)) (C := RX6) (T := TX6) (N := 12) hx hb hts iwX6 hown hK hP 0 rfl rfl 0 (by decide) (hts _ wl_15) (fun _ h9 => h9) rfl dX6_wears_103 ?_
            refine va_get (D := D) (ci := 1) (v := .ref (a 8)) (C := RX2) (T := TX2) (N := 15) hx hb hts iwX2 hown hK hP 1 rfl rfl 10 (by decide) (hts _ wl_557) (fun _ h9 => h9) rfl dX6_wears_106 ?_
            refine lv_iload_n hx hb dX6_wears_109 rfl (lv_at hl 4 rfl) ?_
            refine lv_aload_n hx hb dX6_wears_110 rfl (lv_at hl 3 rfl) ?_
            refine va_get (D := D) (ci := 5) (v := .ref (a 1)) (C := RX6) (T := TX6) (N := 12) hx hb hts iwX6 hown hK hP 0 rfl rfl 0 (by decide) (hts _ wl_15) (fun _ h9 => h9) rfl dX6_wears_111 ?_
            refine va_get (D := D) (ci := 1) (v := .ref (a 8)) (C := RX2) (T := TX2) (N := 15) hx hb hts iwX2 hown hK hP 1 rfl rfl 10 (by decide) (hts _ wl_557) (fun _ h9 => h9) rfl dX6_wears_114 ?_
            refine lv_iload_n hx hb dX6_wears_117 rfl (lv_at hl 4 rfl) ?_
            obtain ⟨h102, hf⟩ := dq_g hf
            refine va_iald (cA := y 1) (n := 6) (f := g_n_shawls) hx hb hK hP 8 1 rfl rfl h102 dX6_wears_118 ?_
            refine lv_iload hx hb dX6_wears_119 (lv_at hl 0 rfl) ?_
            refine lv_iadd hx hb dX6_wears_121 ?_
            refine lv_bipush (v := 9) hx hb dX6_wears_122 (by decide) ?_
            refine va_mmin hx hb (hml.trans hl.1.symm) hown (hts _ wl_882) (hts _ wl_314) (hts _ wl_293) (hts _ wl_315) (Nat.le_of_ble_eq_true rfl) (Nat.le_of_ble_eq_true rfl) (Nat.zero_le _) (Nat.zero_le _) dX6_wears_124 ?_
            refine lv_topi (fun x103 ex103 => ?_)
            have hf := dq_l hf x103 ex103
            clear ex103
            obtain ⟨h104, hf⟩ := dq_g hf
            refine dq_iast (cA := y 1) (n := 6) (f := g_n_shawls) hx hb hK hP hD hS 8 1 rfl rfl h104 dX6_wears_127 (fun g_n_shawls_105 eg_n_shawls_105 H locs hP hD hS => ?_)
            have hf := dq_l hf g_n_shawls_105 eg_n_shawls_105
            clear eg_n_shawls_105
            have hP : va_P D vwCl ((w_X6 y a g_hasImage g_toldCount g_n_shutBits g_n_airs g_n_crownedBits g_n_sitters g_n_onBits g_n_turn g_n_taken g_n_warmth g_n_kind g_n_figure g_n_airCell g_n_way g_n_seat g_n_shawls_105 g_n_count g_n_steps g_n_numbers g_m_shutBits g_m_airs g_m_crownedBits g_m_sitters g_m_onBits g_m_turn g_m_taken g_m_warmth g_m_kind g_m_figure g_m_airCell g_m_way g_m_seat g_m_shawls g_m_count g_m_steps g_m_numbers g_i_shutBits g_i_airs g_i_crownedBits g_i_sitters g_i_onBits g_i_turn g_i_taken g_i_warmth g_i_kind g_i_figure g_i_airCell g_i_way g_i_seat g_i_shawls g_i_count g_i_steps g_i_numbers g_past_next_13 g_past_count_14 g_text_length g_text_letters g_coats_sorts g_coats_sizes (va_up g_places 2 g_places_93) g_coats_carried g_told g_refused g_oneHas g_otherHas) ++ (w_blob y (fun k => a (34 + (1 + k))) g_k_shutBits_15 g_k_airs_16 g_k_crownedBits_17 g_k_sitters_18 g_k_onBits_19 g_k_turn_20 g_k_taken_21 g_k_warmth_22 g_k_kind_23 g_k_figure_24 g_k_airCell_25 g_k_way_26 g_k_seat_27 g_k_shawls_28 g_k_count_29 g_k_steps_30 g_k_numbers_31)) H := hP
            have hD : va_D A ((w_X6 y a g_hasImage g_toldCount g_n_shutBits g_n_airs g_n_crownedBits g_n_sitters g_n_onBits g_n_turn g_n_taken g_n_warmth g_n_kind g_n_figure g_n_airCell g_n_way g_n_seat g_n_shawls_105 g_n_count g_n_steps g_n_numbers g_m_shutBits g_m_airs g_m_crownedBits g_m_sitters g_m_onBits g_m_turn g_m_taken g_m_warmth g_m_kind g_m_figure g_m_airCell g_m_way g_m_seat g_m_shawls g_m_count g_m_steps g_m_numbers g_i_shutBits g_i_airs g_i_crownedBits g_i_sitters g_i_onBits g_i_turn g_i_taken g_i_warmth g_i_kind g_i_figure g_i_airCell g_i_way g_i_seat g_i_shawls g_i_count g_i_steps g_i_numbers g_past_next_13 g_past_count_14 g_text_length g_text_letters g_coats_sorts g_coats_sizes (va_up g_places 2 g_places_93) g_coats_carried g_told g_refused g_oneHas g_otherHas) ++ (w_blob y (fun k => a (34 + (1 + k))) g_k_shutBits_15 g_k_airs_16 g_k_crownedBits_17 g_k_sitters_18 g_k_onBits_19 g_k_turn_20 g_k_taken_21 g_k_warmth_22 g_k_kind_23 g_k_figure_24 g_k_airCell_25 g_k_way_26 g_k_seat_27 g_k_shawls_28 g_k_count_29 g_k_steps_30 g_k_numbers_31)) := hD
            refine lv_aload_n hx hb dX6_wears_128 rfl (lv_at hl 3 rfl) ?_
            refine va_get (D := D) (ci := 5) (v := .ref (a 1)) (C := RX6) (T := TX6) (N := 12) hx hb hts iwX6 hown hK hP 0 rfl rfl 0 (by decide) (hts _ wl_15) (fun _ h9 => h9) rfl dX6_wears_129 ?_
            refine va_get (D := D) (ci := 1) (v := .ref (a 8)) (C := RX2) (T := TX2) (N := 15) hx hb hts iwX2 hown hK hP 1 rfl rfl 10 (by decide) (hts _ wl_557) (fun _ h9 => h9) rfl dX6_wears_132 ?_
            refine lv_iload_n hx hb dX6_wears_135 rfl (lv_at hl 4 rfl) ?_
            obtain ⟨h106, hf⟩ := dq_g hf
            refine va_iald (cA := y 1) (n := 6) (f := g_n_shawls_105) hx hb hK hP 8 1 rfl rfl h106 dX6_wears_136 ?_
            obtain ⟨rfl, rfl, rfl, rfl, rfl, rfl, rfl, rfl, rfl, rfl, rfl, rfl, rfl, rfl, rfl, rfl, rfl, rfl, rfl, rfl, rfl, rfl, rfl⟩ := dq_r23 hf
            exact ct_iret hx hb hr hlocks hAe hP hK hD hS dX6_wears_137
      · have hf := dq_f hf c12
        clear c12
        refine lv_iload hx hb dX6_wears_37 (lv_at hl 0 rfl) ?_
        obtain ⟨rfl, rfl, rfl, rfl, rfl, rfl, rfl, rfl, rfl, rfl, rfl, rfl, rfl, rfl, rfl, rfl, rfl, rfl, rfl, rfl, rfl, rfl, rfl⟩ := dq_r23 hf
        exact ct_iret hx hb hr hlocks hAe hP hK hD hS dX6_wears_39
    · have hf := dq_t hf c9
      clear c9
      refine lv_aload_n hx hb dX6_wears_15 rfl (lv_at hl 0 rfl) ?_
      refine lv_iconst (v := -1) hx hb dX6_wears_16 (by decide) ?_
      obtain ⟨x107, g_refused_108, hy109, hf⟩ := dq_b2 hf
      refine ct_callV0 (ci := 5) (q0 := 0) (own := RX6) (As := [.int (-1 : Int32)]) (rest := []) (ws' := ((w_X6 y a g_hasImage g_toldCount g_n_shutBits g_n_airs g_n_crownedBits g_n_sitters g_n_onBits g_n_turn g_n_taken g_n_warmth g_n_kind g_n_figure g_n_airCell g_n_way g_n_seat g_n_shawls g_n_count g_n_steps g_n_numbers g_m_shutBits g_m_airs g_m_crownedBits g_m_sitters g_m_onBits g_m_turn g_m_taken g_m_warmth g_m_kind g_m_figure g_m_airCell g_m_way g_m_seat g_m_shawls g_m_count g_m_steps g_m_numbers g_i_shutBits g_i_airs g_i_crownedBits g_i_sitters g_i_onBits g_i_turn g_i_taken g_i_warmth g_i_kind g_i_figure g_i_airCell g_i_way g_i_seat g_i_shawls g_i_count g_i_steps g_i_numbers g_past_next g_past_count g_text_length g_text_letters g_coats_sorts g_coats_sizes g_places g_coats_carried g_told g_refused_108 g_oneHas g_otherHas) ++ (w_blob y (fun k => a (34 + (1 + k))) g_k_shutBits g_k_airs g_k_crownedBits g_k_sitters g_k_onBits g_k_turn g_k_taken g_k_warmth g_k_kind g_k_figure g_k_airCell g_k_way g_k_seat g_k_shawls g_k_count g_k_steps g_k_numbers))) ⟨hx, hb, hml, hown, hts⟩ (m_X6_refuse l D y a g_hasImage g_toldCount g_n_shutBits g_n_airs g_n_crownedBits g_n_sitters g_n_onBits g_n_turn g_n_taken g_n_warmth g_n_kind g_n_figure g_n_airCell g_n_way g_n_seat g_n_shawls g_n_count g_n_steps g_n_numbers g_m_shutBits g_m_airs g_m_crownedBits g_m_sitters g_m_onBits g_m_turn g_m_taken g_m_warmth g_m_kind g_m_figure g_m_airCell g_m_way g_m_seat g_m_shawls g_m_count g_m_steps g_m_numbers g_i_shutBits g_i_airs g_i_crownedBits g_i_sitters g_i_onBits g_i_turn g_i_taken g_i_warmth g_i_kind g_i_figure g_i_airCell g_i_way g_i_seat g_i_shawls g_i_count g_i_steps g_i_numbers g_past_next g_past_count g_text_length g_text_letters g_coats_sorts g_coats_sizes g_places g_coats_carried g_told g_refused g_oneHas g_otherHas g_k_shutBits g_k_airs g_k_crownedBits g_k_sitters g_k_onBits g_k_turn g_k_taken g_k_warmth g_k_kind g_k_figure g_k_airCell g_k_way g_k_seat g_k_shawls g_k_count g_k_steps g_k_numbers (-1 : Int32) x107 g_refused_108 hy109) (cwV 1 hts (gA_V wl_124 wl_125 wl_126 wl_2 wl_127) rfl rfl rfl (by decide +kernel) ⟨Nat.le_of_ble_eq_true rfl, Nat.le_of_ble_eq_true rfl⟩) rfl rfl rfl hl.1 rfl (Nat.le_of_ble_eq_true rfl) dX6_wears_17 ⟨Nat.zero_le _, Nat.zero_le _⟩ hK hP hD hS hA (fun H locs hP hD hS => ?_)
      obtain ⟨rfl, rfl, rfl, rfl, rfl, rfl, rfl, rfl, rfl, rfl, rfl, rfl, rfl, rfl, rfl, rfl, rfl, rfl, rfl, rfl, rfl, rfl, rfl⟩ := dq_r23 hf
      exact ct_iret hx hb hr hlocks hAe hP hK hD hS dX6_wears_20
