def w_X6_wears (y : Nat → ClassId) (a : Nat → Nat) (g_hasImage : Int32) (g_toldCount : Int32) (g_n_shutBits : Int64) (g_n_airs : Int32) (g_n_crownedBits : Int32) (g_n_sitters : Int32) (g_n_onBits : Int32) (g_n_turn : Int32) (g_n_taken : Int32) (g_n_warmth : (Nat → UInt32)) (g_n_kind : (Nat → Int32)) (g_n_figure : (Nat → Int32)) (g_n_airCell : (Nat → Int32)) (g_n_way : (Nat → Int32)) (g_n_seat : (Nat → Int32)) (g_n_shawls : (Nat → Int32)) (g_n_count : Int32) (g_n_steps : (Nat → Int32)) (g_n_numbers : (Nat → Int32)) (g_past_next : Int32) (g_past_count : Int32) (g_coats_sorts : (Nat → Int32)) (g_coats_sizes : (Nat → Int32)) (g_places : (Nat → Nat → Int32)) (g_coats_carried : (Nat → Int32)) (g_refused : (Nat → Int32)) : va_W := [((a 0), .inr (5, [.ref (a 1), .ref (a 12), .ref (a 23), .int g_hasImage, .ref (a 34), .ref (a 124), .ref (a 126), .ref (a 134), .int g_toldCount, .ref (a 135), .ref (a 136), .ref (a 137)])), ((a 1), .inr (1, [.ref (a 2), .long g_n_shutBits, .int g_n_airs, .ref (a 3), .ref (a 4), .ref (a 5), .ref (a 6), .int g_n_crownedBits, .int g_n_sitters, .ref (a 7), .ref (a 8), .int g_n_onBits, .int g_n_turn, .int g_n_taken, .ref (a 9)])), ((a 2), .inl (y 0, 36, .inr (.inr (.inl g_n_warmth)))), ((a 3), .inl (y 1, 5, .inl g_n_kind)), ((a 4), .inl (y 1, 5, .inl g_n_figure)), ((a 5), .inl (y 1, 5, .inl g_n_airCell)), ((a 6), .inl (y 1, 5, .inl g_n_way)), ((a 7), .inl (y 1, 6, .inl g_n_seat)), ((a 8), .inl (y 1, 6, .inl g_n_shawls)), ((a 9), .inr (0, [.ref (a 10), .ref (a 11), .int g_n_count])), ((a 10), .inl (y 1, 6, .inl g_n_steps)), ((a 11), .inl (y 1, 6, .inl g_n_numbers)), ((a 34), .inr (2, [.ref (a 35), .int g_past_next, .int g_past_count])), ((a 126), .inr (3, [.ref (a 127), .ref (a 128), .ref (a 129), .ref (a 133)])), ((a 127), .inl (y 1, 3, .inl g_coats_sorts)), ((a 128), .inl (y 1, 3, .inl g_coats_sizes)), ((a 129), .inl (y 4, 3, .inr (.inr (.inr (.inr (fun i => if i < 3 then some (a (126 + (4 + i))) else none)))))), ((a 130), .inl (y 1, 12, .inl (g_places 0))), ((a 131), .inl (y 1, 12, .inl (g_places 1))), ((a 132), .inl (y 1, 12, .inl (g_places 2))), ((a 133), .inl (y 1, 12, .inl g_coats_carried)), ((a 135), .inl (y 1, 7, .inl g_refused))]
noncomputable def f_X6_wears_b100 (n0 : Int32) (n1 : Int32) (g_n_shawls : (Nat → Int32)) (g_places : (Nat → Nat → Int32)) (g_refused : (Nat → Int32)) (g_past_next_13 : Int32) (g_past_count_14 : Int32) (g_k_shutBits_15 : (Nat → Int64)) (g_k_airs_16 : (Nat → Int32)) (g_k_crownedBits_17 : (Nat → Int32)) (g_k_sitters_18 : (Nat → Int32)) (g_k_onBits_19 : (Nat → Int32)) (g_k_turn_20 : (Nat → Int32)) (g_k_taken_21 : (Nat → Int32)) (g_k_warmth_22 : (Nat → Nat → UInt32)) (g_k_kind_23 : (Nat → Nat → Int32)) (g_k_figure_24 : (Nat → Nat → Int32)) (g_k_airCell_25 : (Nat → Nat → Int32)) (g_k_way_26 : (Nat → Nat → Int32)) (g_k_seat_27 : (Nat → Nat → Int32)) (g_k_shawls_28 : (Nat → Nat → Int32)) (g_k_count_29 : (Nat → Int32)) (g_k_steps_30 : (Nat → Nat → Int32)) (g_k_numbers_31 : (Nat → Nat → Int32)) (g_places_38 : (Nat → Int32))  (x39 : Int32) : Option (Int32 × (Nat → Int32) × Int32 × Int32 × (Nat → Nat → Int32) × (Nat → Int32) × (Nat → Int64) × (Nat → Int32) × (Nat → Int32) × (Nat → Int32) × (Nat → Int32) × (Nat → Int32) × (Nat → Int32) × (Nat → Nat → UInt32) × (Nat → Nat → Int32) × (Nat → Nat → Int32) × (Nat → Nat → Int32) × (Nat → Nat → Int32) × (Nat → Nat → Int32) × (Nat → Nat → Int32) × (Nat → Int32) × (Nat → Nat → Int32) × (Nat → Nat → Int32)) := dq_gd (vp_in n0 6) (dq_let (if (9 : Int32) < ((g_n_shawls n0.toNatClampNeg) + x39) then (9 : Int32) else ((g_n_shawls n0.toNatClampNeg) + x39)) (fun (x41 : Int32) => dq_gd (vp_in n0 6) (dq_let (upd g_n_shawls n0.toNatClampNeg x41) (fun (g_n_shawls_43 : (Nat → Int32)) => dq_gd (vp_in n0 6) (some ((g_n_shawls_43 n0.toNatClampNeg), g_n_shawls_43, g_past_next_13, g_past_count_14, (va_up g_places n1.toNatClampNeg g_places_38), g_refused, g_k_shutBits_15, g_k_airs_16, g_k_crownedBits_17, g_k_sitters_18, g_k_onBits_19, g_k_turn_20, g_k_taken_21, g_k_warmth_22, g_k_kind_23, g_k_figure_24, g_k_airCell_25, g_k_way_26, g_k_seat_27, g_k_shawls_28, g_k_count_29, g_k_steps_30, g_k_numbers_31))))))
noncomputable def f_X6_wears_b100 (n0 : Int32) (g_n_shawls : (Nat → Int32)) (g_places : (Nat → Nat → Int32)) (g_refused : (Nat → Int32)) (g_past_next_13 : Int32) (g_past_count_14 : Int32) (g_k_shutBits_15 : (Nat → Int64)) (g_k_airs_16 : (Nat → Int32)) (g_k_crownedBits_17 : (Nat → Int32)) (g_k_sitters_18 : (Nat → Int32)) (g_k_onBits_19 : (Nat → Int32)) (g_k_turn_20 : (Nat → Int32)) (g_k_taken_21 : (Nat → Int32)) (g_k_warmth_22 : (Nat → Nat → UInt32)) (g_k_kind_23 : (Nat → Nat → Int32)) (g_k_figure_24 : (Nat → Nat → Int32)) (g_k_airCell_25 : (Nat → Nat → Int32)) (g_k_way_26 : (Nat → Nat → Int32)) (g_k_seat_27 : (Nat → Nat → Int32)) (g_k_shawls_28 : (Nat → Nat → Int32)) (g_k_count_29 : (Nat → Int32)) (g_k_steps_30 : (Nat → Nat → Int32)) (g_k_numbers_31 : (Nat → Nat → Int32)) (g_places_51 : (Nat → Int32))  (x52 : Int32) : Option (Int32 × (Nat → Int32) × Int32 × Int32 × (Nat → Nat → Int32) × (Nat → Int32) × (Nat → Int64) × (Nat → Int32) × (Nat → Int32) × (Nat → Int32) × (Nat → Int32) × (Nat → Int32) × (Nat → Int32) × (Nat → Nat → UInt32) × (Nat → Nat → Int32) × (Nat → Nat → Int32) × (Nat → Nat → Int32) × (Nat → Nat → Int32) × (Nat → Nat → Int32) × (Nat → Nat → Int32) × (Nat → Int32) × (Nat → Nat → Int32) × (Nat → Nat → Int32)) := dq_gd (vp_in n0 6) (dq_let (if (9 : Int32) < ((g_n_shawls n0.toNatClampNeg) + x52) then (9 : Int32) else ((g_n_shawls n0.toNatClampNeg) + x52)) (fun (x54 : Int32) => dq_gd (vp_in n0 6) (dq_let (upd g_n_shawls n0.toNatClampNeg x54) (fun (g_n_shawls_56 : (Nat → Int32)) => dq_gd (vp_in n0 6) (some ((g_n_shawls_56 n0.toNatClampNeg), g_n_shawls_56, g_past_next_13, g_past_count_14, (va_up g_places 0 g_places_51), g_refused, g_k_shutBits_15, g_k_airs_16, g_k_crownedBits_17, g_k_sitters_18, g_k_onBits_19, g_k_turn_20, g_k_taken_21, g_k_warmth_22, g_k_kind_23, g_k_figure_24, g_k_airCell_25, g_k_way_26, g_k_seat_27, g_k_shawls_28, g_k_count_29, g_k_steps_30, g_k_numbers_31))))))
noncomputable def f_X6_wears_b100 (n0 : Int32) (g_n_shawls : (Nat → Int32)) (g_places : (Nat → Nat → Int32)) (g_refused : (Nat → Int32)) (g_past_next_13 : Int32) (g_past_count_14 : Int32) (g_k_shutBits_15 : (Nat → Int64)) (g_k_airs_16 : (Nat → Int32)) (g_k_crownedBits_17 : (Nat → Int32)) (g_k_sitters_18 : (Nat → Int32)) (g_k_onBits_19 : (Nat → Int32)) (g_k_turn_20 : (Nat → Int32)) (g_k_taken_21 : (Nat → Int32)) (g_k_warmth_22 : (Nat → Nat → UInt32)) (g_k_kind_23 : (Nat → Nat → Int32)) (g_k_figure_24 : (Nat → Nat → Int32)) (g_k_airCell_25 : (Nat → Nat → Int32)) (g_k_way_26 : (Nat → Nat → Int32)) (g_k_seat_27 : (Nat → Nat → Int32)) (g_k_shawls_28 : (Nat → Nat → Int32)) (g_k_count_29 : (Nat → Int32)) (g_k_steps_30 : (Nat → Nat → Int32)) (g_k_numbers_31 : (Nat → Nat → Int32)) (g_places_63 : (Nat → Int32))  (x64 : Int32) : Option (Int32 × (Nat → Int32) × Int32 × Int32 × (Nat → Nat → Int32) × (Nat → Int32) × (Nat → Int64) × (Nat → Int32) × (Nat → Int32) × (Nat → Int32) × (Nat → Int32) × (Nat → Int32) × (Nat → Int32) × (Nat → Nat → UInt32) × (Nat → Nat → Int32) × (Nat → Nat → Int32) × (Nat → Nat → Int32) × (Nat → Nat → Int32) × (Nat → Nat → Int32) × (Nat → Nat → Int32) × (Nat → Int32) × (Nat → Nat → Int32) × (Nat → Nat → Int32)) := dq_gd (vp_in n0 6) (dq_let (if (9 : Int32) < ((g_n_shawls n0.toNatClampNeg) + x64) then (9 : Int32) else ((g_n_shawls n0.toNatClampNeg) + x64)) (fun (x66 : Int32) => dq_gd (vp_in n0 6) (dq_let (upd g_n_shawls n0.toNatClampNeg x66) (fun (g_n_shawls_68 : (Nat → Int32)) => dq_gd (vp_in n0 6) (some ((g_n_shawls_68 n0.toNatClampNeg), g_n_shawls_68, g_past_next_13, g_past_count_14, (va_up g_places 1 g_places_63), g_refused, g_k_shutBits_15, g_k_airs_16, g_k_crownedBits_17, g_k_sitters_18, g_k_onBits_19, g_k_turn_20, g_k_taken_21, g_k_warmth_22, g_k_kind_23, g_k_figure_24, g_k_airCell_25, g_k_way_26, g_k_seat_27, g_k_shawls_28, g_k_count_29, g_k_steps_30, g_k_numbers_31))))))
noncomputable def f_X6_wears_b100 (n0 : Int32) (g_n_shawls : (Nat → Int32)) (g_places : (Nat → Nat → Int32)) (g_refused : (Nat → Int32)) (g_past_next_13 : Int32) (g_past_count_14 : Int32) (g_k_shutBits_15 : (Nat → Int64)) (g_k_airs_16 : (Nat → Int32)) (g_k_crownedBits_17 : (Nat → Int32)) (g_k_sitters_18 : (Nat → Int32)) (g_k_onBits_19 : (Nat → Int32)) (g_k_turn_20 : (Nat → Int32)) (g_k_taken_21 : (Nat → Int32)) (g_k_warmth_22 : (Nat → Nat → UInt32)) (g_k_kind_23 : (Nat → Nat → Int32)) (g_k_figure_24 : (Nat → Nat → Int32)) (g_k_airCell_25 : (Nat → Nat → Int32)) (g_k_way_26 : (Nat → Nat → Int32)) (g_k_seat_27 : (Nat → Nat → Int32)) (g_k_shawls_28 : (Nat → Nat → Int32)) (g_k_count_29 : (Nat → Int32)) (g_k_steps_30 : (Nat → Nat → Int32)) (g_k_numbers_31 : (Nat → Nat → Int32)) (g_places_75 : (Nat → Int32))  (x76 : Int32) : Option (Int32 × (Nat → Int32) × Int32 × Int32 × (Nat → Nat → Int32) × (Nat → Int32) × (Nat → Int64) × (Nat → Int32) × (Nat → Int32) × (Nat → Int32) × (Nat → Int32) × (Nat → Int32) × (Nat → Int32) × (Nat → Nat → UInt32) × (Nat → Nat → Int32) × (Nat → Nat → Int32) × (Nat → Nat → Int32) × (Nat → Nat → Int32) × (Nat → Nat → Int32) × (Nat → Nat → Int32) × (Nat → Int32) × (Nat → Nat → Int32) × (Nat → Nat → Int32)) := dq_gd (vp_in n0 6) (dq_let (if (9 : Int32) < ((g_n_shawls n0.toNatClampNeg) + x76) then (9 : Int32) else ((g_n_shawls n0.toNatClampNeg) + x76)) (fun (x78 : Int32) => dq_gd (vp_in n0 6) (dq_let (upd g_n_shawls n0.toNatClampNeg x78) (fun (g_n_shawls_80 : (Nat → Int32)) => dq_gd (vp_in n0 6) (some ((g_n_shawls_80 n0.toNatClampNeg), g_n_shawls_80, g_past_next_13, g_past_count_14, (va_up g_places 2 g_places_75), g_refused, g_k_shutBits_15, g_k_airs_16, g_k_crownedBits_17, g_k_sitters_18, g_k_onBits_19, g_k_turn_20, g_k_taken_21, g_k_warmth_22, g_k_kind_23, g_k_figure_24, g_k_airCell_25, g_k_way_26, g_k_seat_27, g_k_shawls_28, g_k_count_29, g_k_steps_30, g_k_numbers_31))))))
noncomputable def f_X6_wears (g_n_shutBits : Int64) (g_n_airs : Int32) (g_n_crownedBits : Int32) (g_n_sitters : Int32) (g_n_onBits : Int32) (g_n_turn : Int32) (g_n_taken : Int32) (g_n_warmth : (Nat → UInt32)) (g_n_kind : (Nat → Int32)) (g_n_figure : (Nat → Int32)) (g_n_airCell : (Nat → Int32)) (g_n_way : (Nat → Int32)) (g_n_seat : (Nat → Int32)) (g_n_shawls : (Nat → Int32)) (g_n_count : Int32) (g_n_steps : (Nat → Int32)) (g_n_numbers : (Nat → Int32)) (g_past_next : Int32) (g_past_count : Int32) (g_coats_sizes : (Nat → Int32)) (g_places : (Nat → Nat → Int32)) (g_refused : (Nat → Int32)) (g_k_shutBits : (Nat → Int64)) (g_k_airs : (Nat → Int32)) (g_k_crownedBits : (Nat → Int32)) (g_k_sitters : (Nat → Int32)) (g_k_onBits : (Nat → Int32)) (g_k_turn : (Nat → Int32)) (g_k_taken : (Nat → Int32)) (g_k_warmth : (Nat → Nat → UInt32)) (g_k_kind : (Nat → Nat → Int32)) (g_k_figure : (Nat → Nat → Int32)) (g_k_airCell : (Nat → Nat → Int32)) (g_k_way : (Nat → Nat → Int32)) (g_k_seat : (Nat → Nat → Int32)) (g_k_shawls : (Nat → Nat → Int32)) (g_k_count : (Nat → Int32)) (g_k_steps : (Nat → Nat → Int32)) (g_k_numbers : (Nat → Nat → Int32)) (n0 : Int32) (n1 : Int32) (n2 : Int32) : Option (Int32 × (Nat → Int32) × Int32 × Int32 × (Nat → Nat → Int32) × (Nat → Int32) × (Nat → Int64) × (Nat → Int32) × (Nat → Int32) × (Nat → Int32) × (Nat → Int32) × (Nat → Int32) × (Nat → Int32) × (Nat → Nat → UInt32) × (Nat → Nat → Int32) × (Nat → Nat → Int32) × (Nat → Nat → Int32) × (Nat → Nat → Int32) × (Nat → Nat → Int32) × (Nat → Nat → Int32) × (Nat → Int32) × (Nat → Nat → Int32) × (Nat → Nat → Int32)) := dq_bd (f_X6_isSitter g_n_sitters n0) (fun (x1 : Int32) => dq_if (x1 = 0) (dq_bd2 (f_X6_refuse g_refused (-1 : Int32)) (fun (x4 : Int32) (g_refused_5 : (Nat → Int32)) => some (x4, g_n_shawls, g_past_next, g_past_count, g_places, g_refused_5, g_k_shutBits, g_k_airs, g_k_crownedBits, g_k_sitters, g_k_onBits, g_k_turn, g_k_taken, g_k_warmth, g_k_kind, g_k_figure, g_k_airCell, g_k_way, g_k_seat, g_k_shawls, g_k_count, g_k_steps, g_k_numbers))) (dq_bd (f_X6_isPeg n1) (fun (x7 : Int32) => dq_if (x7 = 0) (dq_bd2 (f_X6_refuse g_refused (-1 : Int32)) (fun (x83 : Int32) (g_refused_84 : (Nat → Int32)) => some (x83, g_n_shawls, g_past_next, g_past_count, g_places, g_refused_84, g_k_shutBits, g_k_airs, g_k_crownedBits, g_k_sitters, g_k_onBits, g_k_turn, g_k_taken, g_k_warmth, g_k_kind, g_k_figure, g_k_airCell, g_k_way, g_k_seat, g_k_shawls, g_k_count, g_k_steps, g_k_numbers))) (dq_bd (f_X4_coatFault g_coats_sizes g_places n1 n2) (fun (x10 : Int32) => dq_if (x10 = 0) (dq_bd19 (f_X3_keep g_past_next g_past_count g_n_shutBits g_n_airs g_n_crownedBits g_n_sitters g_n_onBits g_n_turn g_n_taken g_n_warmth g_n_kind g_n_figure g_n_airCell g_n_way g_n_seat g_n_shawls g_n_count g_n_steps g_n_numbers g_k_shutBits g_k_airs g_k_crownedBits g_k_sitters g_k_onBits g_k_turn g_k_taken g_k_warmth g_k_kind g_k_figure g_k_airCell g_k_way g_k_seat g_k_shawls g_k_count g_k_steps g_k_numbers) (fun (g_past_next_13 : Int32) (g_past_count_14 : Int32) (g_k_shutBits_15 : (Nat → Int64)) (g_k_airs_16 : (Nat → Int32)) (g_k_crownedBits_17 : (Nat → Int32)) (g_k_sitters_18 : (Nat → Int32)) (g_k_onBits_19 : (Nat → Int32)) (g_k_turn_20 : (Nat → Int32)) (g_k_taken_21 : (Nat → Int32)) (g_k_warmth_22 : (Nat → Nat → UInt32)) (g_k_kind_23 : (Nat → Nat → Int32)) (g_k_figure_24 : (Nat → Nat → Int32)) (g_k_airCell_25 : (Nat → Nat → Int32)) (g_k_way_26 : (Nat → Nat → Int32)) (g_k_seat_27 : (Nat → Nat → Int32)) (g_k_shawls_28 : (Nat → Nat → Int32)) (g_k_count_29 : (Nat → Int32)) (g_k_steps_30 : (Nat → Nat → Int32)) (g_k_numbers_31 : (Nat → Nat → Int32)) => dq_gd (vp_in n1 3) (dq_gd (vp_in n2 12) (dq_let ((g_places n1.toNatClampNeg) n2.toNatClampNeg) (fun (x35 : Int32) => dq_gd (vp_in n1 3) (dq_gd (vp_in n2 12) (dq_let (upd (g_places n1.toNatClampNeg) n2.toNatClampNeg (0 : Int32)) (fun (g_places_38 : (Nat → Int32)) => dq_if ((x35 / (10 : Int32)) = (2 : Int32)) (f_X6_wears_b100 n0 n1 g_n_shawls g_places g_refused g_past_next_13 g_past_count_14 g_k_shutBits_15 g_k_airs_16 g_k_crownedBits_17 g_k_sitters_18 g_k_onBits_19 g_k_turn_20 g_k_taken_21 g_k_warmth_22 g_k_kind_23 g_k_figure_24 g_k_airCell_25 g_k_way_26 g_k_seat_27 g_k_shawls_28 g_k_count_29 g_k_steps_30 g_k_numbers_31 g_places_38 ((2 : Int32) * (x35 - x35 / (10 : Int32) * (10 : Int32)))) (f_X6_wears_b100 n0 n1 g_n_shawls g_places g_refused g_past_next_13 g_past_count_14 g_k_shutBits_15 g_k_airs_16 g_k_crownedBits_17 g_k_sitters_18 g_k_onBits_19 g_k_turn_20 g_k_taken_21 g_k_warmth_22 g_k_kind_23 g_k_figure_24 g_k_airCell_25 g_k_way_26 g_k_seat_27 g_k_shawls_28 g_k_count_29 g_k_steps_30 g_k_numbers_31 g_places_38 (x35 - x35 / (10 : Int32) * (10 : Int32))))))))))) (some (x10, g_n_shawls, g_past_next, g_past_count, g_places, g_refused, g_k_shutBits, g_k_airs, g_k_crownedBits, g_k_sitters, g_k_onBits, g_k_turn, g_k_taken, g_k_warmth, g_k_kind, g_k_figure, g_k_airCell, g_k_way, g_k_seat, g_k_shawls, g_k_count, g_k_steps, g_k_numbers)))))))
-- DraughtsTake.wears(III)I
set_option maxHeartbeats 4000000 in
set_option maxRecDepth 100000 in
theorem m_X6_wears (l : Launch) (D : va_G) (y : Nat → ClassId) (a : (Nat → Nat)) (g_hasImage : Int32) (g_toldCount : Int32) (g_n_shutBits : Int64) (g_n_airs : Int32) (g_n_crownedBits : Int32) (g_n_sitters : Int32) (g_n_onBits : Int32) (g_n_turn : Int32) (g_n_taken : Int32) (g_n_warmth : (Nat → UInt32)) (g_n_kind : (Nat → Int32)) (g_n_figure : (Nat → Int32)) (g_n_airCell : (Nat → Int32)) (g_n_way : (Nat → Int32)) (g_n_seat : (Nat → Int32)) (g_n_shawls : (Nat → Int32)) (g_n_count : Int32) (g_n_steps : (Nat → Int32)) (g_n_numbers : (Nat → Int32)) (g_past_next : Int32) (g_past_count : Int32) (g_coats_sorts : (Nat → Int32)) (g_coats_sizes : (Nat → Int32)) (g_places : (Nat → Nat → Int32)) (g_coats_carried : (Nat → Int32)) (g_refused : (Nat → Int32)) (g_k_shutBits : (Nat → Int64)) (g_k_airs : (Nat → Int32)) (g_k_crownedBits : (Nat → Int32)) (g_k_sitters : (Nat → Int32)) (g_k_onBits : (Nat → Int32)) (g_k_turn : (Nat → Int32)) (g_k_taken : (Nat → Int32)) (g_k_warmth : (Nat → Nat → UInt32)) (g_k_kind : (Nat → Nat → Int32)) (g_k_figure : (Nat → Nat → Int32)) (g_k_airCell : (Nat → Nat → Int32)) (g_k_way : (Nat → Nat → Int32)) (g_k_seat : (Nat → Nat → Int32)) (g_k_shawls : (Nat → Nat → Int32)) (g_k_count : (Nat → Int32)) (g_k_steps : (Nat → Nat → Int32)) (g_k_numbers : (Nat → Nat → Int32)) (n0 : Int32) (n1 : Int32) (n2 : Int32) (z0 : Int32) (z1 : (Nat → Int32)) (z2 : Int32) (z3 : Int32) (z4 : (Nat → Nat → Int32)) (z5 : (Nat → Int32)) (z6 : (Nat → Int64)) (z7 : (Nat → Int32)) (z8 : (Nat → Int32)) (z9 : (Nat → Int32)) (z10 : (Nat → Int32)) (z11 : (Nat → Int32)) (z12 : (Nat → Int32)) (z13 : (Nat → Nat → UInt32)) (z14 : (Nat → Nat → Int32)) (z15 : (Nat → Nat → Int32)) (z16 : (Nat → Nat → Int32)) (z17 : (Nat → Nat → Int32)) (z18 : (Nat → Nat → Int32)) (z19 : (Nat → Nat → Int32)) (z20 : (Nat → Int32)) (z21 : (Nat → Nat → Int32)) (z22 : (Nat → Nat → Int32)) (hf : f_X6_wears g_n_shutBits g_n_airs g_n_crownedBits g_n_sitters g_n_onBits g_n_turn g_n_taken g_n_warmth g_n_kind g_n_figure g_n_airCell g_n_way g_n_seat g_n_shawls g_n_count g_n_steps g_n_numbers g_past_next g_past_count g_coats_sizes g_places g_refused g_k_shutBits g_k_airs g_k_crownedBits g_k_sitters g_k_onBits g_k_turn g_k_taken g_k_warmth g_k_kind g_k_figure g_k_airCell g_k_way g_k_seat g_k_shawls g_k_count g_k_steps g_k_numbers n0 n1 n2 = some (z0, z1, z2, z3, z4, z5, z6, z7, z8, z9, z10, z11, z12, z13, z14, z15, z16, z17, z18, z19, z20, z21, z22)) : Ct l D y yX6_wears wsX6_wears 4 103 [.ref (a 0), .int n0, .int n1, .int n2] ((w_X6_wears y a g_hasImage g_toldCount g_n_shutBits g_n_airs g_n_crownedBits g_n_sitters g_n_onBits g_n_turn g_n_taken g_n_warmth g_n_kind g_n_figure g_n_airCell g_n_way g_n_seat g_n_shawls g_n_count g_n_steps g_n_numbers g_past_next g_past_count g_coats_sorts g_coats_sizes g_places g_coats_carried g_refused) ++ (w_blob y (fun k => a (34 + (1 + k))) g_k_shutBits g_k_airs g_k_crownedBits g_k_sitters g_k_onBits g_k_turn g_k_taken g_k_warmth g_k_kind g_k_figure g_k_airCell g_k_way g_k_seat g_k_shawls g_k_count g_k_steps g_k_numbers)) ((w_X6_wears y a g_hasImage g_toldCount g_n_shutBits g_n_airs g_n_crownedBits g_n_sitters g_n_onBits g_n_turn g_n_taken g_n_warmth g_n_kind g_n_figure g_n_airCell g_n_way g_n_seat z1 g_n_count g_n_steps g_n_numbers z2 z3 g_coats_sorts g_coats_sizes z4 g_coats_carried z5) ++ (w_blob y (fun k => a (34 + (1 + k))) z6 z7 z8 z9 z10 z11 z12 z13 z14 z15 z16 z17 z18 z19 z20 z21 z22)) (some (.int z0)) := by
  refine ct_head (cc := cX6_wears) (n := 7) (ret := (some .int)) (by decide) rfl (Nat.le_of_ble_eq_true rfl) ?_
  intro p e s m below meth c A ls hx hb hr hml hown hlocks hts hA hAe hP hK hD hl
  have hS : va_S A s.heap s.heap [] := va_S.rf
  have hl : lv_has ls 7 [(0, .ref (a 0)), (1, .int n0), (2, .int n1), (3, .int n2)] := hl
  have hown : s.vm.findClass RX6 = some m.cls := hown
  have hw1 := hts (.fieldLink RX6 39 "DraughtsTake" "coats" "LDraughtsTake$Pegs;") (List.mem_of_getElem? (i := 1) rfl)
  have hw2 := hts (.fieldLink RX6 25 "DraughtsTake" "past" "LDraughtsTake$Past;") (List.mem_of_getElem? (i := 2) rfl)
  have hw3 := hts (.fieldLink RX6 10 "DraughtsTake" "now" "LDraughtsTake$House;") (List.mem_of_getElem? (i := 3) rfl)
  have hw4 := hts (.fieldLink RX6 276 "DraughtsTake$Pegs" "places" "[[I") (List.mem_of_getElem? (i := 4) rfl)
  have hw5 := hts (.fieldLink RX6 119 "DraughtsTake$House" "shawls" "[I") (List.mem_of_getElem? (i := 5) rfl)
  have hw6 := hts (.methodLink RX6 280 Lib.Math.min.name) (List.mem_of_getElem? (i := 6) rfl)
  have hw7 := hts (.static Lib.Math.min.name) (List.mem_of_getElem? (i := 7) rfl)
  have hw8 := hts (.initialized "java/lang/Math") (List.mem_of_getElem? (i := 8) rfl)
  have hw9 := hts (.code Lib.Math.min.name Lib.Math.min.code 2 (some .int)) (List.mem_of_getElem? (i := 9) rfl)
  have hiX6 : ∀ w ∈ wsX60, w ∈ wsX6_wears := fun w h => List.mem_cons_of_mem _ (List.mem_append_left _ (List.mem_append_left _ (List.mem_append_left _ (List.mem_append_left _ (List.mem_append_right _ (h))))))
  have hiX4 : ∀ w ∈ wsX40, w ∈ wsX6_wears := fun w h => List.mem_cons_of_mem _ (List.mem_append_left _ (List.mem_append_left _ (List.mem_append_left _ (List.mem_append_right _ (h)))))
  have hiX2 : ∀ w ∈ wsX20, w ∈ wsX6_wears := fun w h => List.mem_cons_of_mem _ (List.mem_append_left _ (List.mem_append_left _ (List.mem_append_right _ (h))))
  unfold f_X6_wears at hf
  refine lv_aload_n hx hb dX6_wears_0 rfl (lv_at hl 0 rfl) ?_
  refine lv_iload_n hx hb dX6_wears_1 rfl (lv_at hl 1 rfl) ?_
  obtain ⟨x1, hy2, hf⟩ := dq_b hf
  refine ct_callVL (ci := 5) (q0 := 0) (own := RX6) (As := [.int n0]) (rest := []) (L' := (w_X6_wears y a g_hasImage g_toldCount g_n_shutBits g_n_airs g_n_crownedBits g_n_sitters g_n_onBits g_n_turn g_n_taken g_n_warmth g_n_kind g_n_figure g_n_airCell g_n_way g_n_seat g_n_shawls g_n_count g_n_steps g_n_numbers g_past_next g_past_count g_coats_sorts g_coats_sizes g_places g_coats_carried g_refused)) (B := (w_blob y (fun k => a (34 + (1 + k))) g_k_shutBits g_k_airs g_k_crownedBits g_k_sitters g_k_onBits g_k_turn g_k_taken g_k_warmth g_k_kind g_k_figure g_k_airCell g_k_way g_k_seat g_k_shawls g_k_count g_k_steps g_k_numbers)) ⟨hx, hb, hml, hown, hts⟩ (m_X6_isSitter l D y a g_hasImage g_toldCount g_n_shutBits g_n_airs g_n_crownedBits g_n_sitters g_n_onBits g_n_turn g_n_taken g_n_warmth g_n_kind g_n_figure g_n_airCell g_n_way g_n_seat g_n_shawls g_n_count g_n_steps g_n_numbers n0 x1 hy2) (cwV 1 hts gX6_wears_X6_isSitter rfl rfl rfl (by decide +kernel) ⟨Nat.le_of_ble_eq_true rfl, Nat.le_of_ble_eq_true rfl⟩) rfl rfl rfl hl.1 rfl (Nat.le_of_ble_eq_true rfl) dX6_wears_2 ⟨Nat.zero_le _, Nat.zero_le _⟩ hK hP hD hS hA [0, 1, 2, 3, 4, 5, 6, 7, 8, 9, 10, 11] [12, 13, 14, 15, 16, 17, 18, 19, 20, 21] rfl rfl rfl (by decide) (by decide) 22 rfl rfl (by decide +kernel) (fun H locs hP hD hS => ?_)
  refine lv_if_eq (tgt := 15) hx hb dX6_wears_5 (by decide) (fun c3 => ?_) (fun c3 => ?_)
  · have hf := dq_t hf c3
    clear c3
    refine lv_aload_n hx hb dX6_wears_15 rfl (lv_at hl 0 rfl) ?_
    refine lv_iconst (v := -1) hx hb dX6_wears_16 (by decide) ?_
    obtain ⟨x4, g_refused_5, hy6, hf⟩ := dq_b2 hf
    refine ct_callVL (ci := 5) (q0 := 0) (own := RX6) (As := [.int (-1 : Int32)]) (rest := []) (L' := (w_X6_wears y a g_hasImage g_toldCount g_n_shutBits g_n_airs g_n_crownedBits g_n_sitters g_n_onBits g_n_turn g_n_taken g_n_warmth g_n_kind g_n_figure g_n_airCell g_n_way g_n_seat g_n_shawls g_n_count g_n_steps g_n_numbers g_past_next g_past_count g_coats_sorts g_coats_sizes g_places g_coats_carried g_refused_5)) (B := (w_blob y (fun k => a (34 + (1 + k))) g_k_shutBits g_k_airs g_k_crownedBits g_k_sitters g_k_onBits g_k_turn g_k_taken g_k_warmth g_k_kind g_k_figure g_k_airCell g_k_way g_k_seat g_k_shawls g_k_count g_k_steps g_k_numbers)) ⟨hx, hb, hml, hown, hts⟩ (m_X6_refuse l D y a g_hasImage g_toldCount g_refused (-1 : Int32) x4 g_refused_5 hy6) (cwV 1 hts gX6_wears_X6_refuse rfl rfl rfl (by decide +kernel) ⟨Nat.le_of_ble_eq_true rfl, Nat.le_of_ble_eq_true rfl⟩) rfl rfl rfl hl.1 rfl (Nat.le_of_ble_eq_true rfl) dX6_wears_17 ⟨Nat.zero_le _, Nat.zero_le _⟩ hK hP hD hS hA [0, 21] [1, 2, 3, 4, 5, 6, 7, 8, 9, 10, 11, 12, 13, 14, 15, 16, 17, 18, 19, 20] rfl rfl rfl (by decide) (by decide) 22 rfl rfl (by decide +kernel) (fun H locs hP hD hS => ?_)
    obtain ⟨rfl, rfl, rfl, rfl, rfl, rfl, rfl, rfl, rfl, rfl, rfl, rfl, rfl, rfl, rfl, rfl, rfl, rfl, rfl, rfl, rfl, rfl, rfl⟩ := dq_r23 hf
    exact ct_iret hx hb hr hlocks hAe hP hK hD hS dX6_wears_20
  · have hf := dq_f hf c3
    clear c3
    refine lv_iload_n hx hb dX6_wears_8 rfl (lv_at hl 2 rfl) ?_
    obtain ⟨x7, hy8, hf⟩ := dq_b hf
    refine ct_callS0 (own := RX6) (As := [.int n1]) (rest := []) ⟨hx, hb, hml, hown, hts⟩ (m_X6_isPeg l D y n1 x7 hy8) (va_cwS 1 hts gX6_wears_X6_isPeg rfl rfl rfl (by decide +kernel) ⟨Nat.le_of_ble_eq_true rfl, Nat.le_of_ble_eq_true rfl⟩) rfl hl.1 rfl (Nat.le_of_ble_eq_true rfl) dX6_wears_9 ⟨Nat.zero_le _, Nat.zero_le _⟩ hK hP hD hS hA (fun H locs hP hD hS => ?_)
    refine lv_if_ne (tgt := 21) hx hb dX6_wears_12 (by decide) (fun c9 => ?_) (fun c9 => ?_)
    · have hf := dq_f hf c9
      clear c9
      refine lv_aload_n hx hb dX6_wears_21 rfl (lv_at hl 0 rfl) ?_
      refine va_get (D := D) (ci := 5) (v := .ref (a 126)) (C := RX6) (T := TX6) (N := 12) hx hb hts hiX6 hown hK hP 0 rfl rfl 6 (by decide) hw1 (fun _ h9 => h9) rfl dX6_wears_22 ?_
      refine lv_iload_n hx hb dX6_wears_25 rfl (lv_at hl 2 rfl) ?_
      refine lv_iload_n hx hb dX6_wears_26 rfl (lv_at hl 3 rfl) ?_
      obtain ⟨x10, hy11, hf⟩ := dq_b hf
      refine ct_callVL (ci := 3) (q0 := 0) (own := RX6) (As := [.int n1, .int n2]) (rest := []) (L' := (w_X6_wears y a g_hasImage g_toldCount g_n_shutBits g_n_airs g_n_crownedBits g_n_sitters g_n_onBits g_n_turn g_n_taken g_n_warmth g_n_kind g_n_figure g_n_airCell g_n_way g_n_seat g_n_shawls g_n_count g_n_steps g_n_numbers g_past_next g_past_count g_coats_sorts g_coats_sizes g_places g_coats_carried g_refused)) (B := (w_blob y (fun k => a (34 + (1 + k))) g_k_shutBits g_k_airs g_k_crownedBits g_k_sitters g_k_onBits g_k_turn g_k_taken g_k_warmth g_k_kind g_k_figure g_k_airCell g_k_way g_k_seat g_k_shawls g_k_count g_k_steps g_k_numbers)) ⟨hx, hb, hml, hown, hts⟩ (m_X4_coatFault l D y (fun k => a (126 + k)) g_coats_sorts g_coats_sizes g_places g_coats_carried n1 n2 x10 hy11) (cwV 2 hts gX6_wears_X4_coatFault rfl rfl rfl (by decide +kernel) ⟨Nat.le_of_ble_eq_true rfl, Nat.le_of_ble_eq_true rfl⟩) rfl rfl rfl hl.1 rfl (Nat.le_of_ble_eq_true rfl) dX6_wears_27 ⟨Nat.zero_le _, Nat.zero_le _⟩ hK hP hD hS hA [13, 14, 15, 16, 17, 18, 19, 20] [0, 1, 2, 3, 4, 5, 6, 7, 8, 9, 10, 11, 12, 21] rfl rfl rfl (by decide) (by decide) 22 rfl rfl (by decide +kernel) (fun H locs hP hD hS => ?_)
      refine lv_istore (lv' := [(4, .int x10), (0, .ref (a 0)), (1, .int n0), (2, .int n1), (3, .int n2)]) hx hb dX6_wears_30 hl (by decide) rfl (fun ls hl => ?_)
      refine lv_iload hx hb dX6_wears_32 (lv_at hl 0 rfl) ?_
      refine lv_if_eq (tgt := 40) hx hb dX6_wears_34 (by decide) (fun c12 => ?_) (fun c12 => ?_)
      · have hf := dq_t hf c12
        clear c12
        refine lv_aload_n hx hb dX6_wears_40 rfl (lv_at hl 1 rfl) ?_
        refine va_get (D := D) (ci := 5) (v := .ref (a 34)) (C := RX6) (T := TX6) (N := 12) hx hb hts hiX6 hown hK hP 0 rfl rfl 4 (by decide) hw2 (fun _ h9 => h9) rfl dX6_wears_41 ?_
        refine lv_aload_n hx hb dX6_wears_44 rfl (lv_at hl 1 rfl) ?_
        refine va_get (D := D) (ci := 5) (v := .ref (a 1)) (C := RX6) (T := TX6) (N := 12) hx hb hts hiX6 hown hK hP 0 rfl rfl 0 (by decide) hw3 (fun _ h9 => h9) rfl dX6_wears_45 ?_
        obtain ⟨g_past_next_13, g_past_count_14, g_k_shutBits_15, g_k_airs_16, g_k_crownedBits_17, g_k_sitters_18, g_k_onBits_19, g_k_turn_20, g_k_taken_21, g_k_warmth_22, g_k_kind_23, g_k_figure_24, g_k_airCell_25, g_k_way_26, g_k_seat_27, g_k_shawls_28, g_k_count_29, g_k_steps_30, g_k_numbers_31, hy32, hf⟩ := dq_b19 hf
        refine ct_callVB (ci := 2) (q0 := 0) (own := RX6) (As := [.ref (a 1)]) (rest := []) (L' := (w_X6_wears y a g_hasImage g_toldCount g_n_shutBits g_n_airs g_n_crownedBits g_n_sitters g_n_onBits g_n_turn g_n_taken g_n_warmth g_n_kind g_n_figure g_n_airCell g_n_way g_n_seat g_n_shawls g_n_count g_n_steps g_n_numbers g_past_next_13 g_past_count_14 g_coats_sorts g_coats_sizes g_places g_coats_carried g_refused)) (B' := (w_blob y (fun k => a (34 + (1 + k))) g_k_shutBits_15 g_k_airs_16 g_k_crownedBits_17 g_k_sitters_18 g_k_onBits_19 g_k_turn_20 g_k_taken_21 g_k_warmth_22 g_k_kind_23 g_k_figure_24 g_k_airCell_25 g_k_way_26 g_k_seat_27 g_k_shawls_28 g_k_count_29 g_k_steps_30 g_k_numbers_31)) ⟨hx, hb, hml, hown, hts⟩ (m_X3_keep l D y (fun k => a (34 + k)) (fun k => a (1 + k)) g_past_next g_past_count g_n_shutBits g_n_airs g_n_crownedBits g_n_sitters g_n_onBits g_n_turn g_n_taken g_n_warmth g_n_kind g_n_figure g_n_airCell g_n_way g_n_seat g_n_shawls g_n_count g_n_steps g_n_numbers g_k_shutBits g_k_airs g_k_crownedBits g_k_sitters g_k_onBits g_k_turn g_k_taken g_k_warmth g_k_kind g_k_figure g_k_airCell g_k_way g_k_seat g_k_shawls g_k_count g_k_steps g_k_numbers g_past_next_13 g_past_count_14 g_k_shutBits_15 g_k_airs_16 g_k_crownedBits_17 g_k_sitters_18 g_k_onBits_19 g_k_turn_20 g_k_taken_21 g_k_warmth_22 g_k_kind_23 g_k_figure_24 g_k_airCell_25 g_k_way_26 g_k_seat_27 g_k_shawls_28 g_k_count_29 g_k_steps_30 g_k_numbers_31 hy32) (cwV 1 hts gX6_wears_X3_keep rfl rfl rfl (by decide +kernel) ⟨Nat.le_of_ble_eq_true rfl, Nat.le_of_ble_eq_true rfl⟩) rfl rfl rfl hl.1 rfl (Nat.le_of_ble_eq_true rfl) dX6_wears_48 ⟨Nat.zero_le _, Nat.zero_le _⟩ hK hP hD hS hA [12, 1, 2, 3, 4, 5, 6, 7, 8, 9, 10, 11] [0, 13, 14, 15, 16, 17, 18, 19, 20, 21] rfl rfl rfl (by decide) (by decide) 22 rfl rfl (by decide +kernel) w_blob_len (fun H locs hP hD hS => ?_)
        refine lv_aload_n hx hb dX6_wears_51 rfl (lv_at hl 1 rfl) ?_
        refine va_get (D := D) (ci := 5) (v := .ref (a 126)) (C := RX6) (T := TX6) (N := 12) hx hb hts hiX6 hown hK hP 0 rfl rfl 6 (by decide) hw1 (fun _ h9 => h9) rfl dX6_wears_52 ?_
        refine va_get (D := D) (ci := 3) (v := .ref (a 129)) (C := RX4) (T := TX4) (N := 4) hx hb hts hiX4 hown hK hP 13 rfl rfl 2 (by decide) hw4 (fun _ h9 => h9) rfl dX6_wears_55 ?_
        refine lv_iload_n hx hb dX6_wears_58 rfl (lv_at hl 3 rfl) ?_
        obtain ⟨h33, hf⟩ := dq_g hf
        obtain ⟨j46, hjj46, ej46⟩ := dq_ix h33
        have hjj46 : j46 = 0 ∨ j46 = 1 ∨ j46 = 2 := by omega
        rcases hjj46 with rfl | rfl | rfl
        · try rw [ej46] at hf
          refine dq_aldI (cA := y 4) (n := 3) (b := (a 130)) (f := (fun i => if i < 3 then some (a (126 + (4 + i))) else none)) hx hb hK hP 16 4 rfl rfl h33 (by rw [ej46]; rfl) dX6_wears_59 ?_
          refine lv_iload_n hx hb dX6_wears_60 rfl (lv_at hl 4 rfl) ?_
          obtain ⟨h47, hf⟩ := dq_g hf
          refine va_iald (cA := y 1) (n := 12) (f := (g_places 0)) hx hb hK hP 17 1 rfl rfl h47 dX6_wears_61 ?_
          refine lv_topi (fun x48 ex48 => ?_)
          have hf := dq_l hf x48 ex48
          clear ex48
          refine lv_istore (lv' := [(5, .int x48), (4, .int x10), (0, .ref (a 0)), (1, .int n0), (2, .int n1), (3, .int n2)]) hx hb dX6_wears_62 hl (by decide) rfl (fun ls hl => ?_)
          refine lv_aload_n hx hb dX6_wears_64 rfl (lv_at hl 2 rfl) ?_
          refine va_get (D := D) (ci := 5) (v := .ref (a 126)) (C := RX6) (T := TX6) (N := 12) hx hb hts hiX6 hown hK hP 0 rfl rfl 6 (by decide) hw1 (fun _ h9 => h9) rfl dX6_wears_65 ?_
          refine va_get (D := D) (ci := 3) (v := .ref (a 129)) (C := RX4) (T := TX4) (N := 4) hx hb hts hiX4 hown hK hP 13 rfl rfl 2 (by decide) hw4 (fun _ h9 => h9) rfl dX6_wears_68 ?_
          refine lv_iload_n hx hb dX6_wears_71 rfl (lv_at hl 4 rfl) ?_
          obtain ⟨h49, hf⟩ := dq_g hf
          refine dq_aldI (cA := y 4) (n := 3) (b := (a 130)) (f := (fun i => if i < 3 then some (a (126 + (4 + i))) else none)) hx hb hK hP 16 4 rfl rfl h49 (by rw [ej46]; rfl) dX6_wears_72 ?_
          refine lv_iload_n hx hb dX6_wears_73 rfl (lv_at hl 5 rfl) ?_
          refine lv_iconst (v := 0) hx hb dX6_wears_74 (by decide) ?_
          obtain ⟨h50, hf⟩ := dq_g hf
          refine dq_iast (cA := y 1) (n := 12) (f := (g_places 0)) hx hb hK hP hD hS 17 1 rfl rfl h50 dX6_wears_75 (fun g_places_51 eg_places_51 H locs hP hD hS => ?_)
          have hf := dq_l hf g_places_51 eg_places_51
          clear eg_places_51
          have hP : va_P D vwCl ((w_X6_wears y a g_hasImage g_toldCount g_n_shutBits g_n_airs g_n_crownedBits g_n_sitters g_n_onBits g_n_turn g_n_taken g_n_warmth g_n_kind g_n_figure g_n_airCell g_n_way g_n_seat g_n_shawls g_n_count g_n_steps g_n_numbers g_past_next_13 g_past_count_14 g_coats_sorts g_coats_sizes (va_up g_places 0 g_places_51) g_coats_carried g_refused) ++ (w_blob y (fun k => a (34 + (1 + k))) g_k_shutBits_15 g_k_airs_16 g_k_crownedBits_17 g_k_sitters_18 g_k_onBits_19 g_k_turn_20 g_k_taken_21 g_k_warmth_22 g_k_kind_23 g_k_figure_24 g_k_airCell_25 g_k_way_26 g_k_seat_27 g_k_shawls_28 g_k_count_29 g_k_steps_30 g_k_numbers_31)) H := hP
          have hD : va_D A ((w_X6_wears y a g_hasImage g_toldCount g_n_shutBits g_n_airs g_n_crownedBits g_n_sitters g_n_onBits g_n_turn g_n_taken g_n_warmth g_n_kind g_n_figure g_n_airCell g_n_way g_n_seat g_n_shawls g_n_count g_n_steps g_n_numbers g_past_next_13 g_past_count_14 g_coats_sorts g_coats_sizes (va_up g_places 0 g_places_51) g_coats_carried g_refused) ++ (w_blob y (fun k => a (34 + (1 + k))) g_k_shutBits_15 g_k_airs_16 g_k_crownedBits_17 g_k_sitters_18 g_k_onBits_19 g_k_turn_20 g_k_taken_21 g_k_warmth_22 g_k_kind_23 g_k_figure_24 g_k_airCell_25 g_k_way_26 g_k_seat_27 g_k_shawls_28 g_k_count_29 g_k_steps_30 g_k_numbers_31)) := hD
          refine lv_iload hx hb dX6_wears_76 (lv_at hl 0 rfl) ?_
          refine lv_bipush (v := 10) hx hb dX6_wears_78 (by decide) ?_
          refine lv_idiv hx hb dX6_wears_80 (by decide) ?_
          refine lv_iconst (v := 2) hx hb dX6_wears_81 (by decide) ?_
          have J100 : ∀ (x52 : Int32), f_X6_wears_b100 n0 g_n_shawls g_places g_refused g_past_next_13 g_past_count_14 g_k_shutBits_15 g_k_airs_16 g_k_crownedBits_17 g_k_sitters_18 g_k_onBits_19 g_k_turn_20 g_k_taken_21 g_k_warmth_22 g_k_kind_23 g_k_figure_24 g_k_airCell_25 g_k_way_26 g_k_seat_27 g_k_shawls_28 g_k_count_29 g_k_steps_30 g_k_numbers_31 g_places_51 x52 = some (z0, z1, z2, z3, z4, z5, z6, z7, z8, z9, z10, z11, z12, z13, z14, z15, z16, z17, z18, z19, z20, z21, z22) → ∀ (H : Heap) (locs : List Loc), va_P D vwCl ((w_X6_wears y a g_hasImage g_toldCount g_n_shutBits g_n_airs g_n_crownedBits g_n_sitters g_n_onBits g_n_turn g_n_taken g_n_warmth g_n_kind g_n_figure g_n_airCell g_n_way g_n_seat g_n_shawls g_n_count g_n_steps g_n_numbers g_past_next_13 g_past_count_14 g_coats_sorts g_coats_sizes (va_up g_places 0 g_places_51) g_coats_carried g_refused) ++ (w_blob y (fun k => a (34 + (1 + k))) g_k_shutBits_15 g_k_airs_16 g_k_crownedBits_17 g_k_sitters_18 g_k_onBits_19 g_k_turn_20 g_k_taken_21 g_k_warmth_22 g_k_kind_23 g_k_figure_24 g_k_airCell_25 g_k_way_26 g_k_seat_27 g_k_shawls_28 g_k_count_29 g_k_steps_30 g_k_numbers_31)) H → va_D A ((w_X6_wears y a g_hasImage g_toldCount g_n_shutBits g_n_airs g_n_crownedBits g_n_sitters g_n_onBits g_n_turn g_n_taken g_n_warmth g_n_kind g_n_figure g_n_airCell g_n_way g_n_seat g_n_shawls g_n_count g_n_steps g_n_numbers g_past_next_13 g_past_count_14 g_coats_sorts g_coats_sizes (va_up g_places 0 g_places_51) g_coats_carried g_refused) ++ (w_blob y (fun k => a (34 + (1 + k))) g_k_shutBits_15 g_k_airs_16 g_k_crownedBits_17 g_k_sitters_18 g_k_onBits_19 g_k_turn_20 g_k_taken_21 g_k_warmth_22 g_k_kind_23 g_k_figure_24 g_k_airCell_25 g_k_way_26 g_k_seat_27 g_k_shawls_28 g_k_count_29 g_k_steps_30 g_k_numbers_31)) → va_S A s.heap H locs → ∀ ls : Array Slot, lv_has ls 7 [(0, .ref (a 0)), (1, .int n0)] → W p l e ({ frames := 4, cells := 0, slots := 0, locals := 103 } : Room) s m [.ref (a 0), .int n0, .int n1, .int n2].toArray below meth c H locs 0 0 (MQ below (dQ D y (some (.int z0)) s.heap.size ((w_X6_wears y a g_hasImage g_toldCount g_n_shutBits g_n_airs g_n_crownedBits g_n_sitters g_n_onBits g_n_turn g_n_taken g_n_warmth g_n_kind g_n_figure g_n_airCell g_n_way g_n_seat g_n_shawls g_n_count g_n_steps g_n_numbers g_past_next g_past_count g_coats_sorts g_coats_sizes g_places g_coats_carried g_refused) ++ (w_blob y (fun k => a (34 + (1 + k))) g_k_shutBits g_k_airs g_k_crownedBits g_k_sitters g_k_onBits g_k_turn g_k_taken g_k_warmth g_k_kind g_k_figure g_k_airCell g_k_way g_k_seat g_k_shawls g_k_count g_k_steps g_k_numbers)) ((w_X6_wears y a g_hasImage g_toldCount g_n_shutBits g_n_airs g_n_crownedBits g_n_sitters g_n_onBits g_n_turn g_n_taken g_n_warmth g_n_kind g_n_figure g_n_airCell g_n_way g_n_seat z1 g_n_count g_n_steps g_n_numbers z2 z3 g_coats_sorts g_coats_sizes z4 g_coats_carried z5) ++ (w_blob y (fun k => a (34 + (1 + k))) z6 z7 z8 z9 z10 z11 z12 z13 z14 z15 z16 z17 z18 z19 z20 z21 z22))) [.ref (a 0), .int n0, .int n1, .int n2].toArray s 0 0 A) (F0 m 100 ls [.int x52]) := by
            intro x52 hf H locs hP hD hS ls hl
            unfold f_X6_wears_b100 at hf
            refine lv_istore (lv' := [(6, .int x52), (0, .ref (a 0)), (1, .int n0)]) hx hb dX6_wears_100 hl (by decide) rfl (fun ls hl => ?_)
            refine lv_aload_n hx hb dX6_wears_102 rfl (lv_at hl 1 rfl) ?_
            refine va_get (D := D) (ci := 5) (v := .ref (a 1)) (C := RX6) (T := TX6) (N := 12) hx hb hts hiX6 hown hK hP 0 rfl rfl 0 (by decide) hw3 (fun _ h9 => h9) rfl dX6_wears_103 ?_
            refine va_get (D := D) (ci := 1) (v := .ref (a 8)) (C := RX2) (T := TX2) (N := 15) hx hb hts hiX2 hown hK hP 1 rfl rfl 10 (by decide) hw5 (fun _ h9 => h9) rfl dX6_wears_106 ?_
            refine lv_iload_n hx hb dX6_wears_109 rfl (lv_at hl 2 rfl) ?_
            refine lv_aload_n hx hb dX6_wears_110 rfl (lv_at hl 1 rfl) ?_
            refine va_get (D := D) (ci := 5) (v := .ref (a 1)) (C := RX6) (T := TX6) (N := 12) hx hb hts hiX6 hown hK hP 0 rfl rfl 0 (by decide) hw3 (fun _ h9 => h9) rfl dX6_wears_111 ?_
            refine va_get (D := D) (ci := 1) (v := .ref (a 8)) (C := RX2) (T := TX2) (N := 15) hx hb hts hiX2 hown hK hP 1 rfl rfl 10 (by decide) hw5 (fun _ h9 => h9) rfl dX6_wears_114 ?_
            refine lv_iload_n hx hb dX6_wears_117 rfl (lv_at hl 2 rfl) ?_
            obtain ⟨h53, hf⟩ := dq_g hf
            refine va_iald (cA := y 1) (n := 6) (f := g_n_shawls) hx hb hK hP 8 1 rfl rfl h53 dX6_wears_118 ?_
            refine lv_iload hx hb dX6_wears_119 (lv_at hl 0 rfl) ?_
            refine lv_iadd hx hb dX6_wears_121 ?_
            refine lv_bipush (v := 9) hx hb dX6_wears_122 (by decide) ?_
            refine va_mmin hx hb (hml.trans hl.1.symm) hown hw6 hw7 hw8 hw9 (Nat.le_of_ble_eq_true rfl) (Nat.le_of_ble_eq_true rfl) (Nat.zero_le _) (Nat.zero_le _) dX6_wears_124 ?_
            refine lv_topi (fun x54 ex54 => ?_)
            have hf := dq_l hf x54 ex54
            clear ex54
            obtain ⟨h55, hf⟩ := dq_g hf
            refine dq_iast (cA := y 1) (n := 6) (f := g_n_shawls) hx hb hK hP hD hS 8 1 rfl rfl h55 dX6_wears_127 (fun g_n_shawls_56 eg_n_shawls_56 H locs hP hD hS => ?_)
            have hf := dq_l hf g_n_shawls_56 eg_n_shawls_56
            clear eg_n_shawls_56
            have hP : va_P D vwCl ((w_X6_wears y a g_hasImage g_toldCount g_n_shutBits g_n_airs g_n_crownedBits g_n_sitters g_n_onBits g_n_turn g_n_taken g_n_warmth g_n_kind g_n_figure g_n_airCell g_n_way g_n_seat g_n_shawls_56 g_n_count g_n_steps g_n_numbers g_past_next_13 g_past_count_14 g_coats_sorts g_coats_sizes (va_up g_places 0 g_places_51) g_coats_carried g_refused) ++ (w_blob y (fun k => a (34 + (1 + k))) g_k_shutBits_15 g_k_airs_16 g_k_crownedBits_17 g_k_sitters_18 g_k_onBits_19 g_k_turn_20 g_k_taken_21 g_k_warmth_22 g_k_kind_23 g_k_figure_24 g_k_airCell_25 g_k_way_26 g_k_seat_27 g_k_shawls_28 g_k_count_29 g_k_steps_30 g_k_numbers_31)) H := hP
            have hD : va_D A ((w_X6_wears y a g_hasImage g_toldCount g_n_shutBits g_n_airs g_n_crownedBits g_n_sitters g_n_onBits g_n_turn g_n_taken g_n_warmth g_n_kind g_n_figure g_n_airCell g_n_way g_n_seat g_n_shawls_56 g_n_count g_n_steps g_n_numbers g_past_next_13 g_past_count_14 g_coats_sorts g_coats_sizes (va_up g_places 0 g_places_51) g_coats_carried g_refused) ++ (w_blob y (fun k => a (34 + (1 + k))) g_k_shutBits_15 g_k_airs_16 g_k_crownedBits_17 g_k_sitters_18 g_k_onBits_19 g_k_turn_20 g_k_taken_21 g_k_warmth_22 g_k_kind_23 g_k_figure_24 g_k_airCell_25 g_k_way_26 g_k_seat_27 g_k_shawls_28 g_k_count_29 g_k_steps_30 g_k_numbers_31)) := hD
            refine lv_aload_n hx hb dX6_wears_128 rfl (lv_at hl 1 rfl) ?_
            refine va_get (D := D) (ci := 5) (v := .ref (a 1)) (C := RX6) (T := TX6) (N := 12) hx hb hts hiX6 hown hK hP 0 rfl rfl 0 (by decide) hw3 (fun _ h9 => h9) rfl dX6_wears_129 ?_
            refine va_get (D := D) (ci := 1) (v := .ref (a 8)) (C := RX2) (T := TX2) (N := 15) hx hb hts hiX2 hown hK hP 1 rfl rfl 10 (by decide) hw5 (fun _ h9 => h9) rfl dX6_wears_132 ?_
            refine lv_iload_n hx hb dX6_wears_135 rfl (lv_at hl 2 rfl) ?_
            obtain ⟨h57, hf⟩ := dq_g hf
            refine va_iald (cA := y 1) (n := 6) (f := g_n_shawls_56) hx hb hK hP 8 1 rfl rfl h57 dX6_wears_136 ?_
            obtain ⟨rfl, rfl, rfl, rfl, rfl, rfl, rfl, rfl, rfl, rfl, rfl, rfl, rfl, rfl, rfl, rfl, rfl, rfl, rfl, rfl, rfl, rfl, rfl⟩ := dq_r23 hf
            exact ct_iret hx hb hr hlocks hAe hP hK hD hS dX6_wears_137
          refine lv_icmp_ne (tgt := 95) hx hb dX6_wears_82 (by decide) (fun c58 => ?_) (fun c58 => ?_)
          · have hf := dq_f hf c58
            clear c58
            refine lv_iload hx hb dX6_wears_95 (lv_at hl 0 rfl) ?_
            refine lv_bipush (v := 10) hx hb dX6_wears_97 (by decide) ?_
            refine lv_irem hx hb dX6_wears_99 (by decide) ?_
            exact J100 _ hf _ _ hP hD hS _ (lv_sub hl [2, 3] rfl)
          · have hf := dq_t hf c58
            clear c58
            refine lv_iconst (v := 2) hx hb dX6_wears_85 (by decide) ?_
            refine lv_iload hx hb dX6_wears_86 (lv_at hl 0 rfl) ?_
            refine lv_bipush (v := 10) hx hb dX6_wears_88 (by decide) ?_
            refine lv_irem hx hb dX6_wears_90 (by decide) ?_
            refine lv_imul hx hb dX6_wears_91 ?_
            refine lv_goto (tgt := 100) hx hb dX6_wears_92 (by decide) ?_
            exact J100 _ hf _ _ hP hD hS _ (lv_sub hl [2, 3] rfl)
        · try rw [ej46] at hf
          refine dq_aldI (cA := y 4) (n := 3) (b := (a 131)) (f := (fun i => if i < 3 then some (a (126 + (4 + i))) else none)) hx hb hK hP 16 4 rfl rfl h33 (by rw [ej46]; rfl) dX6_wears_59 ?_
          refine lv_iload_n hx hb dX6_wears_60 rfl (lv_at hl 4 rfl) ?_
          obtain ⟨h59, hf⟩ := dq_g hf
          refine va_iald (cA := y 1) (n := 12) (f := (g_places 1)) hx hb hK hP 18 1 rfl rfl h59 dX6_wears_61 ?_
          refine lv_topi (fun x60 ex60 => ?_)
          have hf := dq_l hf x60 ex60
          clear ex60
          refine lv_istore (lv' := [(5, .int x60), (4, .int x10), (0, .ref (a 0)), (1, .int n0), (2, .int n1), (3, .int n2)]) hx hb dX6_wears_62 hl (by decide) rfl (fun ls hl => ?_)
          refine lv_aload_n hx hb dX6_wears_64 rfl (lv_at hl 2 rfl) ?_
          refine va_get (D := D) (ci := 5) (v := .ref (a 126)) (C := RX6) (T := TX6) (N := 12) hx hb hts hiX6 hown hK hP 0 rfl rfl 6 (by decide) hw1 (fun _ h9 => h9) rfl dX6_wears_65 ?_
          refine va_get (D := D) (ci := 3) (v := .ref (a 129)) (C := RX4) (T := TX4) (N := 4) hx hb hts hiX4 hown hK hP 13 rfl rfl 2 (by decide) hw4 (fun _ h9 => h9) rfl dX6_wears_68 ?_
          refine lv_iload_n hx hb dX6_wears_71 rfl (lv_at hl 4 rfl) ?_
          obtain ⟨h61, hf⟩ := dq_g hf
          refine dq_aldI (cA := y 4) (n := 3) (b := (a 131)) (f := (fun i => if i < 3 then some (a (126 + (4 + i))) else none)) hx hb hK hP 16 4 rfl rfl h61 (by rw [ej46]; rfl) dX6_wears_72 ?_
          refine lv_iload_n hx hb dX6_wears_73 rfl (lv_at hl 5 rfl) ?_
          refine lv_iconst (v := 0) hx hb dX6_wears_74 (by decide) ?_
          obtain ⟨h62, hf⟩ := dq_g hf
          refine dq_iast (cA := y 1) (n := 12) (f := (g_places 1)) hx hb hK hP hD hS 18 1 rfl rfl h62 dX6_wears_75 (fun g_places_63 eg_places_63 H locs hP hD hS => ?_)
          have hf := dq_l hf g_places_63 eg_places_63
          clear eg_places_63
          have hP : va_P D vwCl ((w_X6_wears y a g_hasImage g_toldCount g_n_shutBits g_n_airs g_n_crownedBits g_n_sitters g_n_onBits g_n_turn g_n_taken g_n_warmth g_n_kind g_n_figure g_n_airCell g_n_way g_n_seat g_n_shawls g_n_count g_n_steps g_n_numbers g_past_next_13 g_past_count_14 g_coats_sorts g_coats_sizes (va_up g_places 1 g_places_63) g_coats_carried g_refused) ++ (w_blob y (fun k => a (34 + (1 + k))) g_k_shutBits_15 g_k_airs_16 g_k_crownedBits_17 g_k_sitters_18 g_k_onBits_19 g_k_turn_20 g_k_taken_21 g_k_warmth_22 g_k_kind_23 g_k_figure_24 g_k_airCell_25 g_k_way_26 g_k_seat_27 g_k_shawls_28 g_k_count_29 g_k_steps_30 g_k_numbers_31)) H := hP
          have hD : va_D A ((w_X6_wears y a g_hasImage g_toldCount g_n_shutBits g_n_airs g_n_crownedBits g_n_sitters g_n_onBits g_n_turn g_n_taken g_n_warmth g_n_kind g_n_figure g_n_airCell g_n_way g_n_seat g_n_shawls g_n_count g_n_steps g_n_numbers g_past_next_13 g_past_count_14 g_coats_sorts g_coats_sizes (va_up g_places 1 g_places_63) g_coats_carried g_refused) ++ (w_blob y (fun k => a (34 + (1 + k))) g_k_shutBits_15 g_k_airs_16 g_k_crownedBits_17 g_k_sitters_18 g_k_onBits_19 g_k_turn_20 g_k_taken_21 g_k_warmth_22 g_k_kind_23 g_k_figure_24 g_k_airCell_25 g_k_way_26 g_k_seat_27 g_k_shawls_28 g_k_count_29 g_k_steps_30 g_k_numbers_31)) := hD
          refine lv_iload hx hb dX6_wears_76 (lv_at hl 0 rfl) ?_
          refine lv_bipush (v := 10) hx hb dX6_wears_78 (by decide) ?_
          refine lv_idiv hx hb dX6_wears_80 (by decide) ?_
          refine lv_iconst (v := 2) hx hb dX6_wears_81 (by decide) ?_
          have J100 : ∀ (x64 : Int32), f_X6_wears_b100 n0 g_n_shawls g_places g_refused g_past_next_13 g_past_count_14 g_k_shutBits_15 g_k_airs_16 g_k_crownedBits_17 g_k_sitters_18 g_k_onBits_19 g_k_turn_20 g_k_taken_21 g_k_warmth_22 g_k_kind_23 g_k_figure_24 g_k_airCell_25 g_k_way_26 g_k_seat_27 g_k_shawls_28 g_k_count_29 g_k_steps_30 g_k_numbers_31 g_places_63 x64 = some (z0, z1, z2, z3, z4, z5, z6, z7, z8, z9, z10, z11, z12, z13, z14, z15, z16, z17, z18, z19, z20, z21, z22) → ∀ (H : Heap) (locs : List Loc), va_P D vwCl ((w_X6_wears y a g_hasImage g_toldCount g_n_shutBits g_n_airs g_n_crownedBits g_n_sitters g_n_onBits g_n_turn g_n_taken g_n_warmth g_n_kind g_n_figure g_n_airCell g_n_way g_n_seat g_n_shawls g_n_count g_n_steps g_n_numbers g_past_next_13 g_past_count_14 g_coats_sorts g_coats_sizes (va_up g_places 1 g_places_63) g_coats_carried g_refused) ++ (w_blob y (fun k => a (34 + (1 + k))) g_k_shutBits_15 g_k_airs_16 g_k_crownedBits_17 g_k_sitters_18 g_k_onBits_19 g_k_turn_20 g_k_taken_21 g_k_warmth_22 g_k_kind_23 g_k_figure_24 g_k_airCell_25 g_k_way_26 g_k_seat_27 g_k_shawls_28 g_k_count_29 g_k_steps_30 g_k_numbers_31)) H → va_D A ((w_X6_wears y a g_hasImage g_toldCount g_n_shutBits g_n_airs g_n_crownedBits g_n_sitters g_n_onBits g_n_turn g_n_taken g_n_warmth g_n_kind g_n_figure g_n_airCell g_n_way g_n_seat g_n_shawls g_n_count g_n_steps g_n_numbers g_past_next_13 g_past_count_14 g_coats_sorts g_coats_sizes (va_up g_places 1 g_places_63) g_coats_carried g_refused) ++ (w_blob y (fun k => a (34 + (1 + k))) g_k_shutBits_15 g_k_airs_16 g_k_crownedBits_17 g_k_sitters_18 g_k_onBits_19 g_k_turn_20 g_k_taken_21 g_k_warmth_22 g_k_kind_23 g_k_figure_24 g_k_airCell_25 g_k_way_26 g_k_seat_27 g_k_shawls_28 g_k_count_29 g_k_steps_30 g_k_numbers_31)) → va_S A s.heap H locs → ∀ ls : Array Slot, lv_has ls 7 [(0, .ref (a 0)), (1, .int n0)] → W p l e ({ frames := 4, cells := 0, slots := 0, locals := 103 } : Room) s m [.ref (a 0), .int n0, .int n1, .int n2].toArray below meth c H locs 0 0 (MQ below (dQ D y (some (.int z0)) s.heap.size ((w_X6_wears y a g_hasImage g_toldCount g_n_shutBits g_n_airs g_n_crownedBits g_n_sitters g_n_onBits g_n_turn g_n_taken g_n_warmth g_n_kind g_n_figure g_n_airCell g_n_way g_n_seat g_n_shawls g_n_count g_n_steps g_n_numbers g_past_next g_past_count g_coats_sorts g_coats_sizes g_places g_coats_carried g_refused) ++ (w_blob y (fun k => a (34 + (1 + k))) g_k_shutBits g_k_airs g_k_crownedBits g_k_sitters g_k_onBits g_k_turn g_k_taken g_k_warmth g_k_kind g_k_figure g_k_airCell g_k_way g_k_seat g_k_shawls g_k_count g_k_steps g_k_numbers)) ((w_X6_wears y a g_hasImage g_toldCount g_n_shutBits g_n_airs g_n_crownedBits g_n_sitters g_n_onBits g_n_turn g_n_taken g_n_warmth g_n_kind g_n_figure g_n_airCell g_n_way g_n_seat z1 g_n_count g_n_steps g_n_numbers z2 z3 g_coats_sorts g_coats_sizes z4 g_coats_carried z5) ++ (w_blob y (fun k => a (34 + (1 + k))) z6 z7 z8 z9 z10 z11 z12 z13 z14 z15 z16 z17 z18 z19 z20 z21 z22))) [.ref (a 0), .int n0, .int n1, .int n2].toArray s 0 0 A) (F0 m 100 ls [.int x64]) := by
            intro x64 hf H locs hP hD hS ls hl
            unfold f_X6_wears_b100 at hf
            refine lv_istore (lv' := [(6, .int x64), (0, .ref (a 0)), (1, .int n0)]) hx hb dX6_wears_100 hl (by decide) rfl (fun ls hl => ?_)
            refine lv_aload_n hx hb dX6_wears_102 rfl (lv_at hl 1 rfl) ?_
            refine va_get (D := D) (ci := 5) (v := .ref (a 1)) (C := RX6) (T := TX6) (N := 12) hx hb hts hiX6 hown hK hP 0 rfl rfl 0 (by decide) hw3 (fun _ h9 => h9) rfl dX6_wears_103 ?_
            refine va_get (D := D) (ci := 1) (v := .ref (a 8)) (C := RX2) (T := TX2) (N := 15) hx hb hts hiX2 hown hK hP 1 rfl rfl 10 (by decide) hw5 (fun _ h9 => h9) rfl dX6_wears_106 ?_
            refine lv_iload_n hx hb dX6_wears_109 rfl (lv_at hl 2 rfl) ?_
            refine lv_aload_n hx hb dX6_wears_110 rfl (lv_at hl 1 rfl) ?_
            refine va_get (D := D) (ci := 5) (v := .ref (a 1)) (C := RX6) (T := TX6) (N := 12) hx hb hts hiX6 hown hK hP 0 rfl rfl 0 (by decide) hw3 (fun _ h9 => h9) rfl dX6_wears_111 ?_
            refine va_get (D := D) (ci := 1) (v := .ref (a 8)) (C := RX2) (T := TX2) (N := 15) hx hb hts hiX2 hown hK hP 1 rfl rfl 10 (by decide) hw5 (fun _ h9 => h9) rfl dX6_wears_114 ?_
            refine lv_iload_n hx hb dX6_wears_117 rfl (lv_at hl 2 rfl) ?_
            obtain ⟨h65, hf⟩ := dq_g hf
            refine va_iald (cA := y 1) (n := 6) (f := g_n_shawls) hx hb hK hP 8 1 rfl rfl h65 dX6_wears_118 ?_
            refine lv_iload hx hb dX6_wears_119 (lv_at hl 0 rfl) ?_
            refine lv_iadd hx hb dX6_wears_121 ?_
            refine lv_bipush (v := 9) hx hb dX6_wears_122 (by decide) ?_
            refine va_mmin hx hb (hml.trans hl.1.symm) hown hw6 hw7 hw8 hw9 (Nat.le_of_ble_eq_true rfl) (Nat.le_of_ble_eq_true rfl) (Nat.zero_le _) (Nat.zero_le _) dX6_wears_124 ?_
            refine lv_topi (fun x66 ex66 => ?_)
            have hf := dq_l hf x66 ex66
            clear ex66
            obtain ⟨h67, hf⟩ := dq_g hf
            refine dq_iast (cA := y 1) (n := 6) (f := g_n_shawls) hx hb hK hP hD hS 8 1 rfl rfl h67 dX6_wears_127 (fun g_n_shawls_68 eg_n_shawls_68 H locs hP hD hS => ?_)
            have hf := dq_l hf g_n_shawls_68 eg_n_shawls_68
            clear eg_n_shawls_68
            have hP : va_P D vwCl ((w_X6_wears y a g_hasImage g_toldCount g_n_shutBits g_n_airs g_n_crownedBits g_n_sitters g_n_onBits g_n_turn g_n_taken g_n_warmth g_n_kind g_n_figure g_n_airCell g_n_way g_n_seat g_n_shawls_68 g_n_count g_n_steps g_n_numbers g_past_next_13 g_past_count_14 g_coats_sorts g_coats_sizes (va_up g_places 1 g_places_63) g_coats_carried g_refused) ++ (w_blob y (fun k => a (34 + (1 + k))) g_k_shutBits_15 g_k_airs_16 g_k_crownedBits_17 g_k_sitters_18 g_k_onBits_19 g_k_turn_20 g_k_taken_21 g_k_warmth_22 g_k_kind_23 g_k_figure_24 g_k_airCell_25 g_k_way_26 g_k_seat_27 g_k_shawls_28 g_k_count_29 g_k_steps_30 g_k_numbers_31)) H := hP
            have hD : va_D A ((w_X6_wears y a g_hasImage g_toldCount g_n_shutBits g_n_airs g_n_crownedBits g_n_sitters g_n_onBits g_n_turn g_n_taken g_n_warmth g_n_kind g_n_figure g_n_airCell g_n_way g_n_seat g_n_shawls_68 g_n_count g_n_steps g_n_numbers g_past_next_13 g_past_count_14 g_coats_sorts g_coats_sizes (va_up g_places 1 g_places_63) g_coats_carried g_refused) ++ (w_blob y (fun k => a (34 + (1 + k))) g_k_shutBits_15 g_k_airs_16 g_k_crownedBits_17 g_k_sitters_18 g_k_onBits_19 g_k_turn_20 g_k_taken_21 g_k_warmth_22 g_k_kind_23 g_k_figure_24 g_k_airCell_25 g_k_way_26 g_k_seat_27 g_k_shawls_28 g_k_count_29 g_k_steps_30 g_k_numbers_31)) := hD
            refine lv_aload_n hx hb dX6_wears_128 rfl (lv_at hl 1 rfl) ?_
            refine va_get (D := D) (ci := 5) (v := .ref (a 1)) (C := RX6) (T := TX6) (N := 12) hx hb hts hiX6 hown hK hP 0 rfl rfl 0 (by decide) hw3 (fun _ h9 => h9) rfl dX6_wears_129 ?_
            refine va_get (D := D) (ci := 1) (v := .ref (a 8)) (C := RX2) (T := TX2) (N := 15) hx hb hts hiX2 hown hK hP 1 rfl rfl 10 (by decide) hw5 (fun _ h9 => h9) rfl dX6_wears_132 ?_
            refine lv_iload_n hx hb dX6_wears_135 rfl (lv_at hl 2 rfl) ?_
            obtain ⟨h69, hf⟩ := dq_g hf
            refine va_iald (cA := y 1) (n := 6) (f := g_n_shawls_68) hx hb hK hP 8 1 rfl rfl h69 dX6_wears_136 ?_
            obtain ⟨rfl, rfl, rfl, rfl, rfl, rfl, rfl, rfl, rfl, rfl, rfl, rfl, rfl, rfl, rfl, rfl, rfl, rfl, rfl, rfl, rfl, rfl, rfl⟩ := dq_r23 hf
            exact ct_iret hx hb hr hlocks hAe hP hK hD hS dX6_wears_137
          refine lv_icmp_ne (tgt := 95) hx hb dX6_wears_82 (by decide) (fun c70 => ?_) (fun c70 => ?_)
          · have hf := dq_f hf c70
            clear c70
            refine lv_iload hx hb dX6_wears_95 (lv_at hl 0 rfl) ?_
            refine lv_bipush (v := 10) hx hb dX6_wears_97 (by decide) ?_
            refine lv_irem hx hb dX6_wears_99 (by decide) ?_
            exact J100 _ hf _ _ hP hD hS _ (lv_sub hl [2, 3] rfl)
          · have hf := dq_t hf c70
            clear c70
            refine lv_iconst (v := 2) hx hb dX6_wears_85 (by decide) ?_
            refine lv_iload hx hb dX6_wears_86 (lv_at hl 0 rfl) ?_
            refine lv_bipush (v := 10) hx hb dX6_wears_88 (by decide) ?_
            refine lv_irem hx hb dX6_wears_90 (by decide) ?_
            refine lv_imul hx hb dX6_wears_91 ?_
            refine lv_goto (tgt := 100) hx hb dX6_wears_92 (by decide) ?_
            exact J100 _ hf _ _ hP hD hS _ (lv_sub hl [2, 3] rfl)
        · try rw [ej46] at hf
          refine dq_aldI (cA := y 4) (n := 3) (b := (a 132)) (f := (fun i => if i < 3 then some (a (126 + (4 + i))) else none)) hx hb hK hP 16 4 rfl rfl h33 (by rw [ej46]; rfl) dX6_wears_59 ?_
          refine lv_iload_n hx hb dX6_wears_60 rfl (lv_at hl 4 rfl) ?_
          obtain ⟨h71, hf⟩ := dq_g hf
          refine va_iald (cA := y 1) (n := 12) (f := (g_places 2)) hx hb hK hP 19 1 rfl rfl h71 dX6_wears_61 ?_
          refine lv_topi (fun x72 ex72 => ?_)
          have hf := dq_l hf x72 ex72
          clear ex72
          refine lv_istore (lv' := [(5, .int x72), (4, .int x10), (0, .ref (a 0)), (1, .int n0), (2, .int n1), (3, .int n2)]) hx hb dX6_wears_62 hl (by decide) rfl (fun ls hl => ?_)
          refine lv_aload_n hx hb dX6_wears_64 rfl (lv_at hl 2 rfl) ?_
          refine va_get (D := D) (ci := 5) (v := .ref (a 126)) (C := RX6) (T := TX6) (N := 12) hx hb hts hiX6 hown hK hP 0 rfl rfl 6 (by decide) hw1 (fun _ h9 => h9) rfl dX6_wears_65 ?_
          refine va_get (D := D) (ci := 3) (v := .ref (a 129)) (C := RX4) (T := TX4) (N := 4) hx hb hts hiX4 hown hK hP 13 rfl rfl 2 (by decide) hw4 (fun _ h9 => h9) rfl dX6_wears_68 ?_
          refine lv_iload_n hx hb dX6_wears_71 rfl (lv_at hl 4 rfl) ?_
          obtain ⟨h73, hf⟩ := dq_g hf
          refine dq_aldI (cA := y 4) (n := 3) (b := (a 132)) (f := (fun i => if i < 3 then some (a (126 + (4 + i))) else none)) hx hb hK hP 16 4 rfl rfl h73 (by rw [ej46]; rfl) dX6_wears_72 ?_
          refine lv_iload_n hx hb dX6_wears_73 rfl (lv_at hl 5 rfl) ?_
          refine lv_iconst (v := 0) hx hb dX6_wears_74 (by decide) ?_
          obtain ⟨h74, hf⟩ := dq_g hf
          refine dq_iast (cA := y 1) (n := 12) (f := (g_places 2)) hx hb hK hP hD hS 19 1 rfl rfl h74 dX6_wears_75 (fun g_places_75 eg_places_75 H locs hP hD hS => ?_)
          have hf := dq_l hf g_places_75 eg_places_75
          clear eg_places_75
          have hP : va_P D vwCl ((w_X6_wears y a g_hasImage g_toldCount g_n_shutBits g_n_airs g_n_crownedBits g_n_sitters g_n_onBits g_n_turn g_n_taken g_n_warmth g_n_kind g_n_figure g_n_airCell g_n_way g_n_seat g_n_shawls g_n_count g_n_steps g_n_numbers g_past_next_13 g_past_count_14 g_coats_sorts g_coats_sizes (va_up g_places 2 g_places_75) g_coats_carried g_refused) ++ (w_blob y (fun k => a (34 + (1 + k))) g_k_shutBits_15 g_k_airs_16 g_k_crownedBits_17 g_k_sitters_18 g_k_onBits_19 g_k_turn_20 g_k_taken_21 g_k_warmth_22 g_k_kind_23 g_k_figure_24 g_k_airCell_25 g_k_way_26 g_k_seat_27 g_k_shawls_28 g_k_count_29 g_k_steps_30 g_k_numbers_31)) H := hP
          have hD : va_D A ((w_X6_wears y a g_hasImage g_toldCount g_n_shutBits g_n_airs g_n_crownedBits g_n_sitters g_n_onBits g_n_turn g_n_taken g_n_warmth g_n_kind g_n_figure g_n_airCell g_n_way g_n_seat g_n_shawls g_n_count g_n_steps g_n_numbers g_past_next_13 g_past_count_14 g_coats_sorts g_coats_sizes (va_up g_places 2 g_places_75) g_coats_carried g_refused) ++ (w_blob y (fun k => a (34 + (1 + k))) g_k_shutBits_15 g_k_airs_16 g_k_crownedBits_17 g_k_sitters_18 g_k_onBits_19 g_k_turn_20 g_k_taken_21 g_k_warmth_22 g_k_kind_23 g_k_figure_24 g_k_airCell_25 g_k_way_26 g_k_seat_27 g_k_shawls_28 g_k_count_29 g_k_steps_30 g_k_numbers_31)) := hD
          refine lv_iload hx hb dX6_wears_76 (lv_at hl 0 rfl) ?_
          refine lv_bipush (v := 10) hx hb dX6_wears_78 (by decide) ?_
          refine lv_idiv hx hb dX6_wears_80 (by decide) ?_
          refine lv_iconst (v := 2) hx hb dX6_wears_81 (by decide) ?_
          have J100 : ∀ (x76 : Int32), f_X6_wears_b100 n0 g_n_shawls g_places g_refused g_past_next_13 g_past_count_14 g_k_shutBits_15 g_k_airs_16 g_k_crownedBits_17 g_k_sitters_18 g_k_onBits_19 g_k_turn_20 g_k_taken_21 g_k_warmth_22 g_k_kind_23 g_k_figure_24 g_k_airCell_25 g_k_way_26 g_k_seat_27 g_k_shawls_28 g_k_count_29 g_k_steps_30 g_k_numbers_31 g_places_75 x76 = some (z0, z1, z2, z3, z4, z5, z6, z7, z8, z9, z10, z11, z12, z13, z14, z15, z16, z17, z18, z19, z20, z21, z22) → ∀ (H : Heap) (locs : List Loc), va_P D vwCl ((w_X6_wears y a g_hasImage g_toldCount g_n_shutBits g_n_airs g_n_crownedBits g_n_sitters g_n_onBits g_n_turn g_n_taken g_n_warmth g_n_kind g_n_figure g_n_airCell g_n_way g_n_seat g_n_shawls g_n_count g_n_steps g_n_numbers g_past_next_13 g_past_count_14 g_coats_sorts g_coats_sizes (va_up g_places 2 g_places_75) g_coats_carried g_refused) ++ (w_blob y (fun k => a (34 + (1 + k))) g_k_shutBits_15 g_k_airs_16 g_k_crownedBits_17 g_k_sitters_18 g_k_onBits_19 g_k_turn_20 g_k_taken_21 g_k_warmth_22 g_k_kind_23 g_k_figure_24 g_k_airCell_25 g_k_way_26 g_k_seat_27 g_k_shawls_28 g_k_count_29 g_k_steps_30 g_k_numbers_31)) H → va_D A ((w_X6_wears y a g_hasImage g_toldCount g_n_shutBits g_n_airs g_n_crownedBits g_n_sitters g_n_onBits g_n_turn g_n_taken g_n_warmth g_n_kind g_n_figure g_n_airCell g_n_way g_n_seat g_n_shawls g_n_count g_n_steps g_n_numbers g_past_next_13 g_past_count_14 g_coats_sorts g_coats_sizes (va_up g_places 2 g_places_75) g_coats_carried g_refused) ++ (w_blob y (fun k => a (34 + (1 + k))) g_k_shutBits_15 g_k_airs_16 g_k_crownedBits_17 g_k_sitters_18 g_k_onBits_19 g_k_turn_20 g_k_taken_21 g_k_warmth_22 g_k_kind_23 g_k_figure_24 g_k_airCell_25 g_k_way_26 g_k_seat_27 g_k_shawls_28 g_k_count_29 g_k_steps_30 g_k_numbers_31)) → va_S A s.heap H locs → ∀ ls : Array Slot, lv_has ls 7 [(0, .ref (a 0)), (1, .int n0)] → W p l e ({ frames := 4, cells := 0, slots := 0, locals := 103 } : Room) s m [.ref (a 0), .int n0, .int n1, .int n2].toArray below meth c H locs 0 0 (MQ below (dQ D y (some (.int z0)) s.heap.size ((w_X6_wears y a g_hasImage g_toldCount g_n_shutBits g_n_airs g_n_crownedBits g_n_sitters g_n_onBits g_n_turn g_n_taken g_n_warmth g_n_kind g_n_figure g_n_airCell g_n_way g_n_seat g_n_shawls g_n_count g_n_steps g_n_numbers g_past_next g_past_count g_coats_sorts g_coats_sizes g_places g_coats_carried g_refused) ++ (w_blob y (fun k => a (34 + (1 + k))) g_k_shutBits g_k_airs g_k_crownedBits g_k_sitters g_k_onBits g_k_turn g_k_taken g_k_warmth g_k_kind g_k_figure g_k_airCell g_k_way g_k_seat g_k_shawls g_k_count g_k_steps g_k_numbers)) ((w_X6_wears y a g_hasImage g_toldCount g_n_shutBits g_n_airs g_n_crownedBits g_n_sitters g_n_onBits g_n_turn g_n_taken g_n_warmth g_n_kind g_n_figure g_n_airCell g_n_way g_n_seat z1 g_n_count g_n_steps g_n_numbers z2 z3 g_coats_sorts g_coats_sizes z4 g_coats_carried z5) ++ (w_blob y (fun k => a (34 + (1 + k))) z6 z7 z8 z9 z10 z11 z12 z13 z14 z15 z16 z17 z18 z19 z20 z21 z22))) [.ref (a 0), .int n0, .int n1, .int n2].toArray s 0 0 A) (F0 m 100 ls [.int x76]) := by
            intro x76 hf H locs hP hD hS ls hl
            unfold f_X6_wears_b100 at hf
            refine lv_istore (lv' := [(6, .int x76), (0, .ref (a 0)), (1, .int n0)]) hx hb dX6_wears_100 hl (by decide) rfl (fun ls hl => ?_)
            refine lv_aload_n hx hb dX6_wears_102 rfl (lv_at hl 1 rfl) ?_
            refine va_get (D := D) (ci := 5) (v := .ref (a 1)) (C := RX6) (T := TX6) (N := 12) hx hb hts hiX6 hown hK hP 0 rfl rfl 0 (by decide) hw3 (fun _ h9 => h9) rfl dX6_wears_103 ?_
            refine va_get (D := D) (ci := 1) (v := .ref (a 8)) (C := RX2) (T := TX2) (N := 15) hx hb hts hiX2 hown hK hP 1 rfl rfl 10 (by decide) hw5 (fun _ h9 => h9) rfl dX6_wears_106 ?_
            refine lv_iload_n hx hb dX6_wears_109 rfl (lv_at hl 2 rfl) ?_
            refine lv_aload_n hx hb dX6_wears_110 rfl (lv_at hl 1 rfl) ?_
            refine va_get (D := D) (ci := 5) (v := .ref (a 1)) (C := RX6) (T := TX6) (N := 12) hx hb hts hiX6 hown hK hP 0 rfl rfl 0 (by decide) hw3 (fun _ h9 => h9) rfl dX6_wears_111 ?_
            refine va_get (D := D) (ci := 1) (v := .ref (a 8)) (C := RX2) (T := TX2) (N := 15) hx hb hts hiX2 hown hK hP 1 rfl rfl 10 (by decide) hw5 (fun _ h9 => h9) rfl dX6_wears_114 ?_
            refine lv_iload_n hx hb dX6_wears_117 rfl (lv_at hl 2 rfl) ?_
            obtain ⟨h77, hf⟩ := dq_g hf
            refine va_iald (cA := y 1) (n := 6) (f := g_n_shawls) hx hb hK hP 8 1 rfl rfl h77 dX6_wears_118 ?_
            refine lv_iload hx hb dX6_wears_119 (lv_at hl 0 rfl) ?_
            refine lv_iadd hx hb dX6_wears_121 ?_
            refine lv_bipush (v := 9) hx hb dX6_wears_122 (by decide) ?_
            refine va_mmin hx hb (hml.trans hl.1.symm) hown hw6 hw7 hw8 hw9 (Nat.le_of_ble_eq_true rfl) (Nat.le_of_ble_eq_true rfl) (Nat.zero_le _) (Nat.zero_le _) dX6_wears_124 ?_
            refine lv_topi (fun x78 ex78 => ?_)
            have hf := dq_l hf x78 ex78
            clear ex78
            obtain ⟨h79, hf⟩ := dq_g hf
            refine dq_iast (cA := y 1) (n := 6) (f := g_n_shawls) hx hb hK hP hD hS 8 1 rfl rfl h79 dX6_wears_127 (fun g_n_shawls_80 eg_n_shawls_80 H locs hP hD hS => ?_)
            have hf := dq_l hf g_n_shawls_80 eg_n_shawls_80
            clear eg_n_shawls_80
            have hP : va_P D vwCl ((w_X6_wears y a g_hasImage g_toldCount g_n_shutBits g_n_airs g_n_crownedBits g_n_sitters g_n_onBits g_n_turn g_n_taken g_n_warmth g_n_kind g_n_figure g_n_airCell g_n_way g_n_seat g_n_shawls_80 g_n_count g_n_steps g_n_numbers g_past_next_13 g_past_count_14 g_coats_sorts g_coats_sizes (va_up g_places 2 g_places_75) g_coats_carried g_refused) ++ (w_blob y (fun k => a (34 + (1 + k))) g_k_shutBits_15 g_k_airs_16 g_k_crownedBits_17 g_k_sitters_18 g_k_onBits_19 g_k_turn_20 g_k_taken_21 g_k_warmth_22 g_k_kind_23 g_k_figure_24 g_k_airCell_25 g_k_way_26 g_k_seat_27 g_k_shawls_28 g_k_count_29 g_k_steps_30 g_k_numbers_31)) H := hP
            have hD : va_D A ((w_X6_wears y a g_hasImage g_toldCount g_n_shutBits g_n_airs g_n_crownedBits g_n_sitters g_n_onBits g_n_turn g_n_taken g_n_warmth g_n_kind g_n_figure g_n_airCell g_n_way g_n_seat g_n_shawls_80 g_n_count g_n_steps g_n_numbers g_past_next_13 g_past_count_14 g_coats_sorts g_coats_sizes (va_up g_places 2 g_places_75) g_coats_carried g_refused) ++ (w_blob y (fun k => a (34 + (1 + k))) g_k_shutBits_15 g_k_airs_16 g_k_crownedBits_17 g_k_sitters_18 g_k_onBits_19 g_k_turn_20 g_k_taken_21 g_k_warmth_22 g_k_kind_23 g_k_figure_24 g_k_airCell_25 g_k_way_26 g_k_seat_27 g_k_shawls_28 g_k_count_29 g_k_steps_30 g_k_numbers_31)) := hD
            refine lv_aload_n hx hb dX6_wears_128 rfl (lv_at hl 1 rfl) ?_
            refine va_get (D := D) (ci := 5) (v := .ref (a 1)) (C := RX6) (T := TX6) (N := 12) hx hb hts hiX6 hown hK hP 0 rfl rfl 0 (by decide) hw3 (fun _ h9 => h9) rfl dX6_wears_129 ?_
            refine va_get (D := D) (ci := 1) (v := .ref (a 8)) (C := RX2) (T := TX2) (N := 15) hx hb hts hiX2 hown hK hP 1 rfl rfl 10 (by decide) hw5 (fun _ h9 => h9) rfl dX6_wears_132 ?_
            refine lv_iload_n hx hb dX6_wears_135 rfl (lv_at hl 2 rfl) ?_
            obtain ⟨h81, hf⟩ := dq_g hf
            refine va_iald (cA := y 1) (n := 6) (f := g_n_shawls_80) hx hb hK hP 8 1 rfl rfl h81 dX6_wears_136 ?_
            obtain ⟨rfl, rfl, rfl, rfl, rfl, rfl, rfl, rfl, rfl, rfl, rfl, rfl, rfl, rfl, rfl, rfl, rfl, rfl, rfl, rfl, rfl, rfl, rfl⟩ := dq_r23 hf
            exact ct_iret hx hb hr hlocks hAe hP hK hD hS dX6_wears_137
          refine lv_icmp_ne (tgt := 95) hx hb dX6_wears_82 (by decide) (fun c82 => ?_) (fun c82 => ?_)
          · have hf := dq_f hf c82
            clear c82
            refine lv_iload hx hb dX6_wears_95 (lv_at hl 0 rfl) ?_
            refine lv_bipush (v := 10) hx hb dX6_wears_97 (by decide) ?_
            refine lv_irem hx hb dX6_wears_99 (by decide) ?_
            exact J100 _ hf _ _ hP hD hS _ (lv_sub hl [2, 3] rfl)
          · have hf := dq_t hf c82
            clear c82
            refine lv_iconst (v := 2) hx hb dX6_wears_85 (by decide) ?_
            refine lv_iload hx hb dX6_wears_86 (lv_at hl 0 rfl) ?_
            refine lv_bipush (v := 10) hx hb dX6_wears_88 (by decide) ?_
            refine lv_irem hx hb dX6_wears_90 (by decide) ?_
            refine lv_imul hx hb dX6_wears_91 ?_
            refine lv_goto (tgt := 100) hx hb dX6_wears_92 (by decide) ?_
            exact J100 _ hf _ _ hP hD hS _ (lv_sub hl [2, 3] rfl)
      · have hf := dq_f hf c12
        clear c12
        refine lv_iload hx hb dX6_wears_37 (lv_at hl 0 rfl) ?_
        obtain ⟨rfl, rfl, rfl, rfl, rfl, rfl, rfl, rfl, rfl, rfl, rfl, rfl, rfl, rfl, rfl, rfl, rfl, rfl, rfl, rfl, rfl, rfl, rfl⟩ := dq_r23 hf
        exact ct_iret hx hb hr hlocks hAe hP hK hD hS dX6_wears_39
    · have hf := dq_t hf c9
      clear c9
      refine lv_aload_n hx hb dX6_wears_15 rfl (lv_at hl 0 rfl) ?_
      refine lv_iconst (v := -1) hx hb dX6_wears_16 (by decide) ?_
      obtain ⟨x83, g_refused_84, hy85, hf⟩ := dq_b2 hf
      refine ct_callVL (ci := 5) (q0 := 0) (own := RX6) (As := [.int (-1 : Int32)]) (rest := []) (L' := (w_X6_wears y a g_hasImage g_toldCount g_n_shutBits g_n_airs g_n_crownedBits g_n_sitters g_n_onBits g_n_turn g_n_taken g_n_warmth g_n_kind g_n_figure g_n_airCell g_n_way g_n_seat g_n_shawls g_n_count g_n_steps g_n_numbers g_past_next g_past_count g_coats_sorts g_coats_sizes g_places g_coats_carried g_refused_84)) (B := (w_blob y (fun k => a (34 + (1 + k))) g_k_shutBits g_k_airs g_k_crownedBits g_k_sitters g_k_onBits g_k_turn g_k_taken g_k_warmth g_k_kind g_k_figure g_k_airCell g_k_way g_k_seat g_k_shawls g_k_count g_k_steps g_k_numbers)) ⟨hx, hb, hml, hown, hts⟩ (m_X6_refuse l D y a g_hasImage g_toldCount g_refused (-1 : Int32) x83 g_refused_84 hy85) (cwV 1 hts gX6_wears_X6_refuse rfl rfl rfl (by decide +kernel) ⟨Nat.le_of_ble_eq_true rfl, Nat.le_of_ble_eq_true rfl⟩) rfl rfl rfl hl.1 rfl (Nat.le_of_ble_eq_true rfl) dX6_wears_17 ⟨Nat.zero_le _, Nat.zero_le _⟩ hK hP hD hS hA [0, 21] [1, 2, 3, 4, 5, 6, 7, 8, 9, 10, 11, 12, 13, 14, 15, 16, 17, 18, 19, 20] rfl rfl rfl (by decide) (by decide) 22 rfl rfl (by decide +kernel) (fun H locs hP hD hS => ?_)
      obtain ⟨rfl, rfl, rfl, rfl, rfl, rfl, rfl, rfl, rfl, rfl, rfl, rfl, rfl, rfl, rfl, rfl, rfl, rfl, rfl, rfl, rfl, rfl, rfl⟩ := dq_r23 hf
      exact ct_iret hx hb hr hlocks hAe hP hK hD hS dX6_wears_20
def w_X6_moves (y : Nat → ClassId) (a : Nat → Nat) (g_hasImage : Int32) (g_toldCount : Int32) (g_coats_sorts : (Nat → Int32)) (g_coats_sizes : (Nat → Int32)) (g_places : (Nat → Nat → Int32)) (g_coats_carried : (Nat → Int32)) (g_refused : (Nat → Int32)) : va_W := [((a 0), .inr (5, [.ref (a 1), .ref (a 12), .ref (a 23), .int g_hasImage, .ref (a 34), .ref (a 124), .ref (a 126), .ref (a 134), .int g_toldCount, .ref (a 135), .ref (a 136), .ref (a 137)])), ((a 126), .inr (3, [.ref (a 127), .ref (a 128), .ref (a 129), .ref (a 133)])), ((a 127), .inl (y 1, 3, .inl g_coats_sorts)), ((a 128), .inl (y 1, 3, .inl g_coats_sizes)), ((a 129), .inl (y 4, 3, .inr (.inr (.inr (.inr (fun i => if i < 3 then some (a (126 + (4 + i))) else none)))))), ((a 130), .inl (y 1, 12, .inl (g_places 0))), ((a 131), .inl (y 1, 12, .inl (g_places 1))), ((a 132), .inl (y 1, 12, .inl (g_places 2))), ((a 133), .inl (y 1, 12, .inl g_coats_carried)), ((a 135), .inl (y 1, 7, .inl g_refused))]
noncomputable def f_X6_moves (g_coats_sorts : (Nat → Int32)) (g_coats_sizes : (Nat → Int32)) (g_places : (Nat → Nat → Int32)) (g_coats_carried : (Nat → Int32)) (g_refused : (Nat → Int32)) (n0 : Int32) (n1 : Int32) (n2 : Int32) (n3 : Int32) (n4 : Int32) : Option (Int32 × (Nat → Nat → Int32) × (Nat → Int32) × (Nat → Int32)) := dq_bd (f_X6_isPeg n0) (fun (x1 : Int32) => dq_if (x1 = 0) (dq_bd2 (f_X6_refuse g_refused (-1 : Int32)) (fun (x4 : Int32) (g_refused_5 : (Nat → Int32)) => some (x4, g_places, g_coats_carried, g_refused_5))) (dq_bd (f_X6_isPeg n2) (fun (x7 : Int32) => dq_if (x7 = 0) (dq_bd2 (f_X6_refuse g_refused (-1 : Int32)) (fun (x27 : Int32) (g_refused_28 : (Nat → Int32)) => some (x27, g_places, g_coats_carried, g_refused_28))) (dq_bd (f_X4_holdsRow g_coats_sizes n0) (fun (x10 : Int32) => dq_if (x10 = 0) (some ((-11 : Int32), g_places, g_coats_carried, g_refused)) (dq_bd (f_X4_holdsRow g_coats_sizes n2) (fun (x13 : Int32) => dq_if (x13 = 0) (some ((-11 : Int32), g_places, g_coats_carried, g_refused)) (dq_bd (f_X4_hasPlaces g_coats_sizes n0 n1 n4) (fun (x16 : Int32) => dq_if (x16 = 0) (some ((-13 : Int32), g_places, g_coats_carried, g_refused)) (dq_bd (f_X4_hasPlaces g_coats_sizes n2 n3 n4) (fun (x19 : Int32) => dq_if (x19 = 0) (some ((-13 : Int32), g_places, g_coats_carried, g_refused)) (dq_bd3 (f_X4_carry g_coats_sorts g_places g_coats_carried n0 n1 n2 n3 n4) (fun (x22 : Int32) (g_places_23 : (Nat → Nat → Int32)) (g_coats_carried_24 : (Nat → Int32)) => dq_if (x22 = 0) (some ((-12 : Int32), g_places_23, g_coats_carried_24, g_refused)) (some (n4, g_places_23, g_coats_carried_24, g_refused)))))))))))))))
-- DraughtsTake.moves(IIIII)I
set_option maxHeartbeats 4000000 in
set_option maxRecDepth 100000 in
theorem m_X6_moves (l : Launch) (D : va_G) (y : Nat → ClassId) (a : (Nat → Nat)) (g_hasImage : Int32) (g_toldCount : Int32) (g_coats_sorts : (Nat → Int32)) (g_coats_sizes : (Nat → Int32)) (g_places : (Nat → Nat → Int32)) (g_coats_carried : (Nat → Int32)) (g_refused : (Nat → Int32)) (n0 : Int32) (n1 : Int32) (n2 : Int32) (n3 : Int32) (n4 : Int32) (z0 : Int32) (z1 : (Nat → Nat → Int32)) (z2 : (Nat → Int32)) (z3 : (Nat → Int32)) (hf : f_X6_moves g_coats_sorts g_coats_sizes g_places g_coats_carried g_refused n0 n1 n2 n3 n4 = some (z0, z1, z2, z3)) : Ct l D y yX6_moves wsX6_moves 2 49 [.ref (a 0), .int n0, .int n1, .int n2, .int n3, .int n4] (w_X6_moves y a g_hasImage g_toldCount g_coats_sorts g_coats_sizes g_places g_coats_carried g_refused) (w_X6_moves y a g_hasImage g_toldCount g_coats_sorts g_coats_sizes z1 z2 z3) (some (.int z0)) := by
  refine ct_head (cc := cX6_moves) (n := 6) (ret := (some .int)) (by decide) rfl (Nat.le_of_ble_eq_true rfl) ?_
  intro p e s m below meth c A ls hx hb hr hml hown hlocks hts hA hAe hP hK hD hl
  have hS : va_S A s.heap s.heap [] := va_S.rf
  have hl : lv_has ls 6 [(0, .ref (a 0)), (1, .int n0), (2, .int n1), (3, .int n2), (4, .int n3), (5, .int n4)] := hl
  have hown : s.vm.findClass RX6 = some m.cls := hown
  have hw1 := hts (.fieldLink RX6 39 "DraughtsTake" "coats" "LDraughtsTake$Pegs;") (List.mem_of_getElem? (i := 1) rfl)
  have hiX6 : ∀ w ∈ wsX60, w ∈ wsX6_moves := fun w h => List.mem_cons_of_mem _ (List.mem_append_left _ (List.mem_append_right _ (h)))
  unfold f_X6_moves at hf
  refine lv_iload_n hx hb dX6_moves_0 rfl (lv_at hl 1 rfl) ?_
  obtain ⟨x1, hy2, hf⟩ := dq_b hf
  refine ct_callS0 (own := RX6) (As := [.int n0]) (rest := []) ⟨hx, hb, hml, hown, hts⟩ (m_X6_isPeg l D y n0 x1 hy2) (va_cwS 1 hts gX6_moves_X6_isPeg rfl rfl rfl (by decide +kernel) ⟨Nat.le_of_ble_eq_true rfl, Nat.le_of_ble_eq_true rfl⟩) rfl hl.1 rfl (Nat.le_of_ble_eq_true rfl) dX6_moves_1 ⟨Nat.zero_le _, Nat.zero_le _⟩ hK hP hD hS hA (fun H locs hP hD hS => ?_)
  refine lv_if_eq (tgt := 14) hx hb dX6_moves_4 (by decide) (fun c3 => ?_) (fun c3 => ?_)
  · have hf := dq_t hf c3
    clear c3
    refine lv_aload_n hx hb dX6_moves_14 rfl (lv_at hl 0 rfl) ?_
    refine lv_iconst (v := -1) hx hb dX6_moves_15 (by decide) ?_
    obtain ⟨x4, g_refused_5, hy6, hf⟩ := dq_b2 hf
    refine ct_callV (ci := 5) (q0 := 0) (own := RX6) (As := [.int (-1 : Int32)]) (rest := []) (ws' := (w_X6_moves y a g_hasImage g_toldCount g_coats_sorts g_coats_sizes g_places g_coats_carried g_refused_5)) ⟨hx, hb, hml, hown, hts⟩ (m_X6_refuse l D y a g_hasImage g_toldCount g_refused (-1 : Int32) x4 g_refused_5 hy6) (cwV 1 hts gX6_moves_X6_refuse rfl rfl rfl (by decide +kernel) ⟨Nat.le_of_ble_eq_true rfl, Nat.le_of_ble_eq_true rfl⟩) rfl rfl rfl hl.1 rfl (Nat.le_of_ble_eq_true rfl) dX6_moves_16 ⟨Nat.zero_le _, Nat.zero_le _⟩ hK hP hD hS hA [0, 9] [1, 2, 3, 4, 5, 6, 7, 8] rfl rfl rfl (by decide) (by decide) 10 rfl (by decide +kernel) (fun H locs hP hD hS => ?_)
    obtain ⟨rfl, rfl, rfl, rfl⟩ := dq_r4 hf
    exact ct_iret hx hb hr hlocks hAe hP hK hD hS dX6_moves_19
  · have hf := dq_f hf c3
    clear c3
    refine lv_iload_n hx hb dX6_moves_7 rfl (lv_at hl 3 rfl) ?_
    obtain ⟨x7, hy8, hf⟩ := dq_b hf
    refine ct_callS0 (own := RX6) (As := [.int n2]) (rest := []) ⟨hx, hb, hml, hown, hts⟩ (m_X6_isPeg l D y n2 x7 hy8) (va_cwS 1 hts gX6_moves_X6_isPeg rfl rfl rfl (by decide +kernel) ⟨Nat.le_of_ble_eq_true rfl, Nat.le_of_ble_eq_true rfl⟩) rfl hl.1 rfl (Nat.le_of_ble_eq_true rfl) dX6_moves_8 ⟨Nat.zero_le _, Nat.zero_le _⟩ hK hP hD hS hA (fun H locs hP hD hS => ?_)
    refine lv_if_ne (tgt := 20) hx hb dX6_moves_11 (by decide) (fun c9 => ?_) (fun c9 => ?_)
    · have hf := dq_f hf c9
      clear c9
      refine lv_aload_n hx hb dX6_moves_20 rfl (lv_at hl 0 rfl) ?_
      refine va_get (D := D) (ci := 5) (v := .ref (a 126)) (C := RX6) (T := TX6) (N := 12) hx hb hts hiX6 hown hK hP 0 rfl rfl 6 (by decide) hw1 (fun _ h9 => h9) rfl dX6_moves_21 ?_
      refine lv_iload_n hx hb dX6_moves_24 rfl (lv_at hl 1 rfl) ?_
      obtain ⟨x10, hy11, hf⟩ := dq_b hf
      refine ct_callV (ci := 3) (q0 := 0) (own := RX6) (As := [.int n0]) (rest := []) (ws' := (w_X6_moves y a g_hasImage g_toldCount g_coats_sorts g_coats_sizes g_places g_coats_carried g_refused)) ⟨hx, hb, hml, hown, hts⟩ (m_X4_holdsRow l D y (fun k => a (126 + k)) g_coats_sorts g_coats_sizes g_places g_coats_carried n0 x10 hy11) (cwV 1 hts gX6_moves_X4_holdsRow rfl rfl rfl (by decide +kernel) ⟨Nat.le_of_ble_eq_true rfl, Nat.le_of_ble_eq_true rfl⟩) rfl rfl rfl hl.1 rfl (Nat.le_of_ble_eq_true rfl) dX6_moves_25 ⟨Nat.zero_le _, Nat.zero_le _⟩ hK hP hD hS hA [1, 2, 3, 4, 5, 6, 7, 8] [0, 9] rfl rfl rfl (by decide) (by decide) 10 rfl (by decide +kernel) (fun H locs hP hD hS => ?_)
      refine lv_if_eq (tgt := 42) hx hb dX6_moves_28 (by decide) (fun c12 => ?_) (fun c12 => ?_)
      · have hf := dq_t hf c12
        clear c12
        refine lv_bipush (v := -11) hx hb dX6_moves_42 (by decide) ?_
        obtain ⟨rfl, rfl, rfl, rfl⟩ := dq_r4 hf
        exact ct_iret hx hb hr hlocks hAe hP hK hD hS dX6_moves_44
      · have hf := dq_f hf c12
        clear c12
        refine lv_aload_n hx hb dX6_moves_31 rfl (lv_at hl 0 rfl) ?_
        refine va_get (D := D) (ci := 5) (v := .ref (a 126)) (C := RX6) (T := TX6) (N := 12) hx hb hts hiX6 hown hK hP 0 rfl rfl 6 (by decide) hw1 (fun _ h9 => h9) rfl dX6_moves_32 ?_
        refine lv_iload_n hx hb dX6_moves_35 rfl (lv_at hl 3 rfl) ?_
        obtain ⟨x13, hy14, hf⟩ := dq_b hf
        refine ct_callV (ci := 3) (q0 := 0) (own := RX6) (As := [.int n2]) (rest := []) (ws' := (w_X6_moves y a g_hasImage g_toldCount g_coats_sorts g_coats_sizes g_places g_coats_carried g_refused)) ⟨hx, hb, hml, hown, hts⟩ (m_X4_holdsRow l D y (fun k => a (126 + k)) g_coats_sorts g_coats_sizes g_places g_coats_carried n2 x13 hy14) (cwV 1 hts gX6_moves_X4_holdsRow rfl rfl rfl (by decide +kernel) ⟨Nat.le_of_ble_eq_true rfl, Nat.le_of_ble_eq_true rfl⟩) rfl rfl rfl hl.1 rfl (Nat.le_of_ble_eq_true rfl) dX6_moves_36 ⟨Nat.zero_le _, Nat.zero_le _⟩ hK hP hD hS hA [1, 2, 3, 4, 5, 6, 7, 8] [0, 9] rfl rfl rfl (by decide) (by decide) 10 rfl (by decide +kernel) (fun H locs hP hD hS => ?_)
        refine lv_if_ne (tgt := 45) hx hb dX6_moves_39 (by decide) (fun c15 => ?_) (fun c15 => ?_)
        · have hf := dq_f hf c15
          clear c15
          refine lv_aload_n hx hb dX6_moves_45 rfl (lv_at hl 0 rfl) ?_
          refine va_get (D := D) (ci := 5) (v := .ref (a 126)) (C := RX6) (T := TX6) (N := 12) hx hb hts hiX6 hown hK hP 0 rfl rfl 6 (by decide) hw1 (fun _ h9 => h9) rfl dX6_moves_46 ?_
          refine lv_iload_n hx hb dX6_moves_49 rfl (lv_at hl 1 rfl) ?_
          refine lv_iload_n hx hb dX6_moves_50 rfl (lv_at hl 2 rfl) ?_
          refine lv_iload hx hb dX6_moves_51 (lv_at hl 5 rfl) ?_
          obtain ⟨x16, hy17, hf⟩ := dq_b hf
          refine ct_callV (ci := 3) (q0 := 0) (own := RX6) (As := [.int n0, .int n1, .int n4]) (rest := []) (ws' := (w_X6_moves y a g_hasImage g_toldCount g_coats_sorts g_coats_sizes g_places g_coats_carried g_refused)) ⟨hx, hb, hml, hown, hts⟩ (m_X4_hasPlaces l D y (fun k => a (126 + k)) g_coats_sorts g_coats_sizes g_places g_coats_carried n0 n1 n4 x16 hy17) (cwV 3 hts gX6_moves_X4_hasPlaces rfl rfl rfl (by decide +kernel) ⟨Nat.le_of_ble_eq_true rfl, Nat.le_of_ble_eq_true rfl⟩) rfl rfl rfl hl.1 rfl (Nat.le_of_ble_eq_true rfl) dX6_moves_53 ⟨Nat.zero_le _, Nat.zero_le _⟩ hK hP hD hS hA [1, 2, 3, 4, 5, 6, 7, 8] [0, 9] rfl rfl rfl (by decide) (by decide) 10 rfl (by decide +kernel) (fun H locs hP hD hS => ?_)
          refine lv_if_eq (tgt := 74) hx hb dX6_moves_56 (by decide) (fun c18 => ?_) (fun c18 => ?_)
          · have hf := dq_t hf c18
            clear c18
            refine lv_bipush (v := -13) hx hb dX6_moves_74 (by decide) ?_
            obtain ⟨rfl, rfl, rfl, rfl⟩ := dq_r4 hf
            exact ct_iret hx hb hr hlocks hAe hP hK hD hS dX6_moves_76
          · have hf := dq_f hf c18
            clear c18
            refine lv_aload_n hx hb dX6_moves_59 rfl (lv_at hl 0 rfl) ?_
            refine va_get (D := D) (ci := 5) (v := .ref (a 126)) (C := RX6) (T := TX6) (N := 12) hx hb hts hiX6 hown hK hP 0 rfl rfl 6 (by decide) hw1 (fun _ h9 => h9) rfl dX6_moves_60 ?_
            refine lv_iload_n hx hb dX6_moves_63 rfl (lv_at hl 3 rfl) ?_
            refine lv_iload hx hb dX6_moves_64 (lv_at hl 4 rfl) ?_
            refine lv_iload hx hb dX6_moves_66 (lv_at hl 5 rfl) ?_
            obtain ⟨x19, hy20, hf⟩ := dq_b hf
            refine ct_callV (ci := 3) (q0 := 0) (own := RX6) (As := [.int n2, .int n3, .int n4]) (rest := []) (ws' := (w_X6_moves y a g_hasImage g_toldCount g_coats_sorts g_coats_sizes g_places g_coats_carried g_refused)) ⟨hx, hb, hml, hown, hts⟩ (m_X4_hasPlaces l D y (fun k => a (126 + k)) g_coats_sorts g_coats_sizes g_places g_coats_carried n2 n3 n4 x19 hy20) (cwV 3 hts gX6_moves_X4_hasPlaces rfl rfl rfl (by decide +kernel) ⟨Nat.le_of_ble_eq_true rfl, Nat.le_of_ble_eq_true rfl⟩) rfl rfl rfl hl.1 rfl (Nat.le_of_ble_eq_true rfl) dX6_moves_68 ⟨Nat.zero_le _, Nat.zero_le _⟩ hK hP hD hS hA [1, 2, 3, 4, 5, 6, 7, 8] [0, 9] rfl rfl rfl (by decide) (by decide) 10 rfl (by decide +kernel) (fun H locs hP hD hS => ?_)
            refine lv_if_ne (tgt := 77) hx hb dX6_moves_71 (by decide) (fun c21 => ?_) (fun c21 => ?_)
            · have hf := dq_f hf c21
              clear c21
              refine lv_aload_n hx hb dX6_moves_77 rfl (lv_at hl 0 rfl) ?_
              refine va_get (D := D) (ci := 5) (v := .ref (a 126)) (C := RX6) (T := TX6) (N := 12) hx hb hts hiX6 hown hK hP 0 rfl rfl 6 (by decide) hw1 (fun _ h9 => h9) rfl dX6_moves_78 ?_
              refine lv_iload_n hx hb dX6_moves_81 rfl (lv_at hl 1 rfl) ?_
              refine lv_iload_n hx hb dX6_moves_82 rfl (lv_at hl 2 rfl) ?_
              refine lv_iload_n hx hb dX6_moves_83 rfl (lv_at hl 3 rfl) ?_
              refine lv_iload hx hb dX6_moves_84 (lv_at hl 4 rfl) ?_
              refine lv_iload hx hb dX6_moves_86 (lv_at hl 5 rfl) ?_
              obtain ⟨x22, g_places_23, g_coats_carried_24, hy25, hf⟩ := dq_b3 hf
              refine ct_callV (ci := 3) (q0 := 0) (own := RX6) (As := [.int n0, .int n1, .int n2, .int n3, .int n4]) (rest := []) (ws' := (w_X6_moves y a g_hasImage g_toldCount g_coats_sorts g_coats_sizes g_places_23 g_coats_carried_24 g_refused)) ⟨hx, hb, hml, hown, hts⟩ (m_X4_carry l D y (fun k => a (126 + k)) g_coats_sorts g_coats_sizes g_places g_coats_carried n0 n1 n2 n3 n4 x22 g_places_23 g_coats_carried_24 hy25) (cwV 5 hts gX6_moves_X4_carry rfl rfl rfl (by decide +kernel) ⟨Nat.le_of_ble_eq_true rfl, Nat.le_of_ble_eq_true rfl⟩) rfl rfl rfl hl.1 rfl (Nat.le_of_ble_eq_true rfl) dX6_moves_88 ⟨Nat.zero_le _, Nat.zero_le _⟩ hK hP hD hS hA [1, 2, 3, 4, 5, 6, 7, 8] [0, 9] rfl rfl rfl (by decide) (by decide) 10 rfl (by decide +kernel) (fun H locs hP hD hS => ?_)
              refine lv_if_eq (tgt := 99) hx hb dX6_moves_91 (by decide) (fun c26 => ?_) (fun c26 => ?_)
              · have hf := dq_t hf c26
                clear c26
                refine lv_bipush (v := -12) hx hb dX6_moves_99 (by decide) ?_
                obtain ⟨rfl, rfl, rfl, rfl⟩ := dq_r4 hf
                exact ct_iret hx hb hr hlocks hAe hP hK hD hS dX6_moves_101
              · have hf := dq_f hf c26
                clear c26
                refine lv_iload hx hb dX6_moves_94 (lv_at hl 5 rfl) ?_
                refine lv_goto (tgt := 101) hx hb dX6_moves_96 (by decide) ?_
                obtain ⟨rfl, rfl, rfl, rfl⟩ := dq_r4 hf
                exact ct_iret hx hb hr hlocks hAe hP hK hD hS dX6_moves_101
            · have hf := dq_t hf c21
              clear c21
              refine lv_bipush (v := -13) hx hb dX6_moves_74 (by decide) ?_
              obtain ⟨rfl, rfl, rfl, rfl⟩ := dq_r4 hf
              exact ct_iret hx hb hr hlocks hAe hP hK hD hS dX6_moves_76
        · have hf := dq_t hf c15
          clear c15
          refine lv_bipush (v := -11) hx hb dX6_moves_42 (by decide) ?_
          obtain ⟨rfl, rfl, rfl, rfl⟩ := dq_r4 hf
          exact ct_iret hx hb hr hlocks hAe hP hK hD hS dX6_moves_44
    · have hf := dq_t hf c9
      clear c9
      refine lv_aload_n hx hb dX6_moves_14 rfl (lv_at hl 0 rfl) ?_
      refine lv_iconst (v := -1) hx hb dX6_moves_15 (by decide) ?_
      obtain ⟨x27, g_refused_28, hy29, hf⟩ := dq_b2 hf
      refine ct_callV (ci := 5) (q0 := 0) (own := RX6) (As := [.int (-1 : Int32)]) (rest := []) (ws' := (w_X6_moves y a g_hasImage g_toldCount g_coats_sorts g_coats_sizes g_places g_coats_carried g_refused_28)) ⟨hx, hb, hml, hown, hts⟩ (m_X6_refuse l D y a g_hasImage g_toldCount g_refused (-1 : Int32) x27 g_refused_28 hy29) (cwV 1 hts gX6_moves_X6_refuse rfl rfl rfl (by decide +kernel) ⟨Nat.le_of_ble_eq_true rfl, Nat.le_of_ble_eq_true rfl⟩) rfl rfl rfl hl.1 rfl (Nat.le_of_ble_eq_true rfl) dX6_moves_16 ⟨Nat.zero_le _, Nat.zero_le _⟩ hK hP hD hS hA [0, 9] [1, 2, 3, 4, 5, 6, 7, 8] rfl rfl rfl (by decide) (by decide) 10 rfl (by decide +kernel) (fun H locs hP hD hS => ?_)
      obtain ⟨rfl, rfl, rfl, rfl⟩ := dq_r4 hf
      exact ct_iret hx hb hr hlocks hAe hP hK hD hS dX6_moves_19
def w_X6_row (y : Nat → ClassId) (a : Nat → Nat) (g_hasImage : Int32) (g_toldCount : Int32) (g_told : (Nat → Int32)) (g_refused : (Nat → Int32)) : va_W := [((a 0), .inr (5, [.ref (a 1), .ref (a 12), .ref (a 23), .int g_hasImage, .ref (a 34), .ref (a 124), .ref (a 126), .ref (a 134), .int g_toldCount, .ref (a 135), .ref (a 136), .ref (a 137)])), ((a 134), .inl (y 1, 12, .inl g_told)), ((a 135), .inl (y 1, 7, .inl g_refused))]
noncomputable def f_X6_row (g_toldCount : Int32) (g_told : (Nat → Int32)) (g_refused : (Nat → Int32)) (n0 : Int32) : Option (Int32 × Int32 × (Nat → Int32) × (Nat → Int32)) := dq_if (0 ≤ n0) (dq_if ((99 : Int32) < n0) (dq_bd2 (f_X6_refuse g_refused (-6 : Int32)) (fun (x3 : Int32) (g_refused_4 : (Nat → Int32)) => some (x3, g_toldCount, g_told, g_refused_4))) (dq_if (g_toldCount < (12 : Int32)) (dq_gd (vp_in g_toldCount 12) (dq_let (upd g_told g_toldCount.toNatClampNeg n0) (fun (g_told_8 : (Nat → Int32)) => dq_let (g_toldCount + (1 : Int32)) (fun (x9 : Int32) => some (x9, x9, g_told_8, g_refused))))) (dq_bd2 (f_X6_refuse g_refused (-6 : Int32)) (fun (x10 : Int32) (g_refused_11 : (Nat → Int32)) => some (x10, g_toldCount, g_told, g_refused_11))))) (dq_bd2 (f_X6_refuse g_refused (-4 : Int32)) (fun (x13 : Int32) (g_refused_14 : (Nat → Int32)) => some (x13, g_toldCount, g_told, g_refused_14)))
-- DraughtsTake.row(I)I
set_option maxHeartbeats 4000000 in
set_option maxRecDepth 100000 in
theorem m_X6_row (l : Launch) (D : va_G) (y : Nat → ClassId) (a : (Nat → Nat)) (g_hasImage : Int32) (g_toldCount : Int32) (g_told : (Nat → Int32)) (g_refused : (Nat → Int32)) (n0 : Int32) (z0 : Int32) (z1 : Int32) (z2 : (Nat → Int32)) (z3 : (Nat → Int32)) (hf : f_X6_row g_toldCount g_told g_refused n0 = some (z0, z1, z2, z3)) : Ct l D y yX6_row wsX6_row 1 21 [.ref (a 0), .int n0] (w_X6_row y a g_hasImage g_toldCount g_told g_refused) (w_X6_row y a g_hasImage z1 z2 z3) (some (.int z0)) := by
  refine ct_head (cc := cX6_row) (n := 2) (ret := (some .int)) (by decide) rfl (Nat.le_of_ble_eq_true rfl) ?_
  intro p e s m below meth c A ls hx hb hr hml hown hlocks hts hA hAe hP hK hD hl
  have hS : va_S A s.heap s.heap [] := va_S.rf
  have hl : lv_has ls 2 [(0, .ref (a 0)), (1, .int n0)] := hl
  have hown : s.vm.findClass RX6 = some m.cls := hown
  have hw1 := hts (.fieldLink RX6 295 "DraughtsTake" "toldCount" "I") (List.mem_of_getElem? (i := 1) rfl)
  have hw2 := hts (.fieldLink RX6 43 "DraughtsTake" "told" "[I") (List.mem_of_getElem? (i := 2) rfl)
  have hiX6 : ∀ w ∈ wsX60, w ∈ wsX6_row := fun w h => List.mem_cons_of_mem _ (List.mem_append_right _ (h))
  unfold f_X6_row at hf
  refine lv_iload_n hx hb dX6_row_0 rfl (lv_at hl 1 rfl) ?_
  refine lv_if_ge (tgt := 11) hx hb dX6_row_1 (by decide) (fun c1 => ?_) (fun c1 => ?_)
  · have hf := dq_t hf c1
    clear c1
    refine lv_iload_n hx hb dX6_row_11 rfl (lv_at hl 1 rfl) ?_
    refine lv_bipush (v := 99) hx hb dX6_row_12 (by decide) ?_
    refine lv_icmp_gt (tgt := 26) hx hb dX6_row_14 (by decide) (fun c2 => ?_) (fun c2 => ?_)
    · have hf := dq_t hf c2
      clear c2
      refine lv_aload_n hx hb dX6_row_26 rfl (lv_at hl 0 rfl) ?_
      refine lv_bipush (v := -6) hx hb dX6_row_27 (by decide) ?_
      obtain ⟨x3, g_refused_4, hy5, hf⟩ := dq_b2 hf
      refine ct_callV (ci := 5) (q0 := 0) (own := RX6) (As := [.int (-6 : Int32)]) (rest := []) (ws' := (w_X6_row y a g_hasImage g_toldCount g_told g_refused_4)) ⟨hx, hb, hml, hown, hts⟩ (m_X6_refuse l D y a g_hasImage g_toldCount g_refused (-6 : Int32) x3 g_refused_4 hy5) (cwV 1 hts gX6_row_X6_refuse rfl rfl rfl (by decide +kernel) ⟨Nat.le_of_ble_eq_true rfl, Nat.le_of_ble_eq_true rfl⟩) rfl rfl rfl hl.1 rfl (Nat.le_of_ble_eq_true rfl) dX6_row_29 ⟨Nat.zero_le _, Nat.zero_le _⟩ hK hP hD hS hA [0, 2] [1] rfl rfl rfl (by decide) (by decide) 3 rfl (by decide +kernel) (fun H locs hP hD hS => ?_)
      obtain ⟨rfl, rfl, rfl, rfl⟩ := dq_r4 hf
      exact ct_iret hx hb hr hlocks hAe hP hK hD hS dX6_row_32
    · have hf := dq_f hf c2
      clear c2
      refine lv_aload_n hx hb dX6_row_17 rfl (lv_at hl 0 rfl) ?_
      refine va_get (D := D) (ci := 5) (v := .int g_toldCount) (C := RX6) (T := TX6) (N := 12) hx hb hts hiX6 hown hK hP 0 rfl rfl 8 (by decide) hw1 (fun _ h9 => h9) rfl dX6_row_18 ?_
      refine lv_bipush (v := 12) hx hb dX6_row_21 (by decide) ?_
      refine lv_icmp_lt (tgt := 33) hx hb dX6_row_23 (by decide) (fun c6 => ?_) (fun c6 => ?_)
      · have hf := dq_t hf c6
        clear c6
        refine lv_aload_n hx hb dX6_row_33 rfl (lv_at hl 0 rfl) ?_
        refine va_get (D := D) (ci := 5) (v := .ref (a 134)) (C := RX6) (T := TX6) (N := 12) hx hb hts hiX6 hown hK hP 0 rfl rfl 7 (by decide) hw2 (fun _ h9 => h9) rfl dX6_row_34 ?_
        refine lv_aload_n hx hb dX6_row_37 rfl (lv_at hl 0 rfl) ?_
        refine va_get (D := D) (ci := 5) (v := .int g_toldCount) (C := RX6) (T := TX6) (N := 12) hx hb hts hiX6 hown hK hP 0 rfl rfl 8 (by decide) hw1 (fun _ h9 => h9) rfl dX6_row_38 ?_
        refine lv_iload_n hx hb dX6_row_41 rfl (lv_at hl 1 rfl) ?_
        obtain ⟨h7, hf⟩ := dq_g hf
        refine dq_iast (cA := y 1) (n := 12) (f := g_told) hx hb hK hP hD hS 1 1 rfl rfl h7 dX6_row_42 (fun g_told_8 eg_told_8 H locs hP hD hS => ?_)
        have hf := dq_l hf g_told_8 eg_told_8
        clear eg_told_8
        have hP : va_P D vwCl (w_X6_row y a g_hasImage g_toldCount g_told_8 g_refused) H := hP
        have hD : va_D A (w_X6_row y a g_hasImage g_toldCount g_told_8 g_refused) := hD
        refine lv_aload_n hx hb dX6_row_43 rfl (lv_at hl 0 rfl) ?_
        refine lv_dup hx hb dX6_row_44 rfl ?_
        refine va_get (D := D) (ci := 5) (v := .int g_toldCount) (C := RX6) (T := TX6) (N := 12) hx hb hts hiX6 hown hK hP 0 rfl rfl 8 (by decide) hw1 (fun _ h9 => h9) rfl dX6_row_45 ?_
        refine lv_iconst (v := 1) hx hb dX6_row_48 (by decide) ?_
        refine lv_iadd hx hb dX6_row_49 ?_
        refine lv_topi (fun x9 ex9 => ?_)
        have hf := dq_l hf x9 ex9
        clear ex9
        refine va_put (D := D) (ci := 5) (v := .int x9) (ty := .int) (C := RX6) (T := TX6) (N := 12) hx hb hts hiX6 tyX6 tyX6_ok nmX6 hown hK hP hD hS 0 rfl rfl 8 (by decide) hw1 (fun _ h9 => h9) rfl (tyX6_ok 8 (by decide)) rfl rfl (Nat.le_of_ble_eq_true rfl) dX6_row_50 (fun H locs hP hD hS => ?_)
        have hP : va_P D vwCl (w_X6_row y a g_hasImage x9 g_told_8 g_refused) H := hP
        have hD : va_D A (w_X6_row y a g_hasImage x9 g_told_8 g_refused) := hD
        refine lv_aload_n hx hb dX6_row_53 rfl (lv_at hl 0 rfl) ?_
        refine va_get (D := D) (ci := 5) (v := .int x9) (C := RX6) (T := TX6) (N := 12) hx hb hts hiX6 hown hK hP 0 rfl rfl 8 (by decide) hw1 (fun _ h9 => h9) rfl dX6_row_54 ?_
        obtain ⟨rfl, rfl, rfl, rfl⟩ := dq_r4 hf
        exact ct_iret hx hb hr hlocks hAe hP hK hD hS dX6_row_57
      · have hf := dq_f hf c6
        clear c6
        refine lv_aload_n hx hb dX6_row_26 rfl (lv_at hl 0 rfl) ?_
        refine lv_bipush (v := -6) hx hb dX6_row_27 (by decide) ?_
        obtain ⟨x10, g_refused_11, hy12, hf⟩ := dq_b2 hf
        refine ct_callV (ci := 5) (q0 := 0) (own := RX6) (As := [.int (-6 : Int32)]) (rest := []) (ws' := (w_X6_row y a g_hasImage g_toldCount g_told g_refused_11)) ⟨hx, hb, hml, hown, hts⟩ (m_X6_refuse l D y a g_hasImage g_toldCount g_refused (-6 : Int32) x10 g_refused_11 hy12) (cwV 1 hts gX6_row_X6_refuse rfl rfl rfl (by decide +kernel) ⟨Nat.le_of_ble_eq_true rfl, Nat.le_of_ble_eq_true rfl⟩) rfl rfl rfl hl.1 rfl (Nat.le_of_ble_eq_true rfl) dX6_row_29 ⟨Nat.zero_le _, Nat.zero_le _⟩ hK hP hD hS hA [0, 2] [1] rfl rfl rfl (by decide) (by decide) 3 rfl (by decide +kernel) (fun H locs hP hD hS => ?_)
        obtain ⟨rfl, rfl, rfl, rfl⟩ := dq_r4 hf
        exact ct_iret hx hb hr hlocks hAe hP hK hD hS dX6_row_32
  · have hf := dq_f hf c1
    clear c1
    refine lv_aload_n hx hb dX6_row_4 rfl (lv_at hl 0 rfl) ?_
    refine lv_bipush (v := -4) hx hb dX6_row_5 (by decide) ?_
    obtain ⟨x13, g_refused_14, hy15, hf⟩ := dq_b2 hf
    refine ct_callV (ci := 5) (q0 := 0) (own := RX6) (As := [.int (-4 : Int32)]) (rest := []) (ws' := (w_X6_row y a g_hasImage g_toldCount g_told g_refused_14)) ⟨hx, hb, hml, hown, hts⟩ (m_X6_refuse l D y a g_hasImage g_toldCount g_refused (-4 : Int32) x13 g_refused_14 hy15) (cwV 1 hts gX6_row_X6_refuse rfl rfl rfl (by decide +kernel) ⟨Nat.le_of_ble_eq_true rfl, Nat.le_of_ble_eq_true rfl⟩) rfl rfl rfl hl.1 rfl (Nat.le_of_ble_eq_true rfl) dX6_row_7 ⟨Nat.zero_le _, Nat.zero_le _⟩ hK hP hD hS hA [0, 2] [1] rfl rfl rfl (by decide) (by decide) 3 rfl (by decide +kernel) (fun H locs hP hD hS => ?_)
    obtain ⟨rfl, rfl, rfl, rfl⟩ := dq_r4 hf
    exact ct_iret hx hb hr hlocks hAe hP hK hD hS dX6_row_10
def w_X6_judge (y : Nat → ClassId) (a : Nat → Nat) (g_hasImage : Int32) (g_toldCount : Int32) (g_n_shutBits : Int64) (g_n_airs : Int32) (g_n_crownedBits : Int32) (g_n_sitters : Int32) (g_n_onBits : Int32) (g_n_turn : Int32) (g_n_taken : Int32) (g_n_warmth : (Nat → UInt32)) (g_n_kind : (Nat → Int32)) (g_n_figure : (Nat → Int32)) (g_n_airCell : (Nat → Int32)) (g_n_way : (Nat → Int32)) (g_n_seat : (Nat → Int32)) (g_n_shawls : (Nat → Int32)) (g_n_count : Int32) (g_n_steps : (Nat → Int32)) (g_n_numbers : (Nat → Int32)) (g_told : (Nat → Int32)) : va_W := [((a 0), .inr (5, [.ref (a 1), .ref (a 12), .ref (a 23), .int g_hasImage, .ref (a 34), .ref (a 124), .ref (a 126), .ref (a 134), .int g_toldCount, .ref (a 135), .ref (a 136), .ref (a 137)])), ((a 1), .inr (1, [.ref (a 2), .long g_n_shutBits, .int g_n_airs, .ref (a 3), .ref (a 4), .ref (a 5), .ref (a 6), .int g_n_crownedBits, .int g_n_sitters, .ref (a 7), .ref (a 8), .int g_n_onBits, .int g_n_turn, .int g_n_taken, .ref (a 9)])), ((a 2), .inl (y 0, 36, .inr (.inr (.inl g_n_warmth)))), ((a 3), .inl (y 1, 5, .inl g_n_kind)), ((a 4), .inl (y 1, 5, .inl g_n_figure)), ((a 5), .inl (y 1, 5, .inl g_n_airCell)), ((a 6), .inl (y 1, 5, .inl g_n_way)), ((a 7), .inl (y 1, 6, .inl g_n_seat)), ((a 8), .inl (y 1, 6, .inl g_n_shawls)), ((a 9), .inr (0, [.ref (a 10), .ref (a 11), .int g_n_count])), ((a 10), .inl (y 1, 6, .inl g_n_steps)), ((a 11), .inl (y 1, 6, .inl g_n_numbers)), ((a 134), .inl (y 1, 12, .inl g_told))]
noncomputable def f_X6_judge_b61 (x1 : Int32) (x2 : Int32) (k5 : (Int32 → Int32 → Option (Int32 × Int32))) (x10 : Int32) (x11 : Int32) : Option (Int32 × Int32) := dq_if (x10 = x11) (dq_let (x2 + (1 : Int32)) (fun (x13 : Int32) => k5 x1 x13)) (dq_let (x2 + (1 : Int32)) (fun (x14 : Int32) => k5 x2 x14))
noncomputable def f_X6_judge_b5 (g_toldCount : Int32) (g_n_sitters : Int32) (g_n_onBits : Int32) (g_n_seat : (Nat → Int32)) (g_told : (Nat → Int32))  : Nat → Int32 → Int32 → Option (Int32 × Int32)
  | 0, _, _ => none
  | m5 + 1, x1, x2 => dq_if (g_toldCount ≤ x2) (some (x1, (0 : Int32))) (dq_if (x1 = (-9 : Int32)) (dq_if (g_n_sitters ≤ x2) (dq_let (x2 + (1 : Int32)) (fun (x6 : Int32) => (f_X6_judge_b5 g_toldCount g_n_sitters g_n_onBits g_n_seat g_told m5) x2 x6)) (dq_gd (vp_in x2 12) (dq_bd (f_X2_isOn g_n_onBits x2) (fun (x8 : Int32) => dq_if (x8 = 0) (f_X6_judge_b61 x1 x2 (f_X6_judge_b5 g_toldCount g_n_sitters g_n_onBits g_n_seat g_told m5) (g_told x2.toNatClampNeg) (36 : Int32)) (dq_gd (vp_in x2 6) (f_X6_judge_b61 x1 x2 (f_X6_judge_b5 g_toldCount g_n_sitters g_n_onBits g_n_seat g_told m5) (g_told x2.toNatClampNeg) (g_n_seat x2.toNatClampNeg))))))) (some (x1, (0 : Int32))))
noncomputable def f_X6_judge (g_toldCount : Int32) (g_n_sitters : Int32) (g_n_onBits : Int32) (g_n_seat : (Nat → Int32)) (g_told : (Nat → Int32)) : Option (Int32 × Int32) := f_X6_judge_b5 g_toldCount g_n_sitters g_n_onBits g_n_seat g_told 4096 (-9 : Int32) (0 : Int32)
-- DraughtsTake.judge()I
set_option maxHeartbeats 4000000 in
set_option maxRecDepth 100000 in
theorem m_X6_judge (l : Launch) (D : va_G) (y : Nat → ClassId) (a : (Nat → Nat)) (g_hasImage : Int32) (g_toldCount : Int32) (g_n_shutBits : Int64) (g_n_airs : Int32) (g_n_crownedBits : Int32) (g_n_sitters : Int32) (g_n_onBits : Int32) (g_n_turn : Int32) (g_n_taken : Int32) (g_n_warmth : (Nat → UInt32)) (g_n_kind : (Nat → Int32)) (g_n_figure : (Nat → Int32)) (g_n_airCell : (Nat → Int32)) (g_n_way : (Nat → Int32)) (g_n_seat : (Nat → Int32)) (g_n_shawls : (Nat → Int32)) (g_n_count : Int32) (g_n_steps : (Nat → Int32)) (g_n_numbers : (Nat → Int32)) (g_told : (Nat → Int32)) (z0 : Int32) (z1 : Int32) (hf : f_X6_judge g_toldCount g_n_sitters g_n_onBits g_n_seat g_told = some (z0, z1)) : Ct l D y yX6_judge wsX6_judge 1 21 [.ref (a 0)] (w_X6_judge y a g_hasImage g_toldCount g_n_shutBits g_n_airs g_n_crownedBits g_n_sitters g_n_onBits g_n_turn g_n_taken g_n_warmth g_n_kind g_n_figure g_n_airCell g_n_way g_n_seat g_n_shawls g_n_count g_n_steps g_n_numbers g_told) (w_X6_judge y a g_hasImage z1 g_n_shutBits g_n_airs g_n_crownedBits g_n_sitters g_n_onBits g_n_turn g_n_taken g_n_warmth g_n_kind g_n_figure g_n_airCell g_n_way g_n_seat g_n_shawls g_n_count g_n_steps g_n_numbers g_told) (some (.int z0)) := by
  refine ct_head (cc := cX6_judge) (n := 3) (ret := (some .int)) (by decide) rfl (Nat.le_of_ble_eq_true rfl) ?_
  intro p e s m below meth c A ls hx hb hr hml hown hlocks hts hA hAe hP hK hD hl
  have hS : va_S A s.heap s.heap [] := va_S.rf
  have hl : lv_has ls 3 [(0, .ref (a 0))] := hl
  have hown : s.vm.findClass RX6 = some m.cls := hown
  have hw1 := hts (.fieldLink RX6 295 "DraughtsTake" "toldCount" "I") (List.mem_of_getElem? (i := 1) rfl)
  have hw2 := hts (.fieldLink RX6 10 "DraughtsTake" "now" "LDraughtsTake$House;") (List.mem_of_getElem? (i := 2) rfl)
  have hw3 := hts (.fieldLink RX6 155 "DraughtsTake$House" "sitters" "I") (List.mem_of_getElem? (i := 3) rfl)
  have hw4 := hts (.fieldLink RX6 43 "DraughtsTake" "told" "[I") (List.mem_of_getElem? (i := 4) rfl)
  have hw5 := hts (.fieldLink RX6 116 "DraughtsTake$House" "seat" "[I") (List.mem_of_getElem? (i := 5) rfl)
  have hiX6 : ∀ w ∈ wsX60, w ∈ wsX6_judge := fun w h => List.mem_cons_of_mem _ (List.mem_append_left _ (List.mem_append_right _ (h)))
  have hiX2 : ∀ w ∈ wsX20, w ∈ wsX6_judge := fun w h => List.mem_cons_of_mem _ (List.mem_append_right _ (h))
  unfold f_X6_judge at hf
  refine lv_bipush (v := -9) hx hb dX6_judge_0 (by decide) ?_
  refine lv_istore_n (lv' := [(1, .int (-9 : Int32)), (0, .ref (a 0))]) hx hb dX6_judge_2 rfl hl (by decide) rfl (fun ls hl => ?_)
  refine lv_iconst (v := 0) hx hb dX6_judge_3 (by decide) ?_
  refine lv_istore_n (lv' := [(2, .int (0 : Int32)), (1, .int (-9 : Int32)), (0, .ref (a 0))]) hx hb dX6_judge_4 rfl hl (by decide) rfl (fun ls hl => ?_)
  have J5 : ∀ (m5 : Nat) (x1 : Int32) (x2 : Int32), f_X6_judge_b5 g_toldCount g_n_sitters g_n_onBits g_n_seat g_told m5 x1 x2 = some (z0, z1) → ∀ (H : Heap) (locs : List Loc), va_P D vwCl (w_X6_judge y a g_hasImage g_toldCount g_n_shutBits g_n_airs g_n_crownedBits g_n_sitters g_n_onBits g_n_turn g_n_taken g_n_warmth g_n_kind g_n_figure g_n_airCell g_n_way g_n_seat g_n_shawls g_n_count g_n_steps g_n_numbers g_told) H → va_D A (w_X6_judge y a g_hasImage g_toldCount g_n_shutBits g_n_airs g_n_crownedBits g_n_sitters g_n_onBits g_n_turn g_n_taken g_n_warmth g_n_kind g_n_figure g_n_airCell g_n_way g_n_seat g_n_shawls g_n_count g_n_steps g_n_numbers g_told) → va_S A s.heap H locs → ∀ ls : Array Slot, lv_has ls 3 [(0, .ref (a 0)), (1, .int x1), (2, .int x2)] → W p l e ({ frames := 1, cells := 0, slots := 0, locals := 21 } : Room) s m [.ref (a 0)].toArray below meth c H locs 0 0 (MQ below (dQ D y (some (.int z0)) s.heap.size (w_X6_judge y a g_hasImage g_toldCount g_n_shutBits g_n_airs g_n_crownedBits g_n_sitters g_n_onBits g_n_turn g_n_taken g_n_warmth g_n_kind g_n_figure g_n_airCell g_n_way g_n_seat g_n_shawls g_n_count g_n_steps g_n_numbers g_told) (w_X6_judge y a g_hasImage z1 g_n_shutBits g_n_airs g_n_crownedBits g_n_sitters g_n_onBits g_n_turn g_n_taken g_n_warmth g_n_kind g_n_figure g_n_airCell g_n_way g_n_seat g_n_shawls g_n_count g_n_steps g_n_numbers g_told)) [.ref (a 0)].toArray s 0 0 A) (F0 m 5 ls []) := by
    intro m5
    induction m5 with
    | zero => intro x1 x2 hf; exact absurd hf (by unfold f_X6_judge_b5; exact fun h => by cases h)
    | succ m5 I5 =>
      intro x1 x2 hf H locs hP hD hS ls hl
      unfold f_X6_judge_b5 at hf
      refine lv_iload_n hx hb dX6_judge_5 rfl (lv_at hl 2 rfl) ?_
      refine lv_aload_n hx hb dX6_judge_6 rfl (lv_at hl 0 rfl) ?_
      refine va_get (D := D) (ci := 5) (v := .int g_toldCount) (C := RX6) (T := TX6) (N := 12) hx hb hts hiX6 hown hK hP 0 rfl rfl 8 (by decide) hw1 (fun _ h9 => h9) rfl dX6_judge_7 ?_
      refine lv_icmp_ge (tgt := 72) hx hb dX6_judge_10 (by decide) (fun c3 => ?_) (fun c3 => ?_)
      · have hf := dq_t hf c3
        clear c3
        refine lv_aload_n hx hb dX6_judge_72 rfl (lv_at hl 0 rfl) ?_
        refine lv_iconst (v := 0) hx hb dX6_judge_73 (by decide) ?_
        refine va_put (D := D) (ci := 5) (v := .int (0 : Int32)) (ty := .int) (C := RX6) (T := TX6) (N := 12) hx hb hts hiX6 tyX6 tyX6_ok nmX6 hown hK hP hD hS 0 rfl rfl 8 (by decide) hw1 (fun _ h9 => h9) rfl (tyX6_ok 8 (by decide)) rfl rfl (Nat.le_of_ble_eq_true rfl) dX6_judge_74 (fun H locs hP hD hS => ?_)
        have hP : va_P D vwCl (w_X6_judge y a g_hasImage (0 : Int32) g_n_shutBits g_n_airs g_n_crownedBits g_n_sitters g_n_onBits g_n_turn g_n_taken g_n_warmth g_n_kind g_n_figure g_n_airCell g_n_way g_n_seat g_n_shawls g_n_count g_n_steps g_n_numbers g_told) H := hP
        have hD : va_D A (w_X6_judge y a g_hasImage (0 : Int32) g_n_shutBits g_n_airs g_n_crownedBits g_n_sitters g_n_onBits g_n_turn g_n_taken g_n_warmth g_n_kind g_n_figure g_n_airCell g_n_way g_n_seat g_n_shawls g_n_count g_n_steps g_n_numbers g_told) := hD
        refine lv_iload_n hx hb dX6_judge_77 rfl (lv_at hl 1 rfl) ?_
        obtain ⟨rfl, rfl⟩ := dq_r2 hf
        exact ct_iret hx hb hr hlocks hAe hP hK hD hS dX6_judge_78
      · have hf := dq_f hf c3
        clear c3
        refine lv_iload_n hx hb dX6_judge_13 rfl (lv_at hl 1 rfl) ?_
        refine lv_bipush (v := -9) hx hb dX6_judge_14 (by decide) ?_
        refine lv_icmp_ne (tgt := 72) hx hb dX6_judge_16 (by decide) (fun c4 => ?_) (fun c4 => ?_)
        · have hf := dq_f hf c4
          clear c4
          refine lv_aload_n hx hb dX6_judge_72 rfl (lv_at hl 0 rfl) ?_
          refine lv_iconst (v := 0) hx hb dX6_judge_73 (by decide) ?_
          refine va_put (D := D) (ci := 5) (v := .int (0 : Int32)) (ty := .int) (C := RX6) (T := TX6) (N := 12) hx hb hts hiX6 tyX6 tyX6_ok nmX6 hown hK hP hD hS 0 rfl rfl 8 (by decide) hw1 (fun _ h9 => h9) rfl (tyX6_ok 8 (by decide)) rfl rfl (Nat.le_of_ble_eq_true rfl) dX6_judge_74 (fun H locs hP hD hS => ?_)
          have hP : va_P D vwCl (w_X6_judge y a g_hasImage (0 : Int32) g_n_shutBits g_n_airs g_n_crownedBits g_n_sitters g_n_onBits g_n_turn g_n_taken g_n_warmth g_n_kind g_n_figure g_n_airCell g_n_way g_n_seat g_n_shawls g_n_count g_n_steps g_n_numbers g_told) H := hP
          have hD : va_D A (w_X6_judge y a g_hasImage (0 : Int32) g_n_shutBits g_n_airs g_n_crownedBits g_n_sitters g_n_onBits g_n_turn g_n_taken g_n_warmth g_n_kind g_n_figure g_n_airCell g_n_way g_n_seat g_n_shawls g_n_count g_n_steps g_n_numbers g_told) := hD
          refine lv_iload_n hx hb dX6_judge_77 rfl (lv_at hl 1 rfl) ?_
          obtain ⟨rfl, rfl⟩ := dq_r2 hf
          exact ct_iret hx hb hr hlocks hAe hP hK hD hS dX6_judge_78
        · have hf := dq_t hf c4
          clear c4
          refine lv_iload_n hx hb dX6_judge_19 rfl (lv_at hl 2 rfl) ?_
          refine lv_aload_n hx hb dX6_judge_20 rfl (lv_at hl 0 rfl) ?_
          refine va_get (D := D) (ci := 5) (v := .ref (a 1)) (C := RX6) (T := TX6) (N := 12) hx hb hts hiX6 hown hK hP 0 rfl rfl 0 (by decide) hw2 (fun _ h9 => h9) rfl dX6_judge_21 ?_
          refine va_get (D := D) (ci := 1) (v := .int g_n_sitters) (C := RX2) (T := TX2) (N := 15) hx hb hts hiX2 hown hK hP 1 rfl rfl 8 (by decide) hw3 (fun _ h9 => h9) rfl dX6_judge_24 ?_
          refine lv_icmp_ge (tgt := 64) hx hb dX6_judge_27 (by decide) (fun c5 => ?_) (fun c5 => ?_)
          · have hf := dq_t hf c5
            clear c5
            refine lv_iload_n hx hb dX6_judge_64 rfl (lv_at hl 2 rfl) ?_
            refine lv_istore_n (lv' := [(1, .int x2), (0, .ref (a 0)), (2, .int x2)]) hx hb dX6_judge_65 rfl hl (by decide) rfl (fun ls hl => ?_)
            obtain ⟨x6, ex6⟩ : ∃ z : Int32, z = (x2 + (1 : Int32)) := ⟨_, rfl⟩
            have hf := dq_l hf x6 ex6
            refine lv_iinc (v := x6) (lv' := [(2, .int x6), (1, .int x2), (0, .ref (a 0))]) hx hb dX6_judge_66 hl (k := 2) rfl (by rw [ex6]; rfl) (by decide) rfl (fun ls hl => ?_)
            clear ex6
            refine lv_goto (tgt := 5) hx hb dX6_judge_69 (by decide) ?_
            exact I5 _ _ hf _ _ hP hD hS _ (lv_sub hl [2, 1, 0] rfl)
          · have hf := dq_f hf c5
            clear c5
            refine lv_aload_n hx hb dX6_judge_30 rfl (lv_at hl 0 rfl) ?_
            refine va_get (D := D) (ci := 5) (v := .ref (a 134)) (C := RX6) (T := TX6) (N := 12) hx hb hts hiX6 hown hK hP 0 rfl rfl 7 (by decide) hw4 (fun _ h9 => h9) rfl dX6_judge_31 ?_
            refine lv_iload_n hx hb dX6_judge_34 rfl (lv_at hl 2 rfl) ?_
            obtain ⟨h7, hf⟩ := dq_g hf
            refine va_iald (cA := y 1) (n := 12) (f := g_told) hx hb hK hP 12 1 rfl rfl h7 dX6_judge_35 ?_
            refine lv_aload_n hx hb dX6_judge_36 rfl (lv_at hl 0 rfl) ?_
            refine va_get (D := D) (ci := 5) (v := .ref (a 1)) (C := RX6) (T := TX6) (N := 12) hx hb hts hiX6 hown hK hP 0 rfl rfl 0 (by decide) hw2 (fun _ h9 => h9) rfl dX6_judge_37 ?_
            refine lv_iload_n hx hb dX6_judge_40 rfl (lv_at hl 2 rfl) ?_
            obtain ⟨x8, hy9, hf⟩ := dq_b hf
            refine ct_callV (ci := 1) (q0 := 0) (own := RX6) (As := [.int x2]) (rest := [.int (g_told x2.toNatClampNeg)]) (ws' := (w_X6_judge y a g_hasImage g_toldCount g_n_shutBits g_n_airs g_n_crownedBits g_n_sitters g_n_onBits g_n_turn g_n_taken g_n_warmth g_n_kind g_n_figure g_n_airCell g_n_way g_n_seat g_n_shawls g_n_count g_n_steps g_n_numbers g_told)) ⟨hx, hb, hml, hown, hts⟩ (m_X2_isOn l D y (fun k => a (1 + k)) g_n_shutBits g_n_airs g_n_crownedBits g_n_sitters g_n_onBits g_n_turn g_n_taken g_n_warmth g_n_kind g_n_figure g_n_airCell g_n_way g_n_seat g_n_shawls g_n_count g_n_steps g_n_numbers x2 x8 hy9) (cwV 1 hts gX6_judge_X2_isOn rfl rfl rfl (by decide +kernel) ⟨Nat.le_of_ble_eq_true rfl, Nat.le_of_ble_eq_true rfl⟩) rfl rfl rfl hl.1 rfl (Nat.le_of_ble_eq_true rfl) dX6_judge_41 ⟨Nat.zero_le _, Nat.zero_le _⟩ hK hP hD hS hA [1, 2, 3, 4, 5, 6, 7, 8, 9, 10, 11] [0, 12] rfl rfl rfl (by decide) (by decide) 13 rfl (by decide +kernel) (fun H locs hP hD hS => ?_)
            have J61 : ∀ (x10 : Int32) (x11 : Int32), f_X6_judge_b61 x1 x2 (f_X6_judge_b5 g_toldCount g_n_sitters g_n_onBits g_n_seat g_told m5) x10 x11 = some (z0, z1) → ∀ (H : Heap) (locs : List Loc), va_P D vwCl (w_X6_judge y a g_hasImage g_toldCount g_n_shutBits g_n_airs g_n_crownedBits g_n_sitters g_n_onBits g_n_turn g_n_taken g_n_warmth g_n_kind g_n_figure g_n_airCell g_n_way g_n_seat g_n_shawls g_n_count g_n_steps g_n_numbers g_told) H → va_D A (w_X6_judge y a g_hasImage g_toldCount g_n_shutBits g_n_airs g_n_crownedBits g_n_sitters g_n_onBits g_n_turn g_n_taken g_n_warmth g_n_kind g_n_figure g_n_airCell g_n_way g_n_seat g_n_shawls g_n_count g_n_steps g_n_numbers g_told) → va_S A s.heap H locs → ∀ ls : Array Slot, lv_has ls 3 [(0, .ref (a 0)), (1, .int x1), (2, .int x2)] → W p l e ({ frames := 1, cells := 0, slots := 0, locals := 21 } : Room) s m [.ref (a 0)].toArray below meth c H locs 0 0 (MQ below (dQ D y (some (.int z0)) s.heap.size (w_X6_judge y a g_hasImage g_toldCount g_n_shutBits g_n_airs g_n_crownedBits g_n_sitters g_n_onBits g_n_turn g_n_taken g_n_warmth g_n_kind g_n_figure g_n_airCell g_n_way g_n_seat g_n_shawls g_n_count g_n_steps g_n_numbers g_told) (w_X6_judge y a g_hasImage z1 g_n_shutBits g_n_airs g_n_crownedBits g_n_sitters g_n_onBits g_n_turn g_n_taken g_n_warmth g_n_kind g_n_figure g_n_airCell g_n_way g_n_seat g_n_shawls g_n_count g_n_steps g_n_numbers g_told)) [.ref (a 0)].toArray s 0 0 A) (F0 m 61 ls [.int x11, .int x10]) := by
              intro x10 x11 hf H locs hP hD hS ls hl
              unfold f_X6_judge_b61 at hf
              refine lv_icmp_eq (tgt := 66) hx hb dX6_judge_61 (by decide) (fun c12 => ?_) (fun c12 => ?_)
              · have hf := dq_t hf c12
                clear c12
                obtain ⟨x13, ex13⟩ : ∃ z : Int32, z = (x2 + (1 : Int32)) := ⟨_, rfl⟩
                have hf := dq_l hf x13 ex13
                refine lv_iinc (v := x13) (lv' := [(2, .int x13), (0, .ref (a 0)), (1, .int x1)]) hx hb dX6_judge_66 hl (k := 2) rfl (by rw [ex13]; rfl) (by decide) rfl (fun ls hl => ?_)
                clear ex13
                refine lv_goto (tgt := 5) hx hb dX6_judge_69 (by decide) ?_
                exact I5 _ _ hf _ _ hP hD hS _ (lv_sub hl [1, 2, 0] rfl)
              · have hf := dq_f hf c12
                clear c12
                refine lv_iload_n hx hb dX6_judge_64 rfl (lv_at hl 2 rfl) ?_
                refine lv_istore_n (lv' := [(1, .int x2), (0, .ref (a 0)), (2, .int x2)]) hx hb dX6_judge_65 rfl hl (by decide) rfl (fun ls hl => ?_)
                obtain ⟨x14, ex14⟩ : ∃ z : Int32, z = (x2 + (1 : Int32)) := ⟨_, rfl⟩
                have hf := dq_l hf x14 ex14
                refine lv_iinc (v := x14) (lv' := [(2, .int x14), (1, .int x2), (0, .ref (a 0))]) hx hb dX6_judge_66 hl (k := 2) rfl (by rw [ex14]; rfl) (by decide) rfl (fun ls hl => ?_)
                clear ex14
                refine lv_goto (tgt := 5) hx hb dX6_judge_69 (by decide) ?_
                exact I5 _ _ hf _ _ hP hD hS _ (lv_sub hl [2, 1, 0] rfl)
            refine lv_if_eq (tgt := 59) hx hb dX6_judge_44 (by decide) (fun c15 => ?_) (fun c15 => ?_)
            · have hf := dq_t hf c15
              clear c15
              refine lv_bipush (v := 36) hx hb dX6_judge_59 (by decide) ?_
              exact J61 _ _ hf _ _ hP hD hS _ (lv_sub hl [0, 1, 2] rfl)
            · have hf := dq_f hf c15
              clear c15
              refine lv_aload_n hx hb dX6_judge_47 rfl (lv_at hl 0 rfl) ?_
              refine va_get (D := D) (ci := 5) (v := .ref (a 1)) (C := RX6) (T := TX6) (N := 12) hx hb hts hiX6 hown hK hP 0 rfl rfl 0 (by decide) hw2 (fun _ h9 => h9) rfl dX6_judge_48 ?_
              refine va_get (D := D) (ci := 1) (v := .ref (a 7)) (C := RX2) (T := TX2) (N := 15) hx hb hts hiX2 hown hK hP 1 rfl rfl 9 (by decide) hw5 (fun _ h9 => h9) rfl dX6_judge_51 ?_
              refine lv_iload_n hx hb dX6_judge_54 rfl (lv_at hl 2 rfl) ?_
              obtain ⟨h16, hf⟩ := dq_g hf
              refine va_iald (cA := y 1) (n := 6) (f := g_n_seat) hx hb hK hP 7 1 rfl rfl h16 dX6_judge_55 ?_
              refine lv_goto (tgt := 61) hx hb dX6_judge_56 (by decide) ?_
              exact J61 _ _ hf _ _ hP hD hS _ (lv_sub hl [0, 1, 2] rfl)
  exact J5 4096 _ _ hf _ _ hP hD hS _ (lv_sub hl [2, 1, 0] rfl)
def w_X6_clear (y : Nat → ClassId) (a : Nat → Nat) (g_hasImage : Int32) (g_toldCount : Int32) : va_W := [((a 0), .inr (5, [.ref (a 1), .ref (a 12), .ref (a 23), .int g_hasImage, .ref (a 34), .ref (a 124), .ref (a 126), .ref (a 134), .int g_toldCount, .ref (a 135), .ref (a 136), .ref (a 137)]))]
noncomputable def f_X6_clear (g_toldCount : Int32) : Option (Int32 × Int32) := some (g_toldCount, (0 : Int32))
-- DraughtsTake.clear()I
set_option maxHeartbeats 4000000 in
set_option maxRecDepth 100000 in
theorem m_X6_clear (l : Launch) (D : va_G) (y : Nat → ClassId) (a : (Nat → Nat)) (g_hasImage : Int32) (g_toldCount : Int32) (z0 : Int32) (z1 : Int32) (hf : f_X6_clear g_toldCount = some (z0, z1)) : Ct l D y yX6_clear wsX6_clear 0 0 [.ref (a 0)] (w_X6_clear y a g_hasImage g_toldCount) (w_X6_clear y a g_hasImage z1) (some (.int z0)) := by
  refine ct_head (cc := cX6_clear) (n := 2) (ret := (some .int)) (by decide) rfl (Nat.le_of_ble_eq_true rfl) ?_
  intro p e s m below meth c A ls hx hb hr hml hown hlocks hts hA hAe hP hK hD hl
  have hS : va_S A s.heap s.heap [] := va_S.rf
  have hl : lv_has ls 2 [(0, .ref (a 0))] := hl
  have hown : s.vm.findClass RX6 = some m.cls := hown
  have hw1 := hts (.fieldLink RX6 295 "DraughtsTake" "toldCount" "I") (List.mem_of_getElem? (i := 1) rfl)
  have hiX6 : ∀ w ∈ wsX60, w ∈ wsX6_clear := fun w h => List.mem_cons_of_mem _ (List.mem_append_right _ (h))
  unfold f_X6_clear at hf
  refine lv_aload_n hx hb dX6_clear_0 rfl (lv_at hl 0 rfl) ?_
  refine va_get (D := D) (ci := 5) (v := .int g_toldCount) (C := RX6) (T := TX6) (N := 12) hx hb hts hiX6 hown hK hP 0 rfl rfl 8 (by decide) hw1 (fun _ h9 => h9) rfl dX6_clear_1 ?_
  refine lv_istore_n (lv' := [(1, .int g_toldCount), (0, .ref (a 0))]) hx hb dX6_clear_4 rfl hl (by decide) rfl (fun ls hl => ?_)
  refine lv_aload_n hx hb dX6_clear_5 rfl (lv_at hl 1 rfl) ?_
  refine lv_iconst (v := 0) hx hb dX6_clear_6 (by decide) ?_
  refine va_put (D := D) (ci := 5) (v := .int (0 : Int32)) (ty := .int) (C := RX6) (T := TX6) (N := 12) hx hb hts hiX6 tyX6 tyX6_ok nmX6 hown hK hP hD hS 0 rfl rfl 8 (by decide) hw1 (fun _ h9 => h9) rfl (tyX6_ok 8 (by decide)) rfl rfl (Nat.le_of_ble_eq_true rfl) dX6_clear_7 (fun H locs hP hD hS => ?_)
  have hP : va_P D vwCl (w_X6_clear y a g_hasImage (0 : Int32)) H := hP
  have hD : va_D A (w_X6_clear y a g_hasImage (0 : Int32)) := hD
  refine lv_iload_n hx hb dX6_clear_10 rfl (lv_at hl 0 rfl) ?_
  obtain ⟨rfl, rfl⟩ := dq_r2 hf
  exact ct_iret hx hb hr hlocks hAe hP hK hD hS dX6_clear_11
def w_X6_lots (y : Nat → ClassId) (a : Nat → Nat) (g_hasImage : Int32) (g_toldCount : Int32) (g_n_shutBits : Int64) (g_n_airs : Int32) (g_n_crownedBits : Int32) (g_n_sitters : Int32) (g_n_onBits : Int32) (g_n_turn : Int32) (g_n_taken : Int32) (g_n_warmth : (Nat → UInt32)) (g_n_kind : (Nat → Int32)) (g_n_figure : (Nat → Int32)) (g_n_airCell : (Nat → Int32)) (g_n_way : (Nat → Int32)) (g_n_seat : (Nat → Int32)) (g_n_shawls : (Nat → Int32)) (g_n_count : Int32) (g_n_steps : (Nat → Int32)) (g_n_numbers : (Nat → Int32)) (g_m_shutBits : Int64) (g_m_airs : Int32) (g_m_crownedBits : Int32) (g_m_sitters : Int32) (g_m_onBits : Int32) (g_m_turn : Int32) (g_m_taken : Int32) (g_m_warmth : (Nat → UInt32)) (g_m_kind : (Nat → Int32)) (g_m_figure : (Nat → Int32)) (g_m_airCell : (Nat → Int32)) (g_m_way : (Nat → Int32)) (g_m_seat : (Nat → Int32)) (g_m_shawls : (Nat → Int32)) (g_m_count : Int32) (g_m_steps : (Nat → Int32)) (g_m_numbers : (Nat → Int32)) (g_refused : (Nat → Int32)) : va_W := [((a 0), .inr (5, [.ref (a 1), .ref (a 12), .ref (a 23), .int g_hasImage, .ref (a 34), .ref (a 124), .ref (a 126), .ref (a 134), .int g_toldCount, .ref (a 135), .ref (a 136), .ref (a 137)])), ((a 1), .inr (1, [.ref (a 2), .long g_n_shutBits, .int g_n_airs, .ref (a 3), .ref (a 4), .ref (a 5), .ref (a 6), .int g_n_crownedBits, .int g_n_sitters, .ref (a 7), .ref (a 8), .int g_n_onBits, .int g_n_turn, .int g_n_taken, .ref (a 9)])), ((a 2), .inl (y 0, 36, .inr (.inr (.inl g_n_warmth)))), ((a 3), .inl (y 1, 5, .inl g_n_kind)), ((a 4), .inl (y 1, 5, .inl g_n_figure)), ((a 5), .inl (y 1, 5, .inl g_n_airCell)), ((a 6), .inl (y 1, 5, .inl g_n_way)), ((a 7), .inl (y 1, 6, .inl g_n_seat)), ((a 8), .inl (y 1, 6, .inl g_n_shawls)), ((a 9), .inr (0, [.ref (a 10), .ref (a 11), .int g_n_count])), ((a 10), .inl (y 1, 6, .inl g_n_steps)), ((a 11), .inl (y 1, 6, .inl g_n_numbers)), ((a 12), .inr (1, [.ref (a 13), .long g_m_shutBits, .int g_m_airs, .ref (a 14), .ref (a 15), .ref (a 16), .ref (a 17), .int g_m_crownedBits, .int g_m_sitters, .ref (a 18), .ref (a 19), .int g_m_onBits, .int g_m_turn, .int g_m_taken, .ref (a 20)])), ((a 13), .inl (y 0, 36, .inr (.inr (.inl g_m_warmth)))), ((a 14), .inl (y 1, 5, .inl g_m_kind)), ((a 15), .inl (y 1, 5, .inl g_m_figure)), ((a 16), .inl (y 1, 5, .inl g_m_airCell)), ((a 17), .inl (y 1, 5, .inl g_m_way)), ((a 18), .inl (y 1, 6, .inl g_m_seat)), ((a 19), .inl (y 1, 6, .inl g_m_shawls)), ((a 20), .inr (0, [.ref (a 21), .ref (a 22), .int g_m_count])), ((a 21), .inl (y 1, 6, .inl g_m_steps)), ((a 22), .inl (y 1, 6, .inl g_m_numbers)), ((a 135), .inl (y 1, 7, .inl g_refused))]
noncomputable def f_X6_lots_b69 (g_n_taken : Int32) (x10 : Int32) (x11 : Int32) (x12 : Int32) (g_m_shutBits_32 : Int64) (g_m_airs_33 : Int32) (g_m_crownedBits_34 : Int32) (g_m_sitters_35 : Int32) (g_m_onBits_36 : Int32) (g_m_turn_37 : Int32) (g_m_taken_38 : Int32) (g_m_warmth_39 : (Nat → UInt32)) (g_m_kind_40 : (Nat → Int32)) (g_m_figure_41 : (Nat → Int32)) (g_m_airCell_42 : (Nat → Int32)) (g_m_seat_44 : (Nat → Int32)) (g_m_shawls_45 : (Nat → Int32)) (g_m_count_46 : Int32) (g_m_steps_47 : (Nat → Int32)) (g_m_numbers_48 : (Nat → Int32)) (k49 : (Int32 → Int32 → Int32 → Int32 → Int64 → Int32 → Int32 → Int32 → Int32 → Int32 → Int32 → (Nat → UInt32) → (Nat → Int32) → (Nat → Int32) → (Nat → Int32) → (Nat → Int32) → (Nat → Int32) → (Nat → Int32) → Int32 → (Nat → Int32) → (Nat → Int32) → Option (Int32 × Int64 × Int32 × Int32 × Int32 × Int32 × Int32 × Int32 × (Nat → UInt32) × (Nat → Int32) × (Nat → Int32) × (Nat → Int32) × (Nat → Int32) × (Nat → Int32) × (Nat → Int32) × Int32 × (Nat → Int32) × (Nat → Int32) × (Nat → Int32)))) : Nat → Int32 → Int32 → (Nat → Int32) → Option (Int32 × Int64 × Int32 × Int32 × Int32 × Int32 × Int32 × Int32 × (Nat → UInt32) × (Nat → Int32) × (Nat → Int32) × (Nat → Int32) × (Nat → Int32) × (Nat → Int32) × (Nat → Int32) × Int32 × (Nat → Int32) × (Nat → Int32) × (Nat → Int32))
  | 0, _, _, _ => none
  | m69 + 1, x50, x51, g_m_way_52 => dq_if (g_m_airs_33 ≤ x51) (dq_bd8 (f_X2_goOn g_m_shutBits_32 g_m_airs_33 g_m_crownedBits_34 g_m_sitters_35 g_m_onBits_36 g_m_turn_37 g_m_taken_38 g_m_warmth_39 g_m_kind_40 g_m_figure_41 g_m_airCell_42 g_m_way_52 g_m_seat_44 g_m_shawls_45 g_m_count_46 g_m_steps_47 g_m_numbers_48 (10 : Int32)) (fun (g_m_crownedBits_54 : Int32) (g_m_onBits_55 : Int32) (g_m_turn_56 : Int32) (g_m_taken_57 : Int32) (g_m_warmth_58 : (Nat → UInt32)) (g_m_airCell_59 : (Nat → Int32)) (g_m_way_60 : (Nat → Int32)) (g_m_shawls_61 : (Nat → Int32)) => dq_let (x10 + (g_m_taken_57 - g_n_taken)) (fun (x63 : Int32) => dq_bd (f_J6_bitCount_0f7a4 g_m_onBits_55) (fun (x64 : Int32) => dq_let (x11 + x64) (fun (x66 : Int32) => dq_let (x12 + (1 : Int32)) (fun (x67 : Int32) => k49 x50 x63 x66 x67 g_m_shutBits_32 g_m_airs_33 g_m_crownedBits_54 g_m_sitters_35 g_m_onBits_55 g_m_turn_56 g_m_taken_57 g_m_warmth_58 g_m_kind_40 g_m_figure_41 g_m_airCell_59 g_m_way_60 g_m_seat_44 g_m_shawls_61 g_m_count_46 g_m_steps_47 g_m_numbers_48)))))) (dq_let ((x50 * (1103515245 : Int32)) + (12345 : Int32)) (fun (x68 : Int32) => dq_gd (vp_in x51 5) (dq_let (upd g_m_way_52 x51.toNatClampNeg (((x68 &&& (2147483647 : Int32)) / (65536 : Int32)) - ((x68 &&& (2147483647 : Int32)) / (65536 : Int32)) / (4 : Int32) * (4 : Int32))) (fun (g_m_way_70 : (Nat → Int32)) => dq_let (x51 + (1 : Int32)) (fun (x71 : Int32) => (f_X6_lots_b69 g_n_taken x10 x11 x12 g_m_shutBits_32 g_m_airs_33 g_m_crownedBits_34 g_m_sitters_35 g_m_onBits_36 g_m_turn_37 g_m_taken_38 g_m_warmth_39 g_m_kind_40 g_m_figure_41 g_m_airCell_42 g_m_seat_44 g_m_shawls_45 g_m_count_46 g_m_steps_47 g_m_numbers_48 k49 m69) x68 x71 g_m_way_70)))))
noncomputable def f_X6_lots_b49 (n0 : Int32) (n2 : Int32) (g_n_shutBits : Int64) (g_n_airs : Int32) (g_n_crownedBits : Int32) (g_n_sitters : Int32) (g_n_onBits : Int32) (g_n_turn : Int32) (g_n_taken : Int32) (g_n_warmth : (Nat → UInt32)) (g_n_kind : (Nat → Int32)) (g_n_figure : (Nat → Int32)) (g_n_airCell : (Nat → Int32)) (g_n_way : (Nat → Int32)) (g_n_seat : (Nat → Int32)) (g_n_shawls : (Nat → Int32)) (g_n_count : Int32) (g_n_steps : (Nat → Int32)) (g_n_numbers : (Nat → Int32)) (g_refused : (Nat → Int32))  : Nat → Int32 → Int32 → Int32 → Int32 → Int64 → Int32 → Int32 → Int32 → Int32 → Int32 → Int32 → (Nat → UInt32) → (Nat → Int32) → (Nat → Int32) → (Nat → Int32) → (Nat → Int32) → (Nat → Int32) → (Nat → Int32) → Int32 → (Nat → Int32) → (Nat → Int32) → Option (Int32 × Int64 × Int32 × Int32 × Int32 × Int32 × Int32 × Int32 × (Nat → UInt32) × (Nat → Int32) × (Nat → Int32) × (Nat → Int32) × (Nat → Int32) × (Nat → Int32) × (Nat → Int32) × Int32 × (Nat → Int32) × (Nat → Int32) × (Nat → Int32))
  | 0, _, _, _, _, _, _, _, _, _, _, _, _, _, _, _, _, _, _, _, _, _ => none
  | m49 + 1, x9, x10, x11, x12, g_m_shutBits_13, g_m_airs_14, g_m_crownedBits_15, g_m_sitters_16, g_m_onBits_17, g_m_turn_18, g_m_taken_19, g_m_warmth_20, g_m_kind_21, g_m_figure_22, g_m_airCell_23, g_m_way_24, g_m_seat_25, g_m_shawls_26, g_m_count_27, g_m_steps_28, g_m_numbers_29 => dq_if (n0 ≤ x12) (dq_if (n2 = 0) (some (x10, g_m_shutBits_13, g_m_airs_14, g_m_crownedBits_15, g_m_sitters_16, g_m_onBits_17, g_m_turn_18, g_m_taken_19, g_m_warmth_20, g_m_kind_21, g_m_figure_22, g_m_airCell_23, g_m_way_24, g_m_seat_25, g_m_shawls_26, g_m_count_27, g_m_steps_28, g_m_numbers_29, g_refused)) (some (x11, g_m_shutBits_13, g_m_airs_14, g_m_crownedBits_15, g_m_sitters_16, g_m_onBits_17, g_m_turn_18, g_m_taken_19, g_m_warmth_20, g_m_kind_21, g_m_figure_22, g_m_airCell_23, g_m_way_24, g_m_seat_25, g_m_shawls_26, g_m_count_27, g_m_steps_28, g_m_numbers_29, g_refused))) (dq_bd17 (f_X2_take g_m_warmth_20 g_m_kind_21 g_m_figure_22 g_m_airCell_23 g_m_way_24 g_m_seat_25 g_m_shawls_26 g_m_steps_28 g_m_numbers_29 g_n_shutBits g_n_airs g_n_crownedBits g_n_sitters g_n_onBits g_n_turn g_n_taken g_n_warmth g_n_kind g_n_figure g_n_airCell g_n_way g_n_seat g_n_shawls g_n_count g_n_steps g_n_numbers) (fun (g_m_shutBits_32 : Int64) (g_m_airs_33 : Int32) (g_m_crownedBits_34 : Int32) (g_m_sitters_35 : Int32) (g_m_onBits_36 : Int32) (g_m_turn_37 : Int32) (g_m_taken_38 : Int32) (g_m_warmth_39 : (Nat → UInt32)) (g_m_kind_40 : (Nat → Int32)) (g_m_figure_41 : (Nat → Int32)) (g_m_airCell_42 : (Nat → Int32)) (g_m_way_43 : (Nat → Int32)) (g_m_seat_44 : (Nat → Int32)) (g_m_shawls_45 : (Nat → Int32)) (g_m_count_46 : Int32) (g_m_steps_47 : (Nat → Int32)) (g_m_numbers_48 : (Nat → Int32)) => f_X6_lots_b69 g_n_taken x10 x11 x12 g_m_shutBits_32 g_m_airs_33 g_m_crownedBits_34 g_m_sitters_35 g_m_onBits_36 g_m_turn_37 g_m_taken_38 g_m_warmth_39 g_m_kind_40 g_m_figure_41 g_m_airCell_42 g_m_seat_44 g_m_shawls_45 g_m_count_46 g_m_steps_47 g_m_numbers_48 (f_X6_lots_b49 n0 n2 g_n_shutBits g_n_airs g_n_crownedBits g_n_sitters g_n_onBits g_n_turn g_n_taken g_n_warmth g_n_kind g_n_figure g_n_airCell g_n_way g_n_seat g_n_shawls g_n_count g_n_steps g_n_numbers g_refused m49) 4096 x9 (0 : Int32) g_m_way_43))
noncomputable def f_X6_lots (g_n_shutBits : Int64) (g_n_airs : Int32) (g_n_crownedBits : Int32) (g_n_sitters : Int32) (g_n_onBits : Int32) (g_n_turn : Int32) (g_n_taken : Int32) (g_n_warmth : (Nat → UInt32)) (g_n_kind : (Nat → Int32)) (g_n_figure : (Nat → Int32)) (g_n_airCell : (Nat → Int32)) (g_n_way : (Nat → Int32)) (g_n_seat : (Nat → Int32)) (g_n_shawls : (Nat → Int32)) (g_n_count : Int32) (g_n_steps : (Nat → Int32)) (g_n_numbers : (Nat → Int32)) (g_m_shutBits : Int64) (g_m_airs : Int32) (g_m_crownedBits : Int32) (g_m_sitters : Int32) (g_m_onBits : Int32) (g_m_turn : Int32) (g_m_taken : Int32) (g_m_warmth : (Nat → UInt32)) (g_m_kind : (Nat → Int32)) (g_m_figure : (Nat → Int32)) (g_m_airCell : (Nat → Int32)) (g_m_way : (Nat → Int32)) (g_m_seat : (Nat → Int32)) (g_m_shawls : (Nat → Int32)) (g_m_count : Int32) (g_m_steps : (Nat → Int32)) (g_m_numbers : (Nat → Int32)) (g_refused : (Nat → Int32)) (n0 : Int32) (n1 : Int32) (n2 : Int32) : Option (Int32 × Int64 × Int32 × Int32 × Int32 × Int32 × Int32 × Int32 × (Nat → UInt32) × (Nat → Int32) × (Nat → Int32) × (Nat → Int32) × (Nat → Int32) × (Nat → Int32) × (Nat → Int32) × Int32 × (Nat → Int32) × (Nat → Int32) × (Nat → Int32)) := dq_bd (f_X6_refusalOf n0 (1 : Int32) (20 : Int32)) (fun (x1 : Int32) => dq_if (x1 = 0) (dq_if (n2 < 0) (dq_bd2 (f_X6_refuse g_refused (-2 : Int32)) (fun (x5 : Int32) (g_refused_6 : (Nat → Int32)) => some (x5, g_m_shutBits, g_m_airs, g_m_crownedBits, g_m_sitters, g_m_onBits, g_m_turn, g_m_taken, g_m_warmth, g_m_kind, g_m_figure, g_m_airCell, g_m_way, g_m_seat, g_m_shawls, g_m_count, g_m_steps, g_m_numbers, g_refused_6))) (dq_if (n2 ≤ (1 : Int32)) (f_X6_lots_b49 n0 n2 g_n_shutBits g_n_airs g_n_crownedBits g_n_sitters g_n_onBits g_n_turn g_n_taken g_n_warmth g_n_kind g_n_figure g_n_airCell g_n_way g_n_seat g_n_shawls g_n_count g_n_steps g_n_numbers g_refused 4096 n1 (0 : Int32) (0 : Int32) (0 : Int32) g_m_shutBits g_m_airs g_m_crownedBits g_m_sitters g_m_onBits g_m_turn g_m_taken g_m_warmth g_m_kind g_m_figure g_m_airCell g_m_way g_m_seat g_m_shawls g_m_count g_m_steps g_m_numbers) (dq_bd2 (f_X6_refuse g_refused (-2 : Int32)) (fun (x72 : Int32) (g_refused_73 : (Nat → Int32)) => some (x72, g_m_shutBits, g_m_airs, g_m_crownedBits, g_m_sitters, g_m_onBits, g_m_turn, g_m_taken, g_m_warmth, g_m_kind, g_m_figure, g_m_airCell, g_m_way, g_m_seat, g_m_shawls, g_m_count, g_m_steps, g_m_numbers, g_refused_73))))) (dq_bd2 (f_X6_refuse g_refused x1) (fun (x75 : Int32) (g_refused_76 : (Nat → Int32)) => some (x75, g_m_shutBits, g_m_airs, g_m_crownedBits, g_m_sitters, g_m_onBits, g_m_turn, g_m_taken, g_m_warmth, g_m_kind, g_m_figure, g_m_airCell, g_m_way, g_m_seat, g_m_shawls, g_m_count, g_m_steps, g_m_numbers, g_refused_76))))
-- DraughtsTake.lots(III)I
set_option maxHeartbeats 4000000 in
set_option maxRecDepth 100000 in
theorem m_X6_lots (l : Launch) (D : va_G) (y : Nat → ClassId) (a : (Nat → Nat)) (g_hasImage : Int32) (g_toldCount : Int32) (g_n_shutBits : Int64) (g_n_airs : Int32) (g_n_crownedBits : Int32) (g_n_sitters : Int32) (g_n_onBits : Int32) (g_n_turn : Int32) (g_n_taken : Int32) (g_n_warmth : (Nat → UInt32)) (g_n_kind : (Nat → Int32)) (g_n_figure : (Nat → Int32)) (g_n_airCell : (Nat → Int32)) (g_n_way : (Nat → Int32)) (g_n_seat : (Nat → Int32)) (g_n_shawls : (Nat → Int32)) (g_n_count : Int32) (g_n_steps : (Nat → Int32)) (g_n_numbers : (Nat → Int32)) (g_m_shutBits : Int64) (g_m_airs : Int32) (g_m_crownedBits : Int32) (g_m_sitters : Int32) (g_m_onBits : Int32) (g_m_turn : Int32) (g_m_taken : Int32) (g_m_warmth : (Nat → UInt32)) (g_m_kind : (Nat → Int32)) (g_m_figure : (Nat → Int32)) (g_m_airCell : (Nat → Int32)) (g_m_way : (Nat → Int32)) (g_m_seat : (Nat → Int32)) (g_m_shawls : (Nat → Int32)) (g_m_count : Int32) (g_m_steps : (Nat → Int32)) (g_m_numbers : (Nat → Int32)) (g_refused : (Nat → Int32)) (n0 : Int32) (n1 : Int32) (n2 : Int32) (z0 : Int32) (z1 : Int64) (z2 : Int32) (z3 : Int32) (z4 : Int32) (z5 : Int32) (z6 : Int32) (z7 : Int32) (z8 : (Nat → UInt32)) (z9 : (Nat → Int32)) (z10 : (Nat → Int32)) (z11 : (Nat → Int32)) (z12 : (Nat → Int32)) (z13 : (Nat → Int32)) (z14 : (Nat → Int32)) (z15 : Int32) (z16 : (Nat → Int32)) (z17 : (Nat → Int32)) (z18 : (Nat → Int32)) (hf : f_X6_lots g_n_shutBits g_n_airs g_n_crownedBits g_n_sitters g_n_onBits g_n_turn g_n_taken g_n_warmth g_n_kind g_n_figure g_n_airCell g_n_way g_n_seat g_n_shawls g_n_count g_n_steps g_n_numbers g_m_shutBits g_m_airs g_m_crownedBits g_m_sitters g_m_onBits g_m_turn g_m_taken g_m_warmth g_m_kind g_m_figure g_m_airCell g_m_way g_m_seat g_m_shawls g_m_count g_m_steps g_m_numbers g_refused n0 n1 n2 = some (z0, z1, z2, z3, z4, z5, z6, z7, z8, z9, z10, z11, z12, z13, z14, z15, z16, z17, z18)) : Ct l D y yX6_lots wsX6_lots 5 118 [.ref (a 0), .int n0, .int n1, .int n2] (w_X6_lots y a g_hasImage g_toldCount g_n_shutBits g_n_airs g_n_crownedBits g_n_sitters g_n_onBits g_n_turn g_n_taken g_n_warmth g_n_kind g_n_figure g_n_airCell g_n_way g_n_seat g_n_shawls g_n_count g_n_steps g_n_numbers g_m_shutBits g_m_airs g_m_crownedBits g_m_sitters g_m_onBits g_m_turn g_m_taken g_m_warmth g_m_kind g_m_figure g_m_airCell g_m_way g_m_seat g_m_shawls g_m_count g_m_steps g_m_numbers g_refused) (w_X6_lots y a g_hasImage g_toldCount g_n_shutBits g_n_airs g_n_crownedBits g_n_sitters g_n_onBits g_n_turn g_n_taken g_n_warmth g_n_kind g_n_figure g_n_airCell g_n_way g_n_seat g_n_shawls g_n_count g_n_steps g_n_numbers z1 z2 z3 z4 z5 z6 z7 z8 z9 z10 z11 z12 z13 z14 z15 z16 z17 z18) (some (.int z0)) := by
  refine ct_head (cc := cX6_lots) (n := 10) (ret := (some .int)) (by decide) rfl (Nat.le_of_ble_eq_true rfl) ?_
  intro p e s m below meth c A ls hx hb hr hml hown hlocks hts hA hAe hP hK hD hl
  have hS : va_S A s.heap s.heap [] := va_S.rf
  have hl : lv_has ls 10 [(0, .ref (a 0)), (1, .int n0), (2, .int n1), (3, .int n2)] := hl
  have hown : s.vm.findClass RX6 = some m.cls := hown
  have hw1 := hts (.fieldLink RX6 16 "DraughtsTake" "mind" "LDraughtsTake$House;") (List.mem_of_getElem? (i := 1) rfl)
  have hw2 := hts (.fieldLink RX6 10 "DraughtsTake" "now" "LDraughtsTake$House;") (List.mem_of_getElem? (i := 2) rfl)
  have hw3 := hts (.fieldLink RX6 148 "DraughtsTake$House" "airs" "I") (List.mem_of_getElem? (i := 3) rfl)
  have hw4 := hts (.constant RX6 298 (1103515245)) (List.mem_of_getElem? (i := 4) rfl)
  have hw5 := hts (.fieldLink RX6 101 "DraughtsTake$House" "way" "[I") (List.mem_of_getElem? (i := 5) rfl)
  have hw6 := hts (.constant RX6 299 (2147483647)) (List.mem_of_getElem? (i := 6) rfl)
  have hw7 := hts (.constant RX6 300 (65536)) (List.mem_of_getElem? (i := 7) rfl)
  have hw8 := hts (.fieldLink RX6 198 "DraughtsTake$House" "taken" "I") (List.mem_of_getElem? (i := 8) rfl)
  have hw9 := hts (.fieldLink RX6 176 "DraughtsTake$House" "onBits" "I") (List.mem_of_getElem? (i := 9) rfl)
  have hiX6 : ∀ w ∈ wsX60, w ∈ wsX6_lots := fun w h => List.mem_cons_of_mem _ (List.mem_append_left _ (List.mem_append_left _ (List.mem_append_right _ (h))))
  have hiX2 : ∀ w ∈ wsX20, w ∈ wsX6_lots := fun w h => List.mem_cons_of_mem _ (List.mem_append_left _ (List.mem_append_right _ (h)))
  unfold f_X6_lots at hf
  refine lv_iload_n hx hb dX6_lots_0 rfl (lv_at hl 1 rfl) ?_
  refine lv_iconst (v := 1) hx hb dX6_lots_1 (by decide) ?_
  refine lv_bipush (v := 20) hx hb dX6_lots_2 (by decide) ?_
  obtain ⟨x1, hy2, hf⟩ := dq_b hf
  refine ct_callS0 (own := RX6) (As := [.int n0, .int (1 : Int32), .int (20 : Int32)]) (rest := []) ⟨hx, hb, hml, hown, hts⟩ (m_X6_refusalOf l D y n0 (1 : Int32) (20 : Int32) x1 hy2) (va_cwS 3 hts gX6_lots_X6_refusalOf rfl rfl rfl (by decide +kernel) ⟨Nat.le_of_ble_eq_true rfl, Nat.le_of_ble_eq_true rfl⟩) rfl hl.1 rfl (Nat.le_of_ble_eq_true rfl) dX6_lots_4 ⟨Nat.zero_le _, Nat.zero_le _⟩ hK hP hD hS hA (fun H locs hP hD hS => ?_)
  refine lv_istore (lv' := [(4, .int x1), (0, .ref (a 0)), (1, .int n0), (2, .int n1), (3, .int n2)]) hx hb dX6_lots_7 hl (by decide) rfl (fun ls hl => ?_)
  refine lv_iload hx hb dX6_lots_9 (lv_at hl 0 rfl) ?_
  refine lv_if_eq (tgt := 21) hx hb dX6_lots_11 (by decide) (fun c3 => ?_) (fun c3 => ?_)
  · have hf := dq_t hf c3
    clear c3
    refine lv_iload_n hx hb dX6_lots_21 rfl (lv_at hl 4 rfl) ?_
    refine lv_if_lt (tgt := 30) hx hb dX6_lots_22 (by decide) (fun c4 => ?_) (fun c4 => ?_)
    · have hf := dq_t hf c4
      clear c4
      refine lv_aload_n hx hb dX6_lots_30 rfl (lv_at hl 1 rfl) ?_
      refine lv_bipush (v := -2) hx hb dX6_lots_31 (by decide) ?_
      obtain ⟨x5, g_refused_6, hy7, hf⟩ := dq_b2 hf
      refine ct_callV (ci := 5) (q0 := 0) (own := RX6) (As := [.int (-2 : Int32)]) (rest := []) (ws' := (w_X6_lots y a g_hasImage g_toldCount g_n_shutBits g_n_airs g_n_crownedBits g_n_sitters g_n_onBits g_n_turn g_n_taken g_n_warmth g_n_kind g_n_figure g_n_airCell g_n_way g_n_seat g_n_shawls g_n_count g_n_steps g_n_numbers g_m_shutBits g_m_airs g_m_crownedBits g_m_sitters g_m_onBits g_m_turn g_m_taken g_m_warmth g_m_kind g_m_figure g_m_airCell g_m_way g_m_seat g_m_shawls g_m_count g_m_steps g_m_numbers g_refused_6)) ⟨hx, hb, hml, hown, hts⟩ (m_X6_refuse l D y a g_hasImage g_toldCount g_refused (-2 : Int32) x5 g_refused_6 hy7) (cwV 1 hts gX6_lots_X6_refuse rfl rfl rfl (by decide +kernel) ⟨Nat.le_of_ble_eq_true rfl, Nat.le_of_ble_eq_true rfl⟩) rfl rfl rfl hl.1 rfl (Nat.le_of_ble_eq_true rfl) dX6_lots_33 ⟨Nat.zero_le _, Nat.zero_le _⟩ hK hP hD hS hA [0, 23] [1, 2, 3, 4, 5, 6, 7, 8, 9, 10, 11, 12, 13, 14, 15, 16, 17, 18, 19, 20, 21, 22] rfl rfl rfl (by decide) (by decide) 24 rfl (by decide +kernel) (fun H locs hP hD hS => ?_)
      obtain ⟨rfl, rfl, rfl, rfl, rfl, rfl, rfl, rfl, rfl, rfl, rfl, rfl, rfl, rfl, rfl, rfl, rfl, rfl, rfl⟩ := dq_r19 hf
      exact ct_iret hx hb hr hlocks hAe hP hK hD hS dX6_lots_36
    · have hf := dq_f hf c4
      clear c4
      refine lv_iload_n hx hb dX6_lots_25 rfl (lv_at hl 4 rfl) ?_
      refine lv_iconst (v := 1) hx hb dX6_lots_26 (by decide) ?_
      refine lv_icmp_le (tgt := 37) hx hb dX6_lots_27 (by decide) (fun c8 => ?_) (fun c8 => ?_)
      · have hf := dq_t hf c8
        clear c8
        refine lv_iload_n hx hb dX6_lots_37 rfl (lv_at hl 3 rfl) ?_
        refine lv_istore (lv' := [(5, .int n1), (4, .int x1), (0, .ref (a 0)), (1, .int n0), (2, .int n1), (3, .int n2)]) hx hb dX6_lots_38 hl (by decide) rfl (fun ls hl => ?_)
        refine lv_iconst (v := 0) hx hb dX6_lots_40 (by decide) ?_
        refine lv_istore (lv' := [(6, .int (0 : Int32)), (5, .int n1), (4, .int x1), (0, .ref (a 0)), (1, .int n0), (2, .int n1), (3, .int n2)]) hx hb dX6_lots_41 hl (by decide) rfl (fun ls hl => ?_)
        refine lv_iconst (v := 0) hx hb dX6_lots_43 (by decide) ?_
        refine lv_istore (lv' := [(7, .int (0 : Int32)), (6, .int (0 : Int32)), (5, .int n1), (4, .int x1), (0, .ref (a 0)), (1, .int n0), (2, .int n1), (3, .int n2)]) hx hb dX6_lots_44 hl (by decide) rfl (fun ls hl => ?_)
        refine lv_iconst (v := 0) hx hb dX6_lots_46 (by decide) ?_
        refine lv_istore (lv' := [(8, .int (0 : Int32)), (7, .int (0 : Int32)), (6, .int (0 : Int32)), (5, .int n1), (4, .int x1), (0, .ref (a 0)), (1, .int n0), (2, .int n1), (3, .int n2)]) hx hb dX6_lots_47 hl (by decide) rfl (fun ls hl => ?_)
        have J49 : ∀ (m49 : Nat) (x9 : Int32) (x10 : Int32) (x11 : Int32) (x12 : Int32) (g_m_shutBits_13 : Int64) (g_m_airs_14 : Int32) (g_m_crownedBits_15 : Int32) (g_m_sitters_16 : Int32) (g_m_onBits_17 : Int32) (g_m_turn_18 : Int32) (g_m_taken_19 : Int32) (g_m_warmth_20 : (Nat → UInt32)) (g_m_kind_21 : (Nat → Int32)) (g_m_figure_22 : (Nat → Int32)) (g_m_airCell_23 : (Nat → Int32)) (g_m_way_24 : (Nat → Int32)) (g_m_seat_25 : (Nat → Int32)) (g_m_shawls_26 : (Nat → Int32)) (g_m_count_27 : Int32) (g_m_steps_28 : (Nat → Int32)) (g_m_numbers_29 : (Nat → Int32)), f_X6_lots_b49 n0 n2 g_n_shutBits g_n_airs g_n_crownedBits g_n_sitters g_n_onBits g_n_turn g_n_taken g_n_warmth g_n_kind g_n_figure g_n_airCell g_n_way g_n_seat g_n_shawls g_n_count g_n_steps g_n_numbers g_refused m49 x9 x10 x11 x12 g_m_shutBits_13 g_m_airs_14 g_m_crownedBits_15 g_m_sitters_16 g_m_onBits_17 g_m_turn_18 g_m_taken_19 g_m_warmth_20 g_m_kind_21 g_m_figure_22 g_m_airCell_23 g_m_way_24 g_m_seat_25 g_m_shawls_26 g_m_count_27 g_m_steps_28 g_m_numbers_29 = some (z0, z1, z2, z3, z4, z5, z6, z7, z8, z9, z10, z11, z12, z13, z14, z15, z16, z17, z18) → ∀ (H : Heap) (locs : List Loc), va_P D vwCl (w_X6_lots y a g_hasImage g_toldCount g_n_shutBits g_n_airs g_n_crownedBits g_n_sitters g_n_onBits g_n_turn g_n_taken g_n_warmth g_n_kind g_n_figure g_n_airCell g_n_way g_n_seat g_n_shawls g_n_count g_n_steps g_n_numbers g_m_shutBits_13 g_m_airs_14 g_m_crownedBits_15 g_m_sitters_16 g_m_onBits_17 g_m_turn_18 g_m_taken_19 g_m_warmth_20 g_m_kind_21 g_m_figure_22 g_m_airCell_23 g_m_way_24 g_m_seat_25 g_m_shawls_26 g_m_count_27 g_m_steps_28 g_m_numbers_29 g_refused) H → va_D A (w_X6_lots y a g_hasImage g_toldCount g_n_shutBits g_n_airs g_n_crownedBits g_n_sitters g_n_onBits g_n_turn g_n_taken g_n_warmth g_n_kind g_n_figure g_n_airCell g_n_way g_n_seat g_n_shawls g_n_count g_n_steps g_n_numbers g_m_shutBits_13 g_m_airs_14 g_m_crownedBits_15 g_m_sitters_16 g_m_onBits_17 g_m_turn_18 g_m_taken_19 g_m_warmth_20 g_m_kind_21 g_m_figure_22 g_m_airCell_23 g_m_way_24 g_m_seat_25 g_m_shawls_26 g_m_count_27 g_m_steps_28 g_m_numbers_29 g_refused) → va_S A s.heap H locs → ∀ ls : Array Slot, lv_has ls 10 [(0, .ref (a 0)), (1, .int n0), (3, .int n2), (5, .int x9), (6, .int x10), (7, .int x11), (8, .int x12)] → W p l e ({ frames := 5, cells := 0, slots := 0, locals := 118 } : Room) s m [.ref (a 0), .int n0, .int n1, .int n2].toArray below meth c H locs 0 0 (MQ below (dQ D y (some (.int z0)) s.heap.size (w_X6_lots y a g_hasImage g_toldCount g_n_shutBits g_n_airs g_n_crownedBits g_n_sitters g_n_onBits g_n_turn g_n_taken g_n_warmth g_n_kind g_n_figure g_n_airCell g_n_way g_n_seat g_n_shawls g_n_count g_n_steps g_n_numbers g_m_shutBits g_m_airs g_m_crownedBits g_m_sitters g_m_onBits g_m_turn g_m_taken g_m_warmth g_m_kind g_m_figure g_m_airCell g_m_way g_m_seat g_m_shawls g_m_count g_m_steps g_m_numbers g_refused) (w_X6_lots y a g_hasImage g_toldCount g_n_shutBits g_n_airs g_n_crownedBits g_n_sitters g_n_onBits g_n_turn g_n_taken g_n_warmth g_n_kind g_n_figure g_n_airCell g_n_way g_n_seat g_n_shawls g_n_count g_n_steps g_n_numbers z1 z2 z3 z4 z5 z6 z7 z8 z9 z10 z11 z12 z13 z14 z15 z16 z17 z18)) [.ref (a 0), .int n0, .int n1, .int n2].toArray s 0 0 A) (F0 m 49 ls []) := by
          intro m49
          induction m49 with
          | zero => intro x9 x10 x11 x12 g_m_shutBits_13 g_m_airs_14 g_m_crownedBits_15 g_m_sitters_16 g_m_onBits_17 g_m_turn_18 g_m_taken_19 g_m_warmth_20 g_m_kind_21 g_m_figure_22 g_m_airCell_23 g_m_way_24 g_m_seat_25 g_m_shawls_26 g_m_count_27 g_m_steps_28 g_m_numbers_29 hf; exact absurd hf (by unfold f_X6_lots_b49; exact fun h => by cases h)
          | succ m49 I49 =>
            intro x9 x10 x11 x12 g_m_shutBits_13 g_m_airs_14 g_m_crownedBits_15 g_m_sitters_16 g_m_onBits_17 g_m_turn_18 g_m_taken_19 g_m_warmth_20 g_m_kind_21 g_m_figure_22 g_m_airCell_23 g_m_way_24 g_m_seat_25 g_m_shawls_26 g_m_count_27 g_m_steps_28 g_m_numbers_29 hf H locs hP hD hS ls hl
            unfold f_X6_lots_b49 at hf
            refine lv_iload hx hb dX6_lots_49 (lv_at hl 6 rfl) ?_
            refine lv_iload_n hx hb dX6_lots_51 rfl (lv_at hl 1 rfl) ?_
            refine lv_icmp_ge (tgt := 171) hx hb dX6_lots_52 (by decide) (fun c30 => ?_) (fun c30 => ?_)
            · have hf := dq_t hf c30
              clear c30
              refine lv_iload_n hx hb dX6_lots_171 rfl (lv_at hl 2 rfl) ?_
              refine lv_if_ne (tgt := 180) hx hb dX6_lots_172 (by decide) (fun c31 => ?_) (fun c31 => ?_)
              · have hf := dq_f hf c31
                clear c31
                refine lv_iload hx hb dX6_lots_180 (lv_at hl 5 rfl) ?_
                obtain ⟨rfl, rfl, rfl, rfl, rfl, rfl, rfl, rfl, rfl, rfl, rfl, rfl, rfl, rfl, rfl, rfl, rfl, rfl, rfl⟩ := dq_r19 hf
                exact ct_iret hx hb hr hlocks hAe hP hK hD hS dX6_lots_182
              · have hf := dq_t hf c31
                clear c31
                refine lv_iload hx hb dX6_lots_175 (lv_at hl 4 rfl) ?_
                refine lv_goto (tgt := 182) hx hb dX6_lots_177 (by decide) ?_
                obtain ⟨rfl, rfl, rfl, rfl, rfl, rfl, rfl, rfl, rfl, rfl, rfl, rfl, rfl, rfl, rfl, rfl, rfl, rfl, rfl⟩ := dq_r19 hf
                exact ct_iret hx hb hr hlocks hAe hP hK hD hS dX6_lots_182
            · have hf := dq_f hf c30
              clear c30
              refine lv_aload_n hx hb dX6_lots_55 rfl (lv_at hl 0 rfl) ?_
              refine va_get (D := D) (ci := 5) (v := .ref (a 12)) (C := RX6) (T := TX6) (N := 12) hx hb hts hiX6 hown hK hP 0 rfl rfl 1 (by decide) hw1 (fun _ h9 => h9) rfl dX6_lots_56 ?_
              refine lv_aload_n hx hb dX6_lots_59 rfl (lv_at hl 0 rfl) ?_
              refine va_get (D := D) (ci := 5) (v := .ref (a 1)) (C := RX6) (T := TX6) (N := 12) hx hb hts hiX6 hown hK hP 0 rfl rfl 0 (by decide) hw2 (fun _ h9 => h9) rfl dX6_lots_60 ?_
              obtain ⟨g_m_shutBits_32, g_m_airs_33, g_m_crownedBits_34, g_m_sitters_35, g_m_onBits_36, g_m_turn_37, g_m_taken_38, g_m_warmth_39, g_m_kind_40, g_m_figure_41, g_m_airCell_42, g_m_way_43, g_m_seat_44, g_m_shawls_45, g_m_count_46, g_m_steps_47, g_m_numbers_48, hy49, hf⟩ := dq_b17 hf
              refine ct_callV (ci := 1) (q0 := 0) (own := RX6) (As := [.ref (a 1)]) (rest := []) (ws' := (w_X6_lots y a g_hasImage g_toldCount g_n_shutBits g_n_airs g_n_crownedBits g_n_sitters g_n_onBits g_n_turn g_n_taken g_n_warmth g_n_kind g_n_figure g_n_airCell g_n_way g_n_seat g_n_shawls g_n_count g_n_steps g_n_numbers g_m_shutBits_32 g_m_airs_33 g_m_crownedBits_34 g_m_sitters_35 g_m_onBits_36 g_m_turn_37 g_m_taken_38 g_m_warmth_39 g_m_kind_40 g_m_figure_41 g_m_airCell_42 g_m_way_43 g_m_seat_44 g_m_shawls_45 g_m_count_46 g_m_steps_47 g_m_numbers_48 g_refused)) ⟨hx, hb, hml, hown, hts⟩ (m_X2_take l D y (fun k => a (12 + k)) (fun k => a (1 + k)) g_m_shutBits_13 g_m_airs_14 g_m_crownedBits_15 g_m_sitters_16 g_m_onBits_17 g_m_turn_18 g_m_taken_19 g_m_warmth_20 g_m_kind_21 g_m_figure_22 g_m_airCell_23 g_m_way_24 g_m_seat_25 g_m_shawls_26 g_m_count_27 g_m_steps_28 g_m_numbers_29 g_n_shutBits g_n_airs g_n_crownedBits g_n_sitters g_n_onBits g_n_turn g_n_taken g_n_warmth g_n_kind g_n_figure g_n_airCell g_n_way g_n_seat g_n_shawls g_n_count g_n_steps g_n_numbers g_m_shutBits_32 g_m_airs_33 g_m_crownedBits_34 g_m_sitters_35 g_m_onBits_36 g_m_turn_37 g_m_taken_38 g_m_warmth_39 g_m_kind_40 g_m_figure_41 g_m_airCell_42 g_m_way_43 g_m_seat_44 g_m_shawls_45 g_m_count_46 g_m_steps_47 g_m_numbers_48 hy49) (cwV 1 hts gX6_lots_X2_take rfl rfl rfl (by decide +kernel) ⟨Nat.le_of_ble_eq_true rfl, Nat.le_of_ble_eq_true rfl⟩) rfl rfl rfl hl.1 rfl (Nat.le_of_ble_eq_true rfl) dX6_lots_63 ⟨Nat.zero_le _, Nat.zero_le _⟩ hK hP hD hS hA [12, 13, 14, 15, 16, 17, 18, 19, 20, 21, 22, 1, 2, 3, 4, 5, 6, 7, 8, 9, 10, 11] [0, 23] rfl rfl rfl (by decide) (by decide) 24 rfl (by decide +kernel) (fun H locs hP hD hS => ?_)
              refine lv_iconst (v := 0) hx hb dX6_lots_66 (by decide) ?_
              refine lv_istore (lv' := [(9, .int (0 : Int32)), (0, .ref (a 0)), (1, .int n0), (3, .int n2), (5, .int x9), (6, .int x10), (7, .int x11), (8, .int x12)]) hx hb dX6_lots_67 hl (by decide) rfl (fun ls hl => ?_)
              have J69 : ∀ (m69 : Nat) (x50 : Int32) (x51 : Int32) (g_m_way_52 : (Nat → Int32)), f_X6_lots_b69 g_n_taken x10 x11 x12 g_m_shutBits_32 g_m_airs_33 g_m_crownedBits_34 g_m_sitters_35 g_m_onBits_36 g_m_turn_37 g_m_taken_38 g_m_warmth_39 g_m_kind_40 g_m_figure_41 g_m_airCell_42 g_m_seat_44 g_m_shawls_45 g_m_count_46 g_m_steps_47 g_m_numbers_48 (f_X6_lots_b49 n0 n2 g_n_shutBits g_n_airs g_n_crownedBits g_n_sitters g_n_onBits g_n_turn g_n_taken g_n_warmth g_n_kind g_n_figure g_n_airCell g_n_way g_n_seat g_n_shawls g_n_count g_n_steps g_n_numbers g_refused m49) m69 x50 x51 g_m_way_52 = some (z0, z1, z2, z3, z4, z5, z6, z7, z8, z9, z10, z11, z12, z13, z14, z15, z16, z17, z18) → ∀ (H : Heap) (locs : List Loc), va_P D vwCl (w_X6_lots y a g_hasImage g_toldCount g_n_shutBits g_n_airs g_n_crownedBits g_n_sitters g_n_onBits g_n_turn g_n_taken g_n_warmth g_n_kind g_n_figure g_n_airCell g_n_way g_n_seat g_n_shawls g_n_count g_n_steps g_n_numbers g_m_shutBits_32 g_m_airs_33 g_m_crownedBits_34 g_m_sitters_35 g_m_onBits_36 g_m_turn_37 g_m_taken_38 g_m_warmth_39 g_m_kind_40 g_m_figure_41 g_m_airCell_42 g_m_way_52 g_m_seat_44 g_m_shawls_45 g_m_count_46 g_m_steps_47 g_m_numbers_48 g_refused) H → va_D A (w_X6_lots y a g_hasImage g_toldCount g_n_shutBits g_n_airs g_n_crownedBits g_n_sitters g_n_onBits g_n_turn g_n_taken g_n_warmth g_n_kind g_n_figure g_n_airCell g_n_way g_n_seat g_n_shawls g_n_count g_n_steps g_n_numbers g_m_shutBits_32 g_m_airs_33 g_m_crownedBits_34 g_m_sitters_35 g_m_onBits_36 g_m_turn_37 g_m_taken_38 g_m_warmth_39 g_m_kind_40 g_m_figure_41 g_m_airCell_42 g_m_way_52 g_m_seat_44 g_m_shawls_45 g_m_count_46 g_m_steps_47 g_m_numbers_48 g_refused) → va_S A s.heap H locs → ∀ ls : Array Slot, lv_has ls 10 [(0, .ref (a 0)), (1, .int n0), (3, .int n2), (5, .int x50), (6, .int x10), (7, .int x11), (8, .int x12), (9, .int x51)] → W p l e ({ frames := 5, cells := 0, slots := 0, locals := 118 } : Room) s m [.ref (a 0), .int n0, .int n1, .int n2].toArray below meth c H locs 0 0 (MQ below (dQ D y (some (.int z0)) s.heap.size (w_X6_lots y a g_hasImage g_toldCount g_n_shutBits g_n_airs g_n_crownedBits g_n_sitters g_n_onBits g_n_turn g_n_taken g_n_warmth g_n_kind g_n_figure g_n_airCell g_n_way g_n_seat g_n_shawls g_n_count g_n_steps g_n_numbers g_m_shutBits g_m_airs g_m_crownedBits g_m_sitters g_m_onBits g_m_turn g_m_taken g_m_warmth g_m_kind g_m_figure g_m_airCell g_m_way g_m_seat g_m_shawls g_m_count g_m_steps g_m_numbers g_refused) (w_X6_lots y a g_hasImage g_toldCount g_n_shutBits g_n_airs g_n_crownedBits g_n_sitters g_n_onBits g_n_turn g_n_taken g_n_warmth g_n_kind g_n_figure g_n_airCell g_n_way g_n_seat g_n_shawls g_n_count g_n_steps g_n_numbers z1 z2 z3 z4 z5 z6 z7 z8 z9 z10 z11 z12 z13 z14 z15 z16 z17 z18)) [.ref (a 0), .int n0, .int n1, .int n2].toArray s 0 0 A) (F0 m 69 ls []) := by
                intro m69
                induction m69 with
                | zero => intro x50 x51 g_m_way_52 hf; exact absurd hf (by unfold f_X6_lots_b69; exact fun h => by cases h)
                | succ m69 I69 =>
                  intro x50 x51 g_m_way_52 hf H locs hP hD hS ls hl
                  unfold f_X6_lots_b69 at hf
                  refine lv_iload hx hb dX6_lots_69 (lv_at hl 7 rfl) ?_
                  refine lv_aload_n hx hb dX6_lots_71 rfl (lv_at hl 0 rfl) ?_
                  refine va_get (D := D) (ci := 5) (v := .ref (a 12)) (C := RX6) (T := TX6) (N := 12) hx hb hts hiX6 hown hK hP 0 rfl rfl 1 (by decide) hw1 (fun _ h9 => h9) rfl dX6_lots_72 ?_
                  refine va_get (D := D) (ci := 1) (v := .int g_m_airs_33) (C := RX2) (T := TX2) (N := 15) hx hb hts hiX2 hown hK hP 12 rfl rfl 2 (by decide) hw3 (fun _ h9 => h9) rfl dX6_lots_75 ?_
                  refine lv_icmp_ge (tgt := 121) hx hb dX6_lots_78 (by decide) (fun c53 => ?_) (fun c53 => ?_)
                  · have hf := dq_t hf c53
                    clear c53
                    refine lv_aload_n hx hb dX6_lots_121 rfl (lv_at hl 0 rfl) ?_
                    refine va_get (D := D) (ci := 5) (v := .ref (a 12)) (C := RX6) (T := TX6) (N := 12) hx hb hts hiX6 hown hK hP 0 rfl rfl 1 (by decide) hw1 (fun _ h9 => h9) rfl dX6_lots_122 ?_
                    refine lv_bipush (v := 10) hx hb dX6_lots_125 (by decide) ?_
                    obtain ⟨g_m_crownedBits_54, g_m_onBits_55, g_m_turn_56, g_m_taken_57, g_m_warmth_58, g_m_airCell_59, g_m_way_60, g_m_shawls_61, hy62, hf⟩ := dq_b8 hf
                    refine ct_callV (ci := 1) (q0 := 0) (own := RX6) (As := [.int (10 : Int32)]) (rest := []) (ws' := (w_X6_lots y a g_hasImage g_toldCount g_n_shutBits g_n_airs g_n_crownedBits g_n_sitters g_n_onBits g_n_turn g_n_taken g_n_warmth g_n_kind g_n_figure g_n_airCell g_n_way g_n_seat g_n_shawls g_n_count g_n_steps g_n_numbers g_m_shutBits_32 g_m_airs_33 g_m_crownedBits_54 g_m_sitters_35 g_m_onBits_55 g_m_turn_56 g_m_taken_57 g_m_warmth_58 g_m_kind_40 g_m_figure_41 g_m_airCell_59 g_m_way_60 g_m_seat_44 g_m_shawls_61 g_m_count_46 g_m_steps_47 g_m_numbers_48 g_refused)) ⟨hx, hb, hml, hown, hts⟩ (m_X2_goOn l D y (fun k => a (12 + k)) g_m_shutBits_32 g_m_airs_33 g_m_crownedBits_34 g_m_sitters_35 g_m_onBits_36 g_m_turn_37 g_m_taken_38 g_m_warmth_39 g_m_kind_40 g_m_figure_41 g_m_airCell_42 g_m_way_52 g_m_seat_44 g_m_shawls_45 g_m_count_46 g_m_steps_47 g_m_numbers_48 (10 : Int32) g_m_crownedBits_54 g_m_onBits_55 g_m_turn_56 g_m_taken_57 g_m_warmth_58 g_m_airCell_59 g_m_way_60 g_m_shawls_61 hy62) (cwV 1 hts gX6_lots_X2_goOn rfl rfl rfl (by decide +kernel) ⟨Nat.le_of_ble_eq_true rfl, Nat.le_of_ble_eq_true rfl⟩) rfl rfl rfl hl.1 rfl (Nat.le_of_ble_eq_true rfl) dX6_lots_127 ⟨Nat.zero_le _, Nat.zero_le _⟩ hK hP hD hS hA [12, 13, 14, 15, 16, 17, 18, 19, 20, 21, 22] [0, 1, 2, 3, 4, 5, 6, 7, 8, 9, 10, 11, 23] rfl rfl rfl (by decide) (by decide) 24 rfl (by decide +kernel) (fun H locs hP hD hS => ?_)
                    refine lv_iload hx hb dX6_lots_130 (lv_at hl 4 rfl) ?_
                    refine lv_aload_n hx hb dX6_lots_132 rfl (lv_at hl 0 rfl) ?_
                    refine va_get (D := D) (ci := 5) (v := .ref (a 12)) (C := RX6) (T := TX6) (N := 12) hx hb hts hiX6 hown hK hP 0 rfl rfl 1 (by decide) hw1 (fun _ h9 => h9) rfl dX6_lots_133 ?_
                    refine va_get (D := D) (ci := 1) (v := .int g_m_taken_57) (C := RX2) (T := TX2) (N := 15) hx hb hts hiX2 hown hK hP 12 rfl rfl 13 (by decide) hw8 (fun _ h9 => h9) rfl dX6_lots_136 ?_
                    refine lv_aload_n hx hb dX6_lots_139 rfl (lv_at hl 0 rfl) ?_
                    refine va_get (D := D) (ci := 5) (v := .ref (a 1)) (C := RX6) (T := TX6) (N := 12) hx hb hts hiX6 hown hK hP 0 rfl rfl 0 (by decide) hw2 (fun _ h9 => h9) rfl dX6_lots_140 ?_
                    refine va_get (D := D) (ci := 1) (v := .int g_n_taken) (C := RX2) (T := TX2) (N := 15) hx hb hts hiX2 hown hK hP 1 rfl rfl 13 (by decide) hw8 (fun _ h9 => h9) rfl dX6_lots_143 ?_
                    refine lv_isub hx hb dX6_lots_146 ?_
                    refine lv_iadd hx hb dX6_lots_147 ?_
                    refine lv_topi (fun x63 ex63 => ?_)
                    have hf := dq_l hf x63 ex63
                    clear ex63
                    refine lv_istore (lv' := [(6, .int x63), (0, .ref (a 0)), (1, .int n0), (3, .int n2), (5, .int x50), (7, .int x11), (8, .int x12), (9, .int x51)]) hx hb dX6_lots_148 hl (by decide) rfl (fun ls hl => ?_)
                    refine lv_iload hx hb dX6_lots_150 (lv_at hl 5 rfl) ?_
                    refine lv_aload_n hx hb dX6_lots_152 rfl (lv_at hl 1 rfl) ?_
                    refine va_get (D := D) (ci := 5) (v := .ref (a 12)) (C := RX6) (T := TX6) (N := 12) hx hb hts hiX6 hown hK hP 0 rfl rfl 1 (by decide) hw1 (fun _ h9 => h9) rfl dX6_lots_153 ?_
                    refine va_get (D := D) (ci := 1) (v := .int g_m_onBits_55) (C := RX2) (T := TX2) (N := 15) hx hb hts hiX2 hown hK hP 12 rfl rfl 11 (by decide) hw9 (fun _ h9 => h9) rfl dX6_lots_156 ?_
                    obtain ⟨x64, hy65, hf⟩ := dq_b hf
                    refine ct_callS0 (own := RX6) (As := [.int g_m_onBits_55]) (rest := [.int x11]) ⟨hx, hb, hml, hown, hts⟩ (m_J6_bitCount_0f7a4 l D y g_m_onBits_55 x64 hy65) (va_cwS 1 hts gX6_lots_J6_bitCount_0f7a4 rfl rfl rfl (by decide +kernel) ⟨Nat.le_of_ble_eq_true rfl, Nat.le_of_ble_eq_true rfl⟩) rfl hl.1 rfl (Nat.le_of_ble_eq_true rfl) dX6_lots_159 ⟨Nat.zero_le _, Nat.zero_le _⟩ hK hP hD hS hA (fun H locs hP hD hS => ?_)
                    refine lv_iadd hx hb dX6_lots_162 ?_
                    refine lv_topi (fun x66 ex66 => ?_)
                    have hf := dq_l hf x66 ex66
                    clear ex66
                    refine lv_istore (lv' := [(7, .int x66), (6, .int x63), (0, .ref (a 0)), (1, .int n0), (3, .int n2), (5, .int x50), (8, .int x12), (9, .int x51)]) hx hb dX6_lots_163 hl (by decide) rfl (fun ls hl => ?_)
                    obtain ⟨x67, ex67⟩ : ∃ z : Int32, z = (x12 + (1 : Int32)) := ⟨_, rfl⟩
                    have hf := dq_l hf x67 ex67
                    refine lv_iinc (v := x67) (lv' := [(8, .int x67), (7, .int x66), (6, .int x63), (0, .ref (a 0)), (1, .int n0), (3, .int n2), (5, .int x50), (9, .int x51)]) hx hb dX6_lots_165 hl (k := 6) rfl (by rw [ex67]; rfl) (by decide) rfl (fun ls hl => ?_)
                    clear ex67
                    refine lv_goto (tgt := 49) hx hb dX6_lots_168 (by decide) ?_
                    exact I49 _ _ _ _ _ _ _ _ _ _ _ _ _ _ _ _ _ _ _ _ _ hf _ _ hP hD hS _ (lv_sub hl [3, 4, 5, 6, 2, 1, 0] rfl)
                  · have hf := dq_f hf c53
                    clear c53
                    refine lv_iload hx hb dX6_lots_81 (lv_at hl 3 rfl) ?_
                    refine lv_ldcw hx hb hown hw4 dX6_lots_83 ?_
                    refine lv_imul hx hb dX6_lots_86 ?_
                    refine lv_sipush (v := 12345) hx hb dX6_lots_87 (by decide) ?_
                    refine lv_iadd hx hb dX6_lots_90 ?_
                    refine lv_topi (fun x68 ex68 => ?_)
                    have hf := dq_l hf x68 ex68
                    clear ex68
                    refine lv_istore (lv' := [(5, .int x68), (0, .ref (a 0)), (1, .int n0), (3, .int n2), (6, .int x10), (7, .int x11), (8, .int x12), (9, .int x51)]) hx hb dX6_lots_91 hl (by decide) rfl (fun ls hl => ?_)
                    refine lv_aload_n hx hb dX6_lots_93 rfl (lv_at hl 1 rfl) ?_
                    refine va_get (D := D) (ci := 5) (v := .ref (a 12)) (C := RX6) (T := TX6) (N := 12) hx hb hts hiX6 hown hK hP 0 rfl rfl 1 (by decide) hw1 (fun _ h9 => h9) rfl dX6_lots_94 ?_
                    refine va_get (D := D) (ci := 1) (v := .ref (a 17)) (C := RX2) (T := TX2) (N := 15) hx hb hts hiX2 hown hK hP 12 rfl rfl 6 (by decide) hw5 (fun _ h9 => h9) rfl dX6_lots_97 ?_
                    refine lv_iload hx hb dX6_lots_100 (lv_at hl 7 rfl) ?_
                    refine lv_iload hx hb dX6_lots_102 (lv_at hl 0 rfl) ?_
                    refine lv_ldcw hx hb hown hw6 dX6_lots_104 ?_
                    refine lv_iand hx hb dX6_lots_107 ?_
                    refine lv_ldcw hx hb hown hw7 dX6_lots_108 ?_
                    refine lv_idiv hx hb dX6_lots_111 (by decide) ?_
                    refine lv_iconst (v := 4) hx hb dX6_lots_112 (by decide) ?_
                    refine lv_irem hx hb dX6_lots_113 (by decide) ?_
                    obtain ⟨h69, hf⟩ := dq_g hf
                    refine dq_iast (cA := y 1) (n := 5) (f := g_m_way_52) hx hb hK hP hD hS 17 1 rfl rfl h69 dX6_lots_114 (fun g_m_way_70 eg_m_way_70 H locs hP hD hS => ?_)
                    have hf := dq_l hf g_m_way_70 eg_m_way_70
                    clear eg_m_way_70
                    have hP : va_P D vwCl (w_X6_lots y a g_hasImage g_toldCount g_n_shutBits g_n_airs g_n_crownedBits g_n_sitters g_n_onBits g_n_turn g_n_taken g_n_warmth g_n_kind g_n_figure g_n_airCell g_n_way g_n_seat g_n_shawls g_n_count g_n_steps g_n_numbers g_m_shutBits_32 g_m_airs_33 g_m_crownedBits_34 g_m_sitters_35 g_m_onBits_36 g_m_turn_37 g_m_taken_38 g_m_warmth_39 g_m_kind_40 g_m_figure_41 g_m_airCell_42 g_m_way_70 g_m_seat_44 g_m_shawls_45 g_m_count_46 g_m_steps_47 g_m_numbers_48 g_refused) H := hP
                    have hD : va_D A (w_X6_lots y a g_hasImage g_toldCount g_n_shutBits g_n_airs g_n_crownedBits g_n_sitters g_n_onBits g_n_turn g_n_taken g_n_warmth g_n_kind g_n_figure g_n_airCell g_n_way g_n_seat g_n_shawls g_n_count g_n_steps g_n_numbers g_m_shutBits_32 g_m_airs_33 g_m_crownedBits_34 g_m_sitters_35 g_m_onBits_36 g_m_turn_37 g_m_taken_38 g_m_warmth_39 g_m_kind_40 g_m_figure_41 g_m_airCell_42 g_m_way_70 g_m_seat_44 g_m_shawls_45 g_m_count_46 g_m_steps_47 g_m_numbers_48 g_refused) := hD
                    obtain ⟨x71, ex71⟩ : ∃ z : Int32, z = (x51 + (1 : Int32)) := ⟨_, rfl⟩
                    have hf := dq_l hf x71 ex71
                    refine lv_iinc (v := x71) (lv' := [(9, .int x71), (5, .int x68), (0, .ref (a 0)), (1, .int n0), (3, .int n2), (6, .int x10), (7, .int x11), (8, .int x12)]) hx hb dX6_lots_115 hl (k := 7) rfl (by rw [ex71]; rfl) (by decide) rfl (fun ls hl => ?_)
                    clear ex71
                    refine lv_goto (tgt := 69) hx hb dX6_lots_118 (by decide) ?_
                    exact I69 _ _ _ hf _ _ hP hD hS _ (lv_sub hl [2, 3, 4, 1, 5, 6, 7, 0] rfl)
              exact J69 4096 _ _ _ hf _ _ hP hD hS _ (lv_sub hl [1, 2, 3, 4, 5, 6, 7, 0] rfl)
        exact J49 4096 _ _ _ _ _ _ _ _ _ _ _ _ _ _ _ _ _ _ _ _ _ hf _ _ hP hD hS _ (lv_sub hl [5, 6, 8, 3, 2, 1, 0] rfl)
      · have hf := dq_f hf c8
        clear c8
        refine lv_aload_n hx hb dX6_lots_30 rfl (lv_at hl 1 rfl) ?_
        refine lv_bipush (v := -2) hx hb dX6_lots_31 (by decide) ?_
        obtain ⟨x72, g_refused_73, hy74, hf⟩ := dq_b2 hf
        refine ct_callV (ci := 5) (q0 := 0) (own := RX6) (As := [.int (-2 : Int32)]) (rest := []) (ws' := (w_X6_lots y a g_hasImage g_toldCount g_n_shutBits g_n_airs g_n_crownedBits g_n_sitters g_n_onBits g_n_turn g_n_taken g_n_warmth g_n_kind g_n_figure g_n_airCell g_n_way g_n_seat g_n_shawls g_n_count g_n_steps g_n_numbers g_m_shutBits g_m_airs g_m_crownedBits g_m_sitters g_m_onBits g_m_turn g_m_taken g_m_warmth g_m_kind g_m_figure g_m_airCell g_m_way g_m_seat g_m_shawls g_m_count g_m_steps g_m_numbers g_refused_73)) ⟨hx, hb, hml, hown, hts⟩ (m_X6_refuse l D y a g_hasImage g_toldCount g_refused (-2 : Int32) x72 g_refused_73 hy74) (cwV 1 hts gX6_lots_X6_refuse rfl rfl rfl (by decide +kernel) ⟨Nat.le_of_ble_eq_true rfl, Nat.le_of_ble_eq_true rfl⟩) rfl rfl rfl hl.1 rfl (Nat.le_of_ble_eq_true rfl) dX6_lots_33 ⟨Nat.zero_le _, Nat.zero_le _⟩ hK hP hD hS hA [0, 23] [1, 2, 3, 4, 5, 6, 7, 8, 9, 10, 11, 12, 13, 14, 15, 16, 17, 18, 19, 20, 21, 22] rfl rfl rfl (by decide) (by decide) 24 rfl (by decide +kernel) (fun H locs hP hD hS => ?_)
        obtain ⟨rfl, rfl, rfl, rfl, rfl, rfl, rfl, rfl, rfl, rfl, rfl, rfl, rfl, rfl, rfl, rfl, rfl, rfl, rfl⟩ := dq_r19 hf
        exact ct_iret hx hb hr hlocks hAe hP hK hD hS dX6_lots_36
  · have hf := dq_f hf c3
    clear c3
    refine lv_aload_n hx hb dX6_lots_14 rfl (lv_at hl 1 rfl) ?_
    refine lv_iload hx hb dX6_lots_15 (lv_at hl 0 rfl) ?_
    obtain ⟨x75, g_refused_76, hy77, hf⟩ := dq_b2 hf
    refine ct_callV (ci := 5) (q0 := 0) (own := RX6) (As := [.int x1]) (rest := []) (ws' := (w_X6_lots y a g_hasImage g_toldCount g_n_shutBits g_n_airs g_n_crownedBits g_n_sitters g_n_onBits g_n_turn g_n_taken g_n_warmth g_n_kind g_n_figure g_n_airCell g_n_way g_n_seat g_n_shawls g_n_count g_n_steps g_n_numbers g_m_shutBits g_m_airs g_m_crownedBits g_m_sitters g_m_onBits g_m_turn g_m_taken g_m_warmth g_m_kind g_m_figure g_m_airCell g_m_way g_m_seat g_m_shawls g_m_count g_m_steps g_m_numbers g_refused_76)) ⟨hx, hb, hml, hown, hts⟩ (m_X6_refuse l D y a g_hasImage g_toldCount g_refused x1 x75 g_refused_76 hy77) (cwV 1 hts gX6_lots_X6_refuse rfl rfl rfl (by decide +kernel) ⟨Nat.le_of_ble_eq_true rfl, Nat.le_of_ble_eq_true rfl⟩) rfl rfl rfl hl.1 rfl (Nat.le_of_ble_eq_true rfl) dX6_lots_17 ⟨Nat.zero_le _, Nat.zero_le _⟩ hK hP hD hS hA [0, 23] [1, 2, 3, 4, 5, 6, 7, 8, 9, 10, 11, 12, 13, 14, 15, 16, 17, 18, 19, 20, 21, 22] rfl rfl rfl (by decide) (by decide) 24 rfl (by decide +kernel) (fun H locs hP hD hS => ?_)
    obtain ⟨rfl, rfl, rfl, rfl, rfl, rfl, rfl, rfl, rfl, rfl, rfl, rfl, rfl, rfl, rfl, rfl, rfl, rfl, rfl⟩ := dq_r19 hf
    exact ct_iret hx hb hr hlocks hAe hP hK hD hS dX6_lots_20
def w_X6_image (y : Nat → ClassId) (a : Nat → Nat) (g_hasImage : Int32) (g_toldCount : Int32) (g_n_shutBits : Int64) (g_n_airs : Int32) (g_n_crownedBits : Int32) (g_n_sitters : Int32) (g_n_onBits : Int32) (g_n_turn : Int32) (g_n_taken : Int32) (g_n_warmth : (Nat → UInt32)) (g_n_kind : (Nat → Int32)) (g_n_figure : (Nat → Int32)) (g_n_airCell : (Nat → Int32)) (g_n_way : (Nat → Int32)) (g_n_seat : (Nat → Int32)) (g_n_shawls : (Nat → Int32)) (g_n_count : Int32) (g_n_steps : (Nat → Int32)) (g_n_numbers : (Nat → Int32)) (g_i_shutBits : Int64) (g_i_airs : Int32) (g_i_crownedBits : Int32) (g_i_sitters : Int32) (g_i_onBits : Int32) (g_i_turn : Int32) (g_i_taken : Int32) (g_i_warmth : (Nat → UInt32)) (g_i_kind : (Nat → Int32)) (g_i_figure : (Nat → Int32)) (g_i_airCell : (Nat → Int32)) (g_i_way : (Nat → Int32)) (g_i_seat : (Nat → Int32)) (g_i_shawls : (Nat → Int32)) (g_i_count : Int32) (g_i_steps : (Nat → Int32)) (g_i_numbers : (Nat → Int32)) : va_W := [((a 0), .inr (5, [.ref (a 1), .ref (a 12), .ref (a 23), .int g_hasImage, .ref (a 34), .ref (a 124), .ref (a 126), .ref (a 134), .int g_toldCount, .ref (a 135), .ref (a 136), .ref (a 137)])), ((a 1), .inr (1, [.ref (a 2), .long g_n_shutBits, .int g_n_airs, .ref (a 3), .ref (a 4), .ref (a 5), .ref (a 6), .int g_n_crownedBits, .int g_n_sitters, .ref (a 7), .ref (a 8), .int g_n_onBits, .int g_n_turn, .int g_n_taken, .ref (a 9)])), ((a 2), .inl (y 0, 36, .inr (.inr (.inl g_n_warmth)))), ((a 3), .inl (y 1, 5, .inl g_n_kind)), ((a 4), .inl (y 1, 5, .inl g_n_figure)), ((a 5), .inl (y 1, 5, .inl g_n_airCell)), ((a 6), .inl (y 1, 5, .inl g_n_way)), ((a 7), .inl (y 1, 6, .inl g_n_seat)), ((a 8), .inl (y 1, 6, .inl g_n_shawls)), ((a 9), .inr (0, [.ref (a 10), .ref (a 11), .int g_n_count])), ((a 10), .inl (y 1, 6, .inl g_n_steps)), ((a 11), .inl (y 1, 6, .inl g_n_numbers)), ((a 23), .inr (1, [.ref (a 24), .long g_i_shutBits, .int g_i_airs, .ref (a 25), .ref (a 26), .ref (a 27), .ref (a 28), .int g_i_crownedBits, .int g_i_sitters, .ref (a 29), .ref (a 30), .int g_i_onBits, .int g_i_turn, .int g_i_taken, .ref (a 31)])), ((a 24), .inl (y 0, 36, .inr (.inr (.inl g_i_warmth)))), ((a 25), .inl (y 1, 5, .inl g_i_kind)), ((a 26), .inl (y 1, 5, .inl g_i_figure)), ((a 27), .inl (y 1, 5, .inl g_i_airCell)), ((a 28), .inl (y 1, 5, .inl g_i_way)), ((a 29), .inl (y 1, 6, .inl g_i_seat)), ((a 30), .inl (y 1, 6, .inl g_i_shawls)), ((a 31), .inr (0, [.ref (a 32), .ref (a 33), .int g_i_count])), ((a 32), .inl (y 1, 6, .inl g_i_steps)), ((a 33), .inl (y 1, 6, .inl g_i_numbers))]
noncomputable def f_X6_image (g_n_shutBits : Int64) (g_n_airs : Int32) (g_n_crownedBits : Int32) (g_n_sitters : Int32) (g_n_onBits : Int32) (g_n_turn : Int32) (g_n_taken : Int32) (g_n_warmth : (Nat → UInt32)) (g_n_kind : (Nat → Int32)) (g_n_figure : (Nat → Int32)) (g_n_airCell : (Nat → Int32)) (g_n_way : (Nat → Int32)) (g_n_seat : (Nat → Int32)) (g_n_shawls : (Nat → Int32)) (g_n_count : Int32) (g_n_steps : (Nat → Int32)) (g_n_numbers : (Nat → Int32)) (g_i_warmth : (Nat → UInt32)) (g_i_kind : (Nat → Int32)) (g_i_figure : (Nat → Int32)) (g_i_airCell : (Nat → Int32)) (g_i_way : (Nat → Int32)) (g_i_seat : (Nat → Int32)) (g_i_shawls : (Nat → Int32)) (g_i_steps : (Nat → Int32)) (g_i_numbers : (Nat → Int32)) : Option (Int32 × Int32 × Int64 × Int32 × Int32 × Int32 × Int32 × Int32 × Int32 × (Nat → UInt32) × (Nat → Int32) × (Nat → Int32) × (Nat → Int32) × (Nat → Int32) × (Nat → Int32) × (Nat → Int32) × Int32 × (Nat → Int32) × (Nat → Int32)) := dq_bd17 (f_X2_take g_i_warmth g_i_kind g_i_figure g_i_airCell g_i_way g_i_seat g_i_shawls g_i_steps g_i_numbers g_n_shutBits g_n_airs g_n_crownedBits g_n_sitters g_n_onBits g_n_turn g_n_taken g_n_warmth g_n_kind g_n_figure g_n_airCell g_n_way g_n_seat g_n_shawls g_n_count g_n_steps g_n_numbers) (fun (g_i_shutBits_1 : Int64) (g_i_airs_2 : Int32) (g_i_crownedBits_3 : Int32) (g_i_sitters_4 : Int32) (g_i_onBits_5 : Int32) (g_i_turn_6 : Int32) (g_i_taken_7 : Int32) (g_i_warmth_8 : (Nat → UInt32)) (g_i_kind_9 : (Nat → Int32)) (g_i_figure_10 : (Nat → Int32)) (g_i_airCell_11 : (Nat → Int32)) (g_i_way_12 : (Nat → Int32)) (g_i_seat_13 : (Nat → Int32)) (g_i_shawls_14 : (Nat → Int32)) (g_i_count_15 : Int32) (g_i_steps_16 : (Nat → Int32)) (g_i_numbers_17 : (Nat → Int32)) => some (g_n_turn, (1 : Int32), g_i_shutBits_1, g_i_airs_2, g_i_crownedBits_3, g_i_sitters_4, g_i_onBits_5, g_i_turn_6, g_i_taken_7, g_i_warmth_8, g_i_kind_9, g_i_figure_10, g_i_airCell_11, g_i_way_12, g_i_seat_13, g_i_shawls_14, g_i_count_15, g_i_steps_16, g_i_numbers_17))
-- DraughtsTake.image()I
set_option maxHeartbeats 4000000 in
set_option maxRecDepth 100000 in
theorem m_X6_image (l : Launch) (D : va_G) (y : Nat → ClassId) (a : (Nat → Nat)) (g_hasImage : Int32) (g_toldCount : Int32) (g_n_shutBits : Int64) (g_n_airs : Int32) (g_n_crownedBits : Int32) (g_n_sitters : Int32) (g_n_onBits : Int32) (g_n_turn : Int32) (g_n_taken : Int32) (g_n_warmth : (Nat → UInt32)) (g_n_kind : (Nat → Int32)) (g_n_figure : (Nat → Int32)) (g_n_airCell : (Nat → Int32)) (g_n_way : (Nat → Int32)) (g_n_seat : (Nat → Int32)) (g_n_shawls : (Nat → Int32)) (g_n_count : Int32) (g_n_steps : (Nat → Int32)) (g_n_numbers : (Nat → Int32)) (g_i_shutBits : Int64) (g_i_airs : Int32) (g_i_crownedBits : Int32) (g_i_sitters : Int32) (g_i_onBits : Int32) (g_i_turn : Int32) (g_i_taken : Int32) (g_i_warmth : (Nat → UInt32)) (g_i_kind : (Nat → Int32)) (g_i_figure : (Nat → Int32)) (g_i_airCell : (Nat → Int32)) (g_i_way : (Nat → Int32)) (g_i_seat : (Nat → Int32)) (g_i_shawls : (Nat → Int32)) (g_i_count : Int32) (g_i_steps : (Nat → Int32)) (g_i_numbers : (Nat → Int32)) (z0 : Int32) (z1 : Int32) (z2 : Int64) (z3 : Int32) (z4 : Int32) (z5 : Int32) (z6 : Int32) (z7 : Int32) (z8 : Int32) (z9 : (Nat → UInt32)) (z10 : (Nat → Int32)) (z11 : (Nat → Int32)) (z12 : (Nat → Int32)) (z13 : (Nat → Int32)) (z14 : (Nat → Int32)) (z15 : (Nat → Int32)) (z16 : Int32) (z17 : (Nat → Int32)) (z18 : (Nat → Int32)) (hf : f_X6_image g_n_shutBits g_n_airs g_n_crownedBits g_n_sitters g_n_onBits g_n_turn g_n_taken g_n_warmth g_n_kind g_n_figure g_n_airCell g_n_way g_n_seat g_n_shawls g_n_count g_n_steps g_n_numbers g_i_warmth g_i_kind g_i_figure g_i_airCell g_i_way g_i_seat g_i_shawls g_i_steps g_i_numbers = some (z0, z1, z2, z3, z4, z5, z6, z7, z8, z9, z10, z11, z12, z13, z14, z15, z16, z17, z18)) : Ct l D y yX6_image wsX6_image 3 82 [.ref (a 0)] (w_X6_image y a g_hasImage g_toldCount g_n_shutBits g_n_airs g_n_crownedBits g_n_sitters g_n_onBits g_n_turn g_n_taken g_n_warmth g_n_kind g_n_figure g_n_airCell g_n_way g_n_seat g_n_shawls g_n_count g_n_steps g_n_numbers g_i_shutBits g_i_airs g_i_crownedBits g_i_sitters g_i_onBits g_i_turn g_i_taken g_i_warmth g_i_kind g_i_figure g_i_airCell g_i_way g_i_seat g_i_shawls g_i_count g_i_steps g_i_numbers) (w_X6_image y a z1 g_toldCount g_n_shutBits g_n_airs g_n_crownedBits g_n_sitters g_n_onBits g_n_turn g_n_taken g_n_warmth g_n_kind g_n_figure g_n_airCell g_n_way g_n_seat g_n_shawls g_n_count g_n_steps g_n_numbers z2 z3 z4 z5 z6 z7 z8 z9 z10 z11 z12 z13 z14 z15 z16 z17 z18) (some (.int z0)) := by
  refine ct_head (cc := cX6_image) (n := 1) (ret := (some .int)) (by decide) rfl (Nat.le_of_ble_eq_true rfl) ?_
  intro p e s m below meth c A ls hx hb hr hml hown hlocks hts hA hAe hP hK hD hl
  have hS : va_S A s.heap s.heap [] := va_S.rf
  have hl : lv_has ls 1 [(0, .ref (a 0))] := hl
  have hown : s.vm.findClass RX6 = some m.cls := hown
  have hw1 := hts (.fieldLink RX6 19 "DraughtsTake" "imaged" "LDraughtsTake$House;") (List.mem_of_getElem? (i := 1) rfl)
  have hw2 := hts (.fieldLink RX6 10 "DraughtsTake" "now" "LDraughtsTake$House;") (List.mem_of_getElem? (i := 2) rfl)
  have hw3 := hts (.fieldLink RX6 301 "DraughtsTake" "hasImage" "Z") (List.mem_of_getElem? (i := 3) rfl)
  have hw4 := hts (.fieldLink RX6 192 "DraughtsTake$House" "turn" "I") (List.mem_of_getElem? (i := 4) rfl)
  have hiX6 : ∀ w ∈ wsX60, w ∈ wsX6_image := fun w h => List.mem_cons_of_mem _ (List.mem_append_left _ (List.mem_append_left _ (List.mem_append_right _ (h))))
  have hiX2 : ∀ w ∈ wsX20, w ∈ wsX6_image := fun w h => List.mem_cons_of_mem _ (List.mem_append_left _ (List.mem_append_right _ (h)))
  unfold f_X6_image at hf
  refine lv_aload_n hx hb dX6_image_0 rfl (lv_at hl 0 rfl) ?_
  refine va_get (D := D) (ci := 5) (v := .ref (a 23)) (C := RX6) (T := TX6) (N := 12) hx hb hts hiX6 hown hK hP 0 rfl rfl 2 (by decide) hw1 (fun _ h9 => h9) rfl dX6_image_1 ?_
  refine lv_aload_n hx hb dX6_image_4 rfl (lv_at hl 0 rfl) ?_
  refine va_get (D := D) (ci := 5) (v := .ref (a 1)) (C := RX6) (T := TX6) (N := 12) hx hb hts hiX6 hown hK hP 0 rfl rfl 0 (by decide) hw2 (fun _ h9 => h9) rfl dX6_image_5 ?_
  obtain ⟨g_i_shutBits_1, g_i_airs_2, g_i_crownedBits_3, g_i_sitters_4, g_i_onBits_5, g_i_turn_6, g_i_taken_7, g_i_warmth_8, g_i_kind_9, g_i_figure_10, g_i_airCell_11, g_i_way_12, g_i_seat_13, g_i_shawls_14, g_i_count_15, g_i_steps_16, g_i_numbers_17, hy18, hf⟩ := dq_b17 hf
  refine ct_callV (ci := 1) (q0 := 0) (own := RX6) (As := [.ref (a 1)]) (rest := []) (ws' := (w_X6_image y a g_hasImage g_toldCount g_n_shutBits g_n_airs g_n_crownedBits g_n_sitters g_n_onBits g_n_turn g_n_taken g_n_warmth g_n_kind g_n_figure g_n_airCell g_n_way g_n_seat g_n_shawls g_n_count g_n_steps g_n_numbers g_i_shutBits_1 g_i_airs_2 g_i_crownedBits_3 g_i_sitters_4 g_i_onBits_5 g_i_turn_6 g_i_taken_7 g_i_warmth_8 g_i_kind_9 g_i_figure_10 g_i_airCell_11 g_i_way_12 g_i_seat_13 g_i_shawls_14 g_i_count_15 g_i_steps_16 g_i_numbers_17)) ⟨hx, hb, hml, hown, hts⟩ (m_X2_take l D y (fun k => a (23 + k)) (fun k => a (1 + k)) g_i_shutBits g_i_airs g_i_crownedBits g_i_sitters g_i_onBits g_i_turn g_i_taken g_i_warmth g_i_kind g_i_figure g_i_airCell g_i_way g_i_seat g_i_shawls g_i_count g_i_steps g_i_numbers g_n_shutBits g_n_airs g_n_crownedBits g_n_sitters g_n_onBits g_n_turn g_n_taken g_n_warmth g_n_kind g_n_figure g_n_airCell g_n_way g_n_seat g_n_shawls g_n_count g_n_steps g_n_numbers g_i_shutBits_1 g_i_airs_2 g_i_crownedBits_3 g_i_sitters_4 g_i_onBits_5 g_i_turn_6 g_i_taken_7 g_i_warmth_8 g_i_kind_9 g_i_figure_10 g_i_airCell_11 g_i_way_12 g_i_seat_13 g_i_shawls_14 g_i_count_15 g_i_steps_16 g_i_numbers_17 hy18) (cwV 1 hts gX6_image_X2_take rfl rfl rfl (by decide +kernel) ⟨Nat.le_of_ble_eq_true rfl, Nat.le_of_ble_eq_true rfl⟩) rfl rfl rfl hl.1 rfl (Nat.le_of_ble_eq_true rfl) dX6_image_8 ⟨Nat.zero_le _, Nat.zero_le _⟩ hK hP hD hS hA [12, 13, 14, 15, 16, 17, 18, 19, 20, 21, 22, 1, 2, 3, 4, 5, 6, 7, 8, 9, 10, 11] [0] rfl rfl rfl (by decide) (by decide) 23 rfl (by decide +kernel) (fun H locs hP hD hS => ?_)
  refine lv_aload_n hx hb dX6_image_11 rfl (lv_at hl 0 rfl) ?_
  refine lv_iconst (v := 1) hx hb dX6_image_12 (by decide) ?_
  refine va_put (D := D) (ci := 5) (v := .int (1 : Int32)) (ty := .boolean) (C := RX6) (T := TX6) (N := 12) hx hb hts hiX6 tyX6 tyX6_ok nmX6 hown hK hP hD hS 0 rfl rfl 3 (by decide) hw3 (fun _ h9 => h9) rfl (tyX6_ok 3 (by decide)) rfl rfl (Nat.le_of_ble_eq_true rfl) dX6_image_13 (fun H locs hP hD hS => ?_)
  have hP : va_P D vwCl (w_X6_image y a (1 : Int32) g_toldCount g_n_shutBits g_n_airs g_n_crownedBits g_n_sitters g_n_onBits g_n_turn g_n_taken g_n_warmth g_n_kind g_n_figure g_n_airCell g_n_way g_n_seat g_n_shawls g_n_count g_n_steps g_n_numbers g_i_shutBits_1 g_i_airs_2 g_i_crownedBits_3 g_i_sitters_4 g_i_onBits_5 g_i_turn_6 g_i_taken_7 g_i_warmth_8 g_i_kind_9 g_i_figure_10 g_i_airCell_11 g_i_way_12 g_i_seat_13 g_i_shawls_14 g_i_count_15 g_i_steps_16 g_i_numbers_17) H := hP
  have hD : va_D A (w_X6_image y a (1 : Int32) g_toldCount g_n_shutBits g_n_airs g_n_crownedBits g_n_sitters g_n_onBits g_n_turn g_n_taken g_n_warmth g_n_kind g_n_figure g_n_airCell g_n_way g_n_seat g_n_shawls g_n_count g_n_steps g_n_numbers g_i_shutBits_1 g_i_airs_2 g_i_crownedBits_3 g_i_sitters_4 g_i_onBits_5 g_i_turn_6 g_i_taken_7 g_i_warmth_8 g_i_kind_9 g_i_figure_10 g_i_airCell_11 g_i_way_12 g_i_seat_13 g_i_shawls_14 g_i_count_15 g_i_steps_16 g_i_numbers_17) := hD
  refine lv_aload_n hx hb dX6_image_16 rfl (lv_at hl 0 rfl) ?_
  refine va_get (D := D) (ci := 5) (v := .ref (a 1)) (C := RX6) (T := TX6) (N := 12) hx hb hts hiX6 hown hK hP 0 rfl rfl 0 (by decide) hw2 (fun _ h9 => h9) rfl dX6_image_17 ?_
  refine va_get (D := D) (ci := 1) (v := .int g_n_turn) (C := RX2) (T := TX2) (N := 15) hx hb hts hiX2 hown hK hP 1 rfl rfl 12 (by decide) hw4 (fun _ h9 => h9) rfl dX6_image_20 ?_
  obtain ⟨rfl, rfl, rfl, rfl, rfl, rfl, rfl, rfl, rfl, rfl, rfl, rfl, rfl, rfl, rfl, rfl, rfl, rfl, rfl⟩ := dq_r19 hf
  exact ct_iret hx hb hr hlocks hAe hP hK hD hS dX6_image_23
def w_X6_restore (y : Nat → ClassId) (a : Nat → Nat) (g_hasImage : Int32) (g_toldCount : Int32) (g_n_shutBits : Int64) (g_n_airs : Int32) (g_n_crownedBits : Int32) (g_n_sitters : Int32) (g_n_onBits : Int32) (g_n_turn : Int32) (g_n_taken : Int32) (g_n_warmth : (Nat → UInt32)) (g_n_kind : (Nat → Int32)) (g_n_figure : (Nat → Int32)) (g_n_airCell : (Nat → Int32)) (g_n_way : (Nat → Int32)) (g_n_seat : (Nat → Int32)) (g_n_shawls : (Nat → Int32)) (g_n_count : Int32) (g_n_steps : (Nat → Int32)) (g_n_numbers : (Nat → Int32)) (g_i_shutBits : Int64) (g_i_airs : Int32) (g_i_crownedBits : Int32) (g_i_sitters : Int32) (g_i_onBits : Int32) (g_i_turn : Int32) (g_i_taken : Int32) (g_i_warmth : (Nat → UInt32)) (g_i_kind : (Nat → Int32)) (g_i_figure : (Nat → Int32)) (g_i_airCell : (Nat → Int32)) (g_i_way : (Nat → Int32)) (g_i_seat : (Nat → Int32)) (g_i_shawls : (Nat → Int32)) (g_i_count : Int32) (g_i_steps : (Nat → Int32)) (g_i_numbers : (Nat → Int32)) (g_past_next : Int32) (g_past_count : Int32) (g_refused : (Nat → Int32)) : va_W := [((a 0), .inr (5, [.ref (a 1), .ref (a 12), .ref (a 23), .int g_hasImage, .ref (a 34), .ref (a 124), .ref (a 126), .ref (a 134), .int g_toldCount, .ref (a 135), .ref (a 136), .ref (a 137)])), ((a 1), .inr (1, [.ref (a 2), .long g_n_shutBits, .int g_n_airs, .ref (a 3), .ref (a 4), .ref (a 5), .ref (a 6), .int g_n_crownedBits, .int g_n_sitters, .ref (a 7), .ref (a 8), .int g_n_onBits, .int g_n_turn, .int g_n_taken, .ref (a 9)])), ((a 2), .inl (y 0, 36, .inr (.inr (.inl g_n_warmth)))), ((a 3), .inl (y 1, 5, .inl g_n_kind)), ((a 4), .inl (y 1, 5, .inl g_n_figure)), ((a 5), .inl (y 1, 5, .inl g_n_airCell)), ((a 6), .inl (y 1, 5, .inl g_n_way)), ((a 7), .inl (y 1, 6, .inl g_n_seat)), ((a 8), .inl (y 1, 6, .inl g_n_shawls)), ((a 9), .inr (0, [.ref (a 10), .ref (a 11), .int g_n_count])), ((a 10), .inl (y 1, 6, .inl g_n_steps)), ((a 11), .inl (y 1, 6, .inl g_n_numbers)), ((a 23), .inr (1, [.ref (a 24), .long g_i_shutBits, .int g_i_airs, .ref (a 25), .ref (a 26), .ref (a 27), .ref (a 28), .int g_i_crownedBits, .int g_i_sitters, .ref (a 29), .ref (a 30), .int g_i_onBits, .int g_i_turn, .int g_i_taken, .ref (a 31)])), ((a 24), .inl (y 0, 36, .inr (.inr (.inl g_i_warmth)))), ((a 25), .inl (y 1, 5, .inl g_i_kind)), ((a 26), .inl (y 1, 5, .inl g_i_figure)), ((a 27), .inl (y 1, 5, .inl g_i_airCell)), ((a 28), .inl (y 1, 5, .inl g_i_way)), ((a 29), .inl (y 1, 6, .inl g_i_seat)), ((a 30), .inl (y 1, 6, .inl g_i_shawls)), ((a 31), .inr (0, [.ref (a 32), .ref (a 33), .int g_i_count])), ((a 32), .inl (y 1, 6, .inl g_i_steps)), ((a 33), .inl (y 1, 6, .inl g_i_numbers)), ((a 34), .inr (2, [.ref (a 35), .int g_past_next, .int g_past_count])), ((a 135), .inl (y 1, 7, .inl g_refused))]
noncomputable def f_X6_restore (g_hasImage : Int32) (g_n_shutBits : Int64) (g_n_airs : Int32) (g_n_crownedBits : Int32) (g_n_sitters : Int32) (g_n_onBits : Int32) (g_n_turn : Int32) (g_n_taken : Int32) (g_n_warmth : (Nat → UInt32)) (g_n_kind : (Nat → Int32)) (g_n_figure : (Nat → Int32)) (g_n_airCell : (Nat → Int32)) (g_n_way : (Nat → Int32)) (g_n_seat : (Nat → Int32)) (g_n_shawls : (Nat → Int32)) (g_n_count : Int32) (g_n_steps : (Nat → Int32)) (g_n_numbers : (Nat → Int32)) (g_i_shutBits : Int64) (g_i_airs : Int32) (g_i_crownedBits : Int32) (g_i_sitters : Int32) (g_i_onBits : Int32) (g_i_turn : Int32) (g_i_taken : Int32) (g_i_warmth : (Nat → UInt32)) (g_i_kind : (Nat → Int32)) (g_i_figure : (Nat → Int32)) (g_i_airCell : (Nat → Int32)) (g_i_way : (Nat → Int32)) (g_i_seat : (Nat → Int32)) (g_i_shawls : (Nat → Int32)) (g_i_count : Int32) (g_i_steps : (Nat → Int32)) (g_i_numbers : (Nat → Int32)) (g_past_count : Int32) (g_refused : (Nat → Int32)) : Option (Int32 × Int64 × Int32 × Int32 × Int32 × Int32 × Int32 × Int32 × (Nat → UInt32) × (Nat → Int32) × (Nat → Int32) × (Nat → Int32) × (Nat → Int32) × (Nat → Int32) × (Nat → Int32) × Int32 × (Nat → Int32) × (Nat → Int32) × Int32 × (Nat → Int32)) := dq_if (g_hasImage = 0) (dq_bd2 (f_X6_refuse g_refused (-3 : Int32)) (fun (x22 : Int32) (g_refused_23 : (Nat → Int32)) => some (x22, g_n_shutBits, g_n_airs, g_n_crownedBits, g_n_sitters, g_n_onBits, g_n_turn, g_n_taken, g_n_warmth, g_n_kind, g_n_figure, g_n_airCell, g_n_way, g_n_seat, g_n_shawls, g_n_count, g_n_steps, g_n_numbers, g_past_count, g_refused_23))) (dq_bd17 (f_X2_take g_n_warmth g_n_kind g_n_figure g_n_airCell g_n_way g_n_seat g_n_shawls g_n_steps g_n_numbers g_i_shutBits g_i_airs g_i_crownedBits g_i_sitters g_i_onBits g_i_turn g_i_taken g_i_warmth g_i_kind g_i_figure g_i_airCell g_i_way g_i_seat g_i_shawls g_i_count g_i_steps g_i_numbers) (fun (g_n_shutBits_2 : Int64) (g_n_airs_3 : Int32) (g_n_crownedBits_4 : Int32) (g_n_sitters_5 : Int32) (g_n_onBits_6 : Int32) (g_n_turn_7 : Int32) (g_n_taken_8 : Int32) (g_n_warmth_9 : (Nat → UInt32)) (g_n_kind_10 : (Nat → Int32)) (g_n_figure_11 : (Nat → Int32)) (g_n_airCell_12 : (Nat → Int32)) (g_n_way_13 : (Nat → Int32)) (g_n_seat_14 : (Nat → Int32)) (g_n_shawls_15 : (Nat → Int32)) (g_n_count_16 : Int32) (g_n_steps_17 : (Nat → Int32)) (g_n_numbers_18 : (Nat → Int32)) => dq_bd (f_X3_forget) (fun (g_past_count_20 : Int32) => some (g_n_turn_7, g_n_shutBits_2, g_n_airs_3, g_n_crownedBits_4, g_n_sitters_5, g_n_onBits_6, g_n_turn_7, g_n_taken_8, g_n_warmth_9, g_n_kind_10, g_n_figure_11, g_n_airCell_12, g_n_way_13, g_n_seat_14, g_n_shawls_15, g_n_count_16, g_n_steps_17, g_n_numbers_18, g_past_count_20, g_refused))))
-- DraughtsTake.restore()I
set_option maxHeartbeats 4000000 in
set_option maxRecDepth 100000 in
theorem m_X6_restore (l : Launch) (D : va_G) (y : Nat → ClassId) (a : (Nat → Nat)) (g_hasImage : Int32) (g_toldCount : Int32) (g_n_shutBits : Int64) (g_n_airs : Int32) (g_n_crownedBits : Int32) (g_n_sitters : Int32) (g_n_onBits : Int32) (g_n_turn : Int32) (g_n_taken : Int32) (g_n_warmth : (Nat → UInt32)) (g_n_kind : (Nat → Int32)) (g_n_figure : (Nat → Int32)) (g_n_airCell : (Nat → Int32)) (g_n_way : (Nat → Int32)) (g_n_seat : (Nat → Int32)) (g_n_shawls : (Nat → Int32)) (g_n_count : Int32) (g_n_steps : (Nat → Int32)) (g_n_numbers : (Nat → Int32)) (g_i_shutBits : Int64) (g_i_airs : Int32) (g_i_crownedBits : Int32) (g_i_sitters : Int32) (g_i_onBits : Int32) (g_i_turn : Int32) (g_i_taken : Int32) (g_i_warmth : (Nat → UInt32)) (g_i_kind : (Nat → Int32)) (g_i_figure : (Nat → Int32)) (g_i_airCell : (Nat → Int32)) (g_i_way : (Nat → Int32)) (g_i_seat : (Nat → Int32)) (g_i_shawls : (Nat → Int32)) (g_i_count : Int32) (g_i_steps : (Nat → Int32)) (g_i_numbers : (Nat → Int32)) (g_past_next : Int32) (g_past_count : Int32) (g_refused : (Nat → Int32)) (z0 : Int32) (z1 : Int64) (z2 : Int32) (z3 : Int32) (z4 : Int32) (z5 : Int32) (z6 : Int32) (z7 : Int32) (z8 : (Nat → UInt32)) (z9 : (Nat → Int32)) (z10 : (Nat → Int32)) (z11 : (Nat → Int32)) (z12 : (Nat → Int32)) (z13 : (Nat → Int32)) (z14 : (Nat → Int32)) (z15 : Int32) (z16 : (Nat → Int32)) (z17 : (Nat → Int32)) (z18 : Int32) (z19 : (Nat → Int32)) (hf : f_X6_restore g_hasImage g_n_shutBits g_n_airs g_n_crownedBits g_n_sitters g_n_onBits g_n_turn g_n_taken g_n_warmth g_n_kind g_n_figure g_n_airCell g_n_way g_n_seat g_n_shawls g_n_count g_n_steps g_n_numbers g_i_shutBits g_i_airs g_i_crownedBits g_i_sitters g_i_onBits g_i_turn g_i_taken g_i_warmth g_i_kind g_i_figure g_i_airCell g_i_way g_i_seat g_i_shawls g_i_count g_i_steps g_i_numbers g_past_count g_refused = some (z0, z1, z2, z3, z4, z5, z6, z7, z8, z9, z10, z11, z12, z13, z14, z15, z16, z17, z18, z19)) : Ct l D y yX6_restore wsX6_restore 3 82 [.ref (a 0)] (w_X6_restore y a g_hasImage g_toldCount g_n_shutBits g_n_airs g_n_crownedBits g_n_sitters g_n_onBits g_n_turn g_n_taken g_n_warmth g_n_kind g_n_figure g_n_airCell g_n_way g_n_seat g_n_shawls g_n_count g_n_steps g_n_numbers g_i_shutBits g_i_airs g_i_crownedBits g_i_sitters g_i_onBits g_i_turn g_i_taken g_i_warmth g_i_kind g_i_figure g_i_airCell g_i_way g_i_seat g_i_shawls g_i_count g_i_steps g_i_numbers g_past_next g_past_count g_refused) (w_X6_restore y a g_hasImage g_toldCount z1 z2 z3 z4 z5 z6 z7 z8 z9 z10 z11 z12 z13 z14 z15 z16 z17 g_i_shutBits g_i_airs g_i_crownedBits g_i_sitters g_i_onBits g_i_turn g_i_taken g_i_warmth g_i_kind g_i_figure g_i_airCell g_i_way g_i_seat g_i_shawls g_i_count g_i_steps g_i_numbers g_past_next z18 z19) (some (.int z0)) := by
  refine ct_head (cc := cX6_restore) (n := 1) (ret := (some .int)) (by decide) rfl (Nat.le_of_ble_eq_true rfl) ?_
  intro p e s m below meth c A ls hx hb hr hml hown hlocks hts hA hAe hP hK hD hl
  have hS : va_S A s.heap s.heap [] := va_S.rf
  have hl : lv_has ls 1 [(0, .ref (a 0))] := hl
  have hown : s.vm.findClass RX6 = some m.cls := hown
  have hw1 := hts (.fieldLink RX6 301 "DraughtsTake" "hasImage" "Z") (List.mem_of_getElem? (i := 1) rfl)
  have hw2 := hts (.fieldLink RX6 10 "DraughtsTake" "now" "LDraughtsTake$House;") (List.mem_of_getElem? (i := 2) rfl)
  have hw3 := hts (.fieldLink RX6 19 "DraughtsTake" "imaged" "LDraughtsTake$House;") (List.mem_of_getElem? (i := 3) rfl)
  have hw4 := hts (.fieldLink RX6 25 "DraughtsTake" "past" "LDraughtsTake$Past;") (List.mem_of_getElem? (i := 4) rfl)
  have hw5 := hts (.fieldLink RX6 192 "DraughtsTake$House" "turn" "I") (List.mem_of_getElem? (i := 5) rfl)
  have hiX6 : ∀ w ∈ wsX60, w ∈ wsX6_restore := fun w h => List.mem_cons_of_mem _ (List.mem_append_left _ (List.mem_append_left _ (List.mem_append_left _ (List.mem_append_right _ (h)))))
  have hiX2 : ∀ w ∈ wsX20, w ∈ wsX6_restore := fun w h => List.mem_cons_of_mem _ (List.mem_append_left _ (List.mem_append_left _ (List.mem_append_right _ (h))))
  unfold f_X6_restore at hf
  refine lv_aload_n hx hb dX6_restore_0 rfl (lv_at hl 0 rfl) ?_
  refine va_get (D := D) (ci := 5) (v := .int g_hasImage) (C := RX6) (T := TX6) (N := 12) hx hb hts hiX6 hown hK hP 0 rfl rfl 3 (by decide) hw1 (fun _ h9 => h9) rfl dX6_restore_1 ?_
  refine lv_if_ne (tgt := 14) hx hb dX6_restore_4 (by decide) (fun c1 => ?_) (fun c1 => ?_)
  · have hf := dq_f hf c1
    clear c1
    refine lv_aload_n hx hb dX6_restore_14 rfl (lv_at hl 0 rfl) ?_
    refine va_get (D := D) (ci := 5) (v := .ref (a 1)) (C := RX6) (T := TX6) (N := 12) hx hb hts hiX6 hown hK hP 0 rfl rfl 0 (by decide) hw2 (fun _ h9 => h9) rfl dX6_restore_15 ?_
    refine lv_aload_n hx hb dX6_restore_18 rfl (lv_at hl 0 rfl) ?_
    refine va_get (D := D) (ci := 5) (v := .ref (a 23)) (C := RX6) (T := TX6) (N := 12) hx hb hts hiX6 hown hK hP 0 rfl rfl 2 (by decide) hw3 (fun _ h9 => h9) rfl dX6_restore_19 ?_
    obtain ⟨g_n_shutBits_2, g_n_airs_3, g_n_crownedBits_4, g_n_sitters_5, g_n_onBits_6, g_n_turn_7, g_n_taken_8, g_n_warmth_9, g_n_kind_10, g_n_figure_11, g_n_airCell_12, g_n_way_13, g_n_seat_14, g_n_shawls_15, g_n_count_16, g_n_steps_17, g_n_numbers_18, hy19, hf⟩ := dq_b17 hf
    refine ct_callV (ci := 1) (q0 := 0) (own := RX6) (As := [.ref (a 23)]) (rest := []) (ws' := (w_X6_restore y a g_hasImage g_toldCount g_n_shutBits_2 g_n_airs_3 g_n_crownedBits_4 g_n_sitters_5 g_n_onBits_6 g_n_turn_7 g_n_taken_8 g_n_warmth_9 g_n_kind_10 g_n_figure_11 g_n_airCell_12 g_n_way_13 g_n_seat_14 g_n_shawls_15 g_n_count_16 g_n_steps_17 g_n_numbers_18 g_i_shutBits g_i_airs g_i_crownedBits g_i_sitters g_i_onBits g_i_turn g_i_taken g_i_warmth g_i_kind g_i_figure g_i_airCell g_i_way g_i_seat g_i_shawls g_i_count g_i_steps g_i_numbers g_past_next g_past_count g_refused)) ⟨hx, hb, hml, hown, hts⟩ (m_X2_take l D y (fun k => a (1 + k)) (fun k => a (23 + k)) g_n_shutBits g_n_airs g_n_crownedBits g_n_sitters g_n_onBits g_n_turn g_n_taken g_n_warmth g_n_kind g_n_figure g_n_airCell g_n_way g_n_seat g_n_shawls g_n_count g_n_steps g_n_numbers g_i_shutBits g_i_airs g_i_crownedBits g_i_sitters g_i_onBits g_i_turn g_i_taken g_i_warmth g_i_kind g_i_figure g_i_airCell g_i_way g_i_seat g_i_shawls g_i_count g_i_steps g_i_numbers g_n_shutBits_2 g_n_airs_3 g_n_crownedBits_4 g_n_sitters_5 g_n_onBits_6 g_n_turn_7 g_n_taken_8 g_n_warmth_9 g_n_kind_10 g_n_figure_11 g_n_airCell_12 g_n_way_13 g_n_seat_14 g_n_shawls_15 g_n_count_16 g_n_steps_17 g_n_numbers_18 hy19) (cwV 1 hts gX6_restore_X2_take rfl rfl rfl (by decide +kernel) ⟨Nat.le_of_ble_eq_true rfl, Nat.le_of_ble_eq_true rfl⟩) rfl rfl rfl hl.1 rfl (Nat.le_of_ble_eq_true rfl) dX6_restore_22 ⟨Nat.zero_le _, Nat.zero_le _⟩ hK hP hD hS hA [1, 2, 3, 4, 5, 6, 7, 8, 9, 10, 11, 12, 13, 14, 15, 16, 17, 18, 19, 20, 21, 22] [0, 23, 24] rfl rfl rfl (by decide) (by decide) 25 rfl (by decide +kernel) (fun H locs hP hD hS => ?_)
    refine lv_aload_n hx hb dX6_restore_25 rfl (lv_at hl 0 rfl) ?_
    refine va_get (D := D) (ci := 5) (v := .ref (a 34)) (C := RX6) (T := TX6) (N := 12) hx hb hts hiX6 hown hK hP 0 rfl rfl 4 (by decide) hw4 (fun _ h9 => h9) rfl dX6_restore_26 ?_
    obtain ⟨g_past_count_20, hy21, hf⟩ := dq_b hf
    refine ct_callV (ci := 2) (q0 := 0) (own := RX6) (As := []) (rest := []) (ws' := (w_X6_restore y a g_hasImage g_toldCount g_n_shutBits_2 g_n_airs_3 g_n_crownedBits_4 g_n_sitters_5 g_n_onBits_6 g_n_turn_7 g_n_taken_8 g_n_warmth_9 g_n_kind_10 g_n_figure_11 g_n_airCell_12 g_n_way_13 g_n_seat_14 g_n_shawls_15 g_n_count_16 g_n_steps_17 g_n_numbers_18 g_i_shutBits g_i_airs g_i_crownedBits g_i_sitters g_i_onBits g_i_turn g_i_taken g_i_warmth g_i_kind g_i_figure g_i_airCell g_i_way g_i_seat g_i_shawls g_i_count g_i_steps g_i_numbers g_past_next g_past_count_20 g_refused)) ⟨hx, hb, hml, hown, hts⟩ (m_X3_forget l D y (fun k => a (34 + k)) g_past_next g_past_count g_past_count_20 hy21) (cwV 0 hts gX6_restore_X3_forget rfl rfl rfl (by decide +kernel) ⟨Nat.le_of_ble_eq_true rfl, Nat.le_of_ble_eq_true rfl⟩) rfl rfl rfl hl.1 rfl (Nat.le_of_ble_eq_true rfl) dX6_restore_29 ⟨Nat.zero_le _, Nat.zero_le _⟩ hK hP hD hS hA [23] [0, 1, 2, 3, 4, 5, 6, 7, 8, 9, 10, 11, 12, 13, 14, 15, 16, 17, 18, 19, 20, 21, 22, 24] rfl rfl rfl (by decide) (by decide) 25 rfl (by decide +kernel) (fun H locs hP hD hS => ?_)
    refine lv_aload_n hx hb dX6_restore_32 rfl (lv_at hl 0 rfl) ?_
    refine va_get (D := D) (ci := 5) (v := .ref (a 1)) (C := RX6) (T := TX6) (N := 12) hx hb hts hiX6 hown hK hP 0 rfl rfl 0 (by decide) hw2 (fun _ h9 => h9) rfl dX6_restore_33 ?_
    refine va_get (D := D) (ci := 1) (v := .int g_n_turn_7) (C := RX2) (T := TX2) (N := 15) hx hb hts hiX2 hown hK hP 1 rfl rfl 12 (by decide) hw5 (fun _ h9 => h9) rfl dX6_restore_36 ?_
    obtain ⟨rfl, rfl, rfl, rfl, rfl, rfl, rfl, rfl, rfl, rfl, rfl, rfl, rfl, rfl, rfl, rfl, rfl, rfl, rfl, rfl⟩ := dq_r20 hf
    exact ct_iret hx hb hr hlocks hAe hP hK hD hS dX6_restore_39
  · have hf := dq_t hf c1
    clear c1
    refine lv_aload_n hx hb dX6_restore_7 rfl (lv_at hl 0 rfl) ?_
    refine lv_bipush (v := -3) hx hb dX6_restore_8 (by decide) ?_
    obtain ⟨x22, g_refused_23, hy24, hf⟩ := dq_b2 hf
    refine ct_callV (ci := 5) (q0 := 0) (own := RX6) (As := [.int (-3 : Int32)]) (rest := []) (ws' := (w_X6_restore y a g_hasImage g_toldCount g_n_shutBits g_n_airs g_n_crownedBits g_n_sitters g_n_onBits g_n_turn g_n_taken g_n_warmth g_n_kind g_n_figure g_n_airCell g_n_way g_n_seat g_n_shawls g_n_count g_n_steps g_n_numbers g_i_shutBits g_i_airs g_i_crownedBits g_i_sitters g_i_onBits g_i_turn g_i_taken g_i_warmth g_i_kind g_i_figure g_i_airCell g_i_way g_i_seat g_i_shawls g_i_count g_i_steps g_i_numbers g_past_next g_past_count g_refused_23)) ⟨hx, hb, hml, hown, hts⟩ (m_X6_refuse l D y a g_hasImage g_toldCount g_refused (-3 : Int32) x22 g_refused_23 hy24) (cwV 1 hts gX6_restore_X6_refuse rfl rfl rfl (by decide +kernel) ⟨Nat.le_of_ble_eq_true rfl, Nat.le_of_ble_eq_true rfl⟩) rfl rfl rfl hl.1 rfl (Nat.le_of_ble_eq_true rfl) dX6_restore_10 ⟨Nat.zero_le _, Nat.zero_le _⟩ hK hP hD hS hA [0, 24] [1, 2, 3, 4, 5, 6, 7, 8, 9, 10, 11, 12, 13, 14, 15, 16, 17, 18, 19, 20, 21, 22, 23] rfl rfl rfl (by decide) (by decide) 25 rfl (by decide +kernel) (fun H locs hP hD hS => ?_)
    obtain ⟨rfl, rfl, rfl, rfl, rfl, rfl, rfl, rfl, rfl, rfl, rfl, rfl, rfl, rfl, rfl, rfl, rfl, rfl, rfl, rfl⟩ := dq_r20 hf
    exact ct_iret hx hb hr hlocks hAe hP hK hD hS dX6_restore_13
def w_X6_count (y : Nat → ClassId) (a : Nat → Nat) (g_hasImage : Int32) (g_toldCount : Int32) (g_n_shutBits : Int64) (g_n_airs : Int32) (g_n_crownedBits : Int32) (g_n_sitters : Int32) (g_n_onBits : Int32) (g_n_turn : Int32) (g_n_taken : Int32) (g_n_warmth : (Nat → UInt32)) (g_n_kind : (Nat → Int32)) (g_n_figure : (Nat → Int32)) (g_n_airCell : (Nat → Int32)) (g_n_way : (Nat → Int32)) (g_n_seat : (Nat → Int32)) (g_n_shawls : (Nat → Int32)) (g_n_count : Int32) (g_n_steps : (Nat → Int32)) (g_n_numbers : (Nat → Int32)) (g_past_next : Int32) (g_past_count : Int32) (g_text_length : Int32) (g_text_letters : (Nat → Int32)) (g_refused : (Nat → Int32)) : va_W := [((a 0), .inr (5, [.ref (a 1), .ref (a 12), .ref (a 23), .int g_hasImage, .ref (a 34), .ref (a 124), .ref (a 126), .ref (a 134), .int g_toldCount, .ref (a 135), .ref (a 136), .ref (a 137)])), ((a 1), .inr (1, [.ref (a 2), .long g_n_shutBits, .int g_n_airs, .ref (a 3), .ref (a 4), .ref (a 5), .ref (a 6), .int g_n_crownedBits, .int g_n_sitters, .ref (a 7), .ref (a 8), .int g_n_onBits, .int g_n_turn, .int g_n_taken, .ref (a 9)])), ((a 2), .inl (y 0, 36, .inr (.inr (.inl g_n_warmth)))), ((a 3), .inl (y 1, 5, .inl g_n_kind)), ((a 4), .inl (y 1, 5, .inl g_n_figure)), ((a 5), .inl (y 1, 5, .inl g_n_airCell)), ((a 6), .inl (y 1, 5, .inl g_n_way)), ((a 7), .inl (y 1, 6, .inl g_n_seat)), ((a 8), .inl (y 1, 6, .inl g_n_shawls)), ((a 9), .inr (0, [.ref (a 10), .ref (a 11), .int g_n_count])), ((a 10), .inl (y 1, 6, .inl g_n_steps)), ((a 11), .inl (y 1, 6, .inl g_n_numbers)), ((a 34), .inr (2, [.ref (a 35), .int g_past_next, .int g_past_count])), ((a 124), .inr (4, [.ref (a 125), .int g_text_length])), ((a 125), .inl (y 1, 96, .inl g_text_letters)), ((a 135), .inl (y 1, 7, .inl g_refused))]
noncomputable def f_X6_count_b22 (n0 : Int32) (g_toldCount : Int32) (g_n_shutBits : Int64) (g_n_airs : Int32) (g_n_sitters : Int32) (g_n_onBits : Int32) (g_n_turn : Int32) (g_n_taken : Int32) (g_n_count : Int32) (g_past_count : Int32) (g_text_length : Int32)   : Option Int32 := dq_if (n0 = 0) (some g_n_airs) (dq_if (n0 = 1) (some g_n_sitters) (dq_if (n0 = 2) (some g_n_turn) (dq_if (n0 = 3) (some g_n_taken) (dq_if (n0 = 4) (some g_n_onBits) (dq_if (n0 = 5) (some g_n_count) (dq_if (n0 = 6) (dq_bd (f_J13_bitCount_95d88 g_n_shutBits) (fun (x8 : Int32) => some x8)) (dq_if (n0 = 7) (some g_text_length) (dq_if (n0 = 8) (some g_toldCount) (dq_if (n0 = 9) (some g_past_count) (some (-9 : Int32)))))))))))
noncomputable def f_X6_count (g_toldCount : Int32) (g_n_shutBits : Int64) (g_n_airs : Int32) (g_n_sitters : Int32) (g_n_onBits : Int32) (g_n_turn : Int32) (g_n_taken : Int32) (g_n_count : Int32) (g_past_count : Int32) (g_text_length : Int32) (g_refused : (Nat → Int32)) (n0 : Int32) : Option Int32 := dq_if (n0 < (11 : Int32)) (f_X6_count_b22 n0 g_toldCount g_n_shutBits g_n_airs g_n_sitters g_n_onBits g_n_turn g_n_taken g_n_count g_past_count g_text_length) (dq_if ((16 : Int32) < n0) (f_X6_count_b22 n0 g_toldCount g_n_shutBits g_n_airs g_n_sitters g_n_onBits g_n_turn g_n_taken g_n_count g_past_count g_text_length) (dq_gd (vp_in (n0 - (10 : Int32)) 7) (some (g_refused (n0 - (10 : Int32)).toNatClampNeg))))
-- DraughtsTake.count(I)I
set_option maxHeartbeats 4000000 in
set_option maxRecDepth 100000 in
theorem m_X6_count (l : Launch) (D : va_G) (y : Nat → ClassId) (a : (Nat → Nat)) (g_hasImage : Int32) (g_toldCount : Int32) (g_n_shutBits : Int64) (g_n_airs : Int32) (g_n_crownedBits : Int32) (g_n_sitters : Int32) (g_n_onBits : Int32) (g_n_turn : Int32) (g_n_taken : Int32) (g_n_warmth : (Nat → UInt32)) (g_n_kind : (Nat → Int32)) (g_n_figure : (Nat → Int32)) (g_n_airCell : (Nat → Int32)) (g_n_way : (Nat → Int32)) (g_n_seat : (Nat → Int32)) (g_n_shawls : (Nat → Int32)) (g_n_count : Int32) (g_n_steps : (Nat → Int32)) (g_n_numbers : (Nat → Int32)) (g_past_next : Int32) (g_past_count : Int32) (g_text_length : Int32) (g_text_letters : (Nat → Int32)) (g_refused : (Nat → Int32)) (n0 : Int32) (z0 : Int32) (hf : f_X6_count g_toldCount g_n_shutBits g_n_airs g_n_sitters g_n_onBits g_n_turn g_n_taken g_n_count g_past_count g_text_length g_refused n0 = some z0) : Ct l D y yX6_count wsX6_count 1 21 [.ref (a 0), .int n0] (w_X6_count y a g_hasImage g_toldCount g_n_shutBits g_n_airs g_n_crownedBits g_n_sitters g_n_onBits g_n_turn g_n_taken g_n_warmth g_n_kind g_n_figure g_n_airCell g_n_way g_n_seat g_n_shawls g_n_count g_n_steps g_n_numbers g_past_next g_past_count g_text_length g_text_letters g_refused) (w_X6_count y a g_hasImage g_toldCount g_n_shutBits g_n_airs g_n_crownedBits g_n_sitters g_n_onBits g_n_turn g_n_taken g_n_warmth g_n_kind g_n_figure g_n_airCell g_n_way g_n_seat g_n_shawls g_n_count g_n_steps g_n_numbers g_past_next g_past_count g_text_length g_text_letters g_refused) (some (.int z0)) := by
  refine ct_head (cc := cX6_count) (n := 2) (ret := (some .int)) (by decide) rfl (Nat.le_of_ble_eq_true rfl) ?_
  intro p e s m below meth c A ls hx hb hr hml hown hlocks hts hA hAe hP hK hD hl
  have hS : va_S A s.heap s.heap [] := va_S.rf
  have hl : lv_has ls 2 [(0, .ref (a 0)), (1, .int n0)] := hl
  have hown : s.vm.findClass RX6 = some m.cls := hown
  have hw1 := hts (.fieldLink RX6 47 "DraughtsTake" "refused" "[I") (List.mem_of_getElem? (i := 1) rfl)
  have hw2 := hts (.fieldLink RX6 10 "DraughtsTake" "now" "LDraughtsTake$House;") (List.mem_of_getElem? (i := 2) rfl)
  have hw3 := hts (.fieldLink RX6 148 "DraughtsTake$House" "airs" "I") (List.mem_of_getElem? (i := 3) rfl)
  have hw4 := hts (.fieldLink RX6 155 "DraughtsTake$House" "sitters" "I") (List.mem_of_getElem? (i := 4) rfl)
  have hw5 := hts (.fieldLink RX6 192 "DraughtsTake$House" "turn" "I") (List.mem_of_getElem? (i := 5) rfl)
  have hw6 := hts (.fieldLink RX6 198 "DraughtsTake$House" "taken" "I") (List.mem_of_getElem? (i := 6) rfl)
  have hw7 := hts (.fieldLink RX6 176 "DraughtsTake$House" "onBits" "I") (List.mem_of_getElem? (i := 7) rfl)
  have hw8 := hts (.fieldLink RX6 179 "DraughtsTake$House" "hearth" "LDraughtsTake$Hearth;") (List.mem_of_getElem? (i := 8) rfl)
  have hw9 := hts (.fieldLink RX6 183 "DraughtsTake$Hearth" "count" "I") (List.mem_of_getElem? (i := 9) rfl)
  have hw10 := hts (.fieldLink RX6 305 "DraughtsTake$House" "shutBits" "J") (List.mem_of_getElem? (i := 10) rfl)
  have hw11 := hts (.fieldLink RX6 32 "DraughtsTake" "text" "LDraughtsTake$Text;") (List.mem_of_getElem? (i := 11) rfl)
  have hw12 := hts (.fieldLink RX6 60 "DraughtsTake$Text" "length" "I") (List.mem_of_getElem? (i := 12) rfl)
  have hw13 := hts (.fieldLink RX6 295 "DraughtsTake" "toldCount" "I") (List.mem_of_getElem? (i := 13) rfl)
  have hw14 := hts (.fieldLink RX6 25 "DraughtsTake" "past" "LDraughtsTake$Past;") (List.mem_of_getElem? (i := 14) rfl)
  have hw15 := hts (.fieldLink RX6 201 "DraughtsTake$Past" "count" "I") (List.mem_of_getElem? (i := 15) rfl)
  have hiX6 : ∀ w ∈ wsX60, w ∈ wsX6_count := fun w h => List.mem_cons_of_mem _ (List.mem_append_left _ (List.mem_append_left _ (List.mem_append_left _ (List.mem_append_left _ (List.mem_append_right _ (h))))))
  have hiX2 : ∀ w ∈ wsX20, w ∈ wsX6_count := fun w h => List.mem_cons_of_mem _ (List.mem_append_left _ (List.mem_append_left _ (List.mem_append_left _ (List.mem_append_right _ (h)))))
  have hiX1 : ∀ w ∈ wsX10, w ∈ wsX6_count := fun w h => List.mem_cons_of_mem _ (List.mem_append_left _ (List.mem_append_left _ (List.mem_append_right _ (h))))
  have hiX5 : ∀ w ∈ wsX50, w ∈ wsX6_count := fun w h => List.mem_cons_of_mem _ (List.mem_append_left _ (List.mem_append_right _ (h)))
  have hiX3 : ∀ w ∈ wsX30, w ∈ wsX6_count := fun w h => List.mem_cons_of_mem _ (List.mem_append_right _ (h))
  unfold f_X6_count at hf
  refine lv_iload_n hx hb dX6_count_0 rfl (lv_at hl 1 rfl) ?_
  refine lv_bipush (v := 11) hx hb dX6_count_1 (by decide) ?_
  have J22 : f_X6_count_b22 n0 g_toldCount g_n_shutBits g_n_airs g_n_sitters g_n_onBits g_n_turn g_n_taken g_n_count g_past_count g_text_length = some z0 → ∀ (H : Heap) (locs : List Loc), va_P D vwCl (w_X6_count y a g_hasImage g_toldCount g_n_shutBits g_n_airs g_n_crownedBits g_n_sitters g_n_onBits g_n_turn g_n_taken g_n_warmth g_n_kind g_n_figure g_n_airCell g_n_way g_n_seat g_n_shawls g_n_count g_n_steps g_n_numbers g_past_next g_past_count g_text_length g_text_letters g_refused) H → va_D A (w_X6_count y a g_hasImage g_toldCount g_n_shutBits g_n_airs g_n_crownedBits g_n_sitters g_n_onBits g_n_turn g_n_taken g_n_warmth g_n_kind g_n_figure g_n_airCell g_n_way g_n_seat g_n_shawls g_n_count g_n_steps g_n_numbers g_past_next g_past_count g_text_length g_text_letters g_refused) → va_S A s.heap H locs → ∀ ls : Array Slot, lv_has ls 2 [(0, .ref (a 0)), (1, .int n0)] → W p l e ({ frames := 1, cells := 0, slots := 0, locals := 21 } : Room) s m [.ref (a 0), .int n0].toArray below meth c H locs 0 0 (MQ below (dQ D y (some (.int z0)) s.heap.size (w_X6_count y a g_hasImage g_toldCount g_n_shutBits g_n_airs g_n_crownedBits g_n_sitters g_n_onBits g_n_turn g_n_taken g_n_warmth g_n_kind g_n_figure g_n_airCell g_n_way g_n_seat g_n_shawls g_n_count g_n_steps g_n_numbers g_past_next g_past_count g_text_length g_text_letters g_refused) (w_X6_count y a g_hasImage g_toldCount g_n_shutBits g_n_airs g_n_crownedBits g_n_sitters g_n_onBits g_n_turn g_n_taken g_n_warmth g_n_kind g_n_figure g_n_airCell g_n_way g_n_seat g_n_shawls g_n_count g_n_steps g_n_numbers g_past_next g_past_count g_text_length g_text_letters g_refused)) [.ref (a 0), .int n0].toArray s 0 0 A) (F0 m 22 ls []) := by
    intro  hf H locs hP hD hS ls hl
    unfold f_X6_count_b22 at hf
    refine lv_iload_n hx hb dX6_count_22 rfl (lv_at hl 1 rfl) ?_
    by_cases c1 : n0 = (0 : Int32)
    · have hf := dq_t hf c1
      refine lv_tableIn (tgt := 76) (off := 53) hx hb dX6_count_23 (by rw [c1]; decide) (by rw [c1]; decide) (by rw [c1]; decide) (by decide) ?_
      clear c1
      refine lv_aload_n hx hb dX6_count_76 rfl (lv_at hl 0 rfl) ?_
      refine va_get (D := D) (ci := 5) (v := .ref (a 1)) (C := RX6) (T := TX6) (N := 12) hx hb hts hiX6 hown hK hP 0 rfl rfl 0 (by decide) hw2 (fun _ h9 => h9) rfl dX6_count_77 ?_
      refine va_get (D := D) (ci := 1) (v := .int g_n_airs) (C := RX2) (T := TX2) (N := 15) hx hb hts hiX2 hown hK hP 1 rfl rfl 2 (by decide) hw3 (fun _ h9 => h9) rfl dX6_count_80 ?_
      obtain rfl := dq_r1 hf
      exact ct_iret hx hb hr hlocks hAe hP hK hD hS dX6_count_83
    have hf := dq_f hf c1
    by_cases c2 : n0 = (1 : Int32)
    · have hf := dq_t hf c2
      refine lv_tableIn (tgt := 84) (off := 61) hx hb dX6_count_23 (by rw [c2]; decide) (by rw [c2]; decide) (by rw [c2]; decide) (by decide) ?_
      clear c1 c2
      refine lv_aload_n hx hb dX6_count_84 rfl (lv_at hl 0 rfl) ?_
      refine va_get (D := D) (ci := 5) (v := .ref (a 1)) (C := RX6) (T := TX6) (N := 12) hx hb hts hiX6 hown hK hP 0 rfl rfl 0 (by decide) hw2 (fun _ h9 => h9) rfl dX6_count_85 ?_
      refine va_get (D := D) (ci := 1) (v := .int g_n_sitters) (C := RX2) (T := TX2) (N := 15) hx hb hts hiX2 hown hK hP 1 rfl rfl 8 (by decide) hw4 (fun _ h9 => h9) rfl dX6_count_88 ?_
      obtain rfl := dq_r1 hf
      exact ct_iret hx hb hr hlocks hAe hP hK hD hS dX6_count_91
    have hf := dq_f hf c2
    by_cases c3 : n0 = (2 : Int32)
    · have hf := dq_t hf c3
      refine lv_tableIn (tgt := 92) (off := 69) hx hb dX6_count_23 (by rw [c3]; decide) (by rw [c3]; decide) (by rw [c3]; decide) (by decide) ?_
      clear c1 c2 c3
      refine lv_aload_n hx hb dX6_count_92 rfl (lv_at hl 0 rfl) ?_
      refine va_get (D := D) (ci := 5) (v := .ref (a 1)) (C := RX6) (T := TX6) (N := 12) hx hb hts hiX6 hown hK hP 0 rfl rfl 0 (by decide) hw2 (fun _ h9 => h9) rfl dX6_count_93 ?_
      refine va_get (D := D) (ci := 1) (v := .int g_n_turn) (C := RX2) (T := TX2) (N := 15) hx hb hts hiX2 hown hK hP 1 rfl rfl 12 (by decide) hw5 (fun _ h9 => h9) rfl dX6_count_96 ?_
      obtain rfl := dq_r1 hf
      exact ct_iret hx hb hr hlocks hAe hP hK hD hS dX6_count_99
    have hf := dq_f hf c3
    by_cases c4 : n0 = (3 : Int32)
    · have hf := dq_t hf c4
      refine lv_tableIn (tgt := 100) (off := 77) hx hb dX6_count_23 (by rw [c4]; decide) (by rw [c4]; decide) (by rw [c4]; decide) (by decide) ?_
      clear c1 c2 c3 c4
      refine lv_aload_n hx hb dX6_count_100 rfl (lv_at hl 0 rfl) ?_
      refine va_get (D := D) (ci := 5) (v := .ref (a 1)) (C := RX6) (T := TX6) (N := 12) hx hb hts hiX6 hown hK hP 0 rfl rfl 0 (by decide) hw2 (fun _ h9 => h9) rfl dX6_count_101 ?_
      refine va_get (D := D) (ci := 1) (v := .int g_n_taken) (C := RX2) (T := TX2) (N := 15) hx hb hts hiX2 hown hK hP 1 rfl rfl 13 (by decide) hw6 (fun _ h9 => h9) rfl dX6_count_104 ?_
      obtain rfl := dq_r1 hf
      exact ct_iret hx hb hr hlocks hAe hP hK hD hS dX6_count_107
    have hf := dq_f hf c4
    by_cases c5 : n0 = (4 : Int32)
    · have hf := dq_t hf c5
      refine lv_tableIn (tgt := 108) (off := 85) hx hb dX6_count_23 (by rw [c5]; decide) (by rw [c5]; decide) (by rw [c5]; decide) (by decide) ?_
      clear c1 c2 c3 c4 c5
      refine lv_aload_n hx hb dX6_count_108 rfl (lv_at hl 0 rfl) ?_
      refine va_get (D := D) (ci := 5) (v := .ref (a 1)) (C := RX6) (T := TX6) (N := 12) hx hb hts hiX6 hown hK hP 0 rfl rfl 0 (by decide) hw2 (fun _ h9 => h9) rfl dX6_count_109 ?_
      refine va_get (D := D) (ci := 1) (v := .int g_n_onBits) (C := RX2) (T := TX2) (N := 15) hx hb hts hiX2 hown hK hP 1 rfl rfl 11 (by decide) hw7 (fun _ h9 => h9) rfl dX6_count_112 ?_
      obtain rfl := dq_r1 hf
      exact ct_iret hx hb hr hlocks hAe hP hK hD hS dX6_count_115
    have hf := dq_f hf c5
    by_cases c6 : n0 = (5 : Int32)
    · have hf := dq_t hf c6
      refine lv_tableIn (tgt := 116) (off := 93) hx hb dX6_count_23 (by rw [c6]; decide) (by rw [c6]; decide) (by rw [c6]; decide) (by decide) ?_
      clear c1 c2 c3 c4 c5 c6
      refine lv_aload_n hx hb dX6_count_116 rfl (lv_at hl 0 rfl) ?_
      refine va_get (D := D) (ci := 5) (v := .ref (a 1)) (C := RX6) (T := TX6) (N := 12) hx hb hts hiX6 hown hK hP 0 rfl rfl 0 (by decide) hw2 (fun _ h9 => h9) rfl dX6_count_117 ?_
      refine va_get (D := D) (ci := 1) (v := .ref (a 9)) (C := RX2) (T := TX2) (N := 15) hx hb hts hiX2 hown hK hP 1 rfl rfl 14 (by decide) hw8 (fun _ h9 => h9) rfl dX6_count_120 ?_
      refine va_get (D := D) (ci := 0) (v := .int g_n_count) (C := RX1) (T := TX1) (N := 3) hx hb hts hiX1 hown hK hP 9 rfl rfl 2 (by decide) hw9 (fun _ h9 => h9) rfl dX6_count_123 ?_
      obtain rfl := dq_r1 hf
      exact ct_iret hx hb hr hlocks hAe hP hK hD hS dX6_count_126
    have hf := dq_f hf c6
    by_cases c7 : n0 = (6 : Int32)
    · have hf := dq_t hf c7
      refine lv_tableIn (tgt := 127) (off := 104) hx hb dX6_count_23 (by rw [c7]; decide) (by rw [c7]; decide) (by rw [c7]; decide) (by decide) ?_
      clear c1 c2 c3 c4 c5 c6 c7
      refine lv_aload_n hx hb dX6_count_127 rfl (lv_at hl 0 rfl) ?_
      refine va_get (D := D) (ci := 5) (v := .ref (a 1)) (C := RX6) (T := TX6) (N := 12) hx hb hts hiX6 hown hK hP 0 rfl rfl 0 (by decide) hw2 (fun _ h9 => h9) rfl dX6_count_128 ?_
      refine va_get (D := D) (ci := 1) (v := .long g_n_shutBits) (C := RX2) (T := TX2) (N := 15) hx hb hts hiX2 hown hK hP 1 rfl rfl 1 (by decide) hw10 (fun _ h9 => h9) rfl dX6_count_131 ?_
      obtain ⟨x8, hy9, hf⟩ := dq_b hf
      refine ct_callS0 (own := RX6) (As := [.long g_n_shutBits]) (rest := []) ⟨hx, hb, hml, hown, hts⟩ (m_J13_bitCount_95d88 l D y g_n_shutBits x8 hy9) (va_cwS 1 hts gX6_count_J13_bitCount_95d88 rfl rfl rfl (by decide +kernel) ⟨Nat.le_of_ble_eq_true rfl, Nat.le_of_ble_eq_true rfl⟩) rfl hl.1 rfl (Nat.le_of_ble_eq_true rfl) dX6_count_134 ⟨Nat.zero_le _, Nat.zero_le _⟩ hK hP hD hS hA (fun H locs hP hD hS => ?_)
      obtain rfl := dq_r1 hf
      exact ct_iret hx hb hr hlocks hAe hP hK hD hS dX6_count_137
    have hf := dq_f hf c7
    by_cases c10 : n0 = (7 : Int32)
    · have hf := dq_t hf c10
      refine lv_tableIn (tgt := 138) (off := 115) hx hb dX6_count_23 (by rw [c10]; decide) (by rw [c10]; decide) (by rw [c10]; decide) (by decide) ?_
      clear c1 c2 c3 c4 c5 c6 c7 c10
      refine lv_aload_n hx hb dX6_count_138 rfl (lv_at hl 0 rfl) ?_
      refine va_get (D := D) (ci := 5) (v := .ref (a 124)) (C := RX6) (T := TX6) (N := 12) hx hb hts hiX6 hown hK hP 0 rfl rfl 5 (by decide) hw11 (fun _ h9 => h9) rfl dX6_count_139 ?_
      refine va_get (D := D) (ci := 4) (v := .int g_text_length) (C := RX5) (T := TX5) (N := 2) hx hb hts hiX5 hown hK hP 13 rfl rfl 1 (by decide) hw12 (fun _ h9 => h9) rfl dX6_count_142 ?_
      obtain rfl := dq_r1 hf
      exact ct_iret hx hb hr hlocks hAe hP hK hD hS dX6_count_145
    have hf := dq_f hf c10
    by_cases c11 : n0 = (8 : Int32)
    · have hf := dq_t hf c11
      refine lv_tableIn (tgt := 146) (off := 123) hx hb dX6_count_23 (by rw [c11]; decide) (by rw [c11]; decide) (by rw [c11]; decide) (by decide) ?_
      clear c1 c2 c3 c4 c5 c6 c7 c10 c11
      refine lv_aload_n hx hb dX6_count_146 rfl (lv_at hl 0 rfl) ?_
      refine va_get (D := D) (ci := 5) (v := .int g_toldCount) (C := RX6) (T := TX6) (N := 12) hx hb hts hiX6 hown hK hP 0 rfl rfl 8 (by decide) hw13 (fun _ h9 => h9) rfl dX6_count_147 ?_
      obtain rfl := dq_r1 hf
      exact ct_iret hx hb hr hlocks hAe hP hK hD hS dX6_count_150
    have hf := dq_f hf c11
    by_cases c12 : n0 = (9 : Int32)
    · have hf := dq_t hf c12
      refine lv_tableIn (tgt := 151) (off := 128) hx hb dX6_count_23 (by rw [c12]; decide) (by rw [c12]; decide) (by rw [c12]; decide) (by decide) ?_
      clear c1 c2 c3 c4 c5 c6 c7 c10 c11 c12
      refine lv_aload_n hx hb dX6_count_151 rfl (lv_at hl 0 rfl) ?_
      refine va_get (D := D) (ci := 5) (v := .ref (a 34)) (C := RX6) (T := TX6) (N := 12) hx hb hts hiX6 hown hK hP 0 rfl rfl 4 (by decide) hw14 (fun _ h9 => h9) rfl dX6_count_152 ?_
      refine va_get (D := D) (ci := 2) (v := .int g_past_count) (C := RX3) (T := TX3) (N := 3) hx hb hts hiX3 hown hK hP 12 rfl rfl 2 (by decide) hw15 (fun _ h9 => h9) rfl dX6_count_155 ?_
      obtain rfl := dq_r1 hf
      exact ct_iret hx hb hr hlocks hAe hP hK hD hS dX6_count_158
    have hf := dq_f hf c12
    have c1 : n0.toInt ≠ 0 := fun q => c1 (Int32.toInt_inj.mp q)
    have c2 : n0.toInt ≠ 1 := fun q => c2 (Int32.toInt_inj.mp q)
    have c3 : n0.toInt ≠ 2 := fun q => c3 (Int32.toInt_inj.mp q)
    have c4 : n0.toInt ≠ 3 := fun q => c4 (Int32.toInt_inj.mp q)
    have c5 : n0.toInt ≠ 4 := fun q => c5 (Int32.toInt_inj.mp q)
    have c6 : n0.toInt ≠ 5 := fun q => c6 (Int32.toInt_inj.mp q)
    have c7 : n0.toInt ≠ 6 := fun q => c7 (Int32.toInt_inj.mp q)
    have c10 : n0.toInt ≠ 7 := fun q => c10 (Int32.toInt_inj.mp q)
    have c11 : n0.toInt ≠ 8 := fun q => c11 (Int32.toInt_inj.mp q)
    have c12 : n0.toInt ≠ 9 := fun q => c12 (Int32.toInt_inj.mp q)
    refine lv_tableOut (tgt := 159) hx hb dX6_count_23 (by omega) (by decide) ?_
    clear c1 c2 c3 c4 c5 c6 c7 c10 c11 c12
    refine lv_bipush (v := -9) hx hb dX6_count_159 (by decide) ?_
    obtain rfl := dq_r1 hf
    exact ct_iret hx hb hr hlocks hAe hP hK hD hS dX6_count_161
  refine lv_icmp_lt (tgt := 22) hx hb dX6_count_3 (by decide) (fun c13 => ?_) (fun c13 => ?_)
  · have hf := dq_t hf c13
    clear c13
    exact J22  hf _ _ hP hD hS _ (lv_sub hl [0, 1] rfl)
  · have hf := dq_f hf c13
    clear c13
    refine lv_iload_n hx hb dX6_count_6 rfl (lv_at hl 1 rfl) ?_
    refine lv_bipush (v := 16) hx hb dX6_count_7 (by decide) ?_
    refine lv_icmp_gt (tgt := 22) hx hb dX6_count_9 (by decide) (fun c14 => ?_) (fun c14 => ?_)
    · have hf := dq_t hf c14
      clear c14
      exact J22  hf _ _ hP hD hS _ (lv_sub hl [0, 1] rfl)
    · have hf := dq_f hf c14
      clear c14
      refine lv_aload_n hx hb dX6_count_12 rfl (lv_at hl 0 rfl) ?_
      refine va_get (D := D) (ci := 5) (v := .ref (a 135)) (C := RX6) (T := TX6) (N := 12) hx hb hts hiX6 hown hK hP 0 rfl rfl 9 (by decide) hw1 (fun _ h9 => h9) rfl dX6_count_13 ?_
      refine lv_iload_n hx hb dX6_count_16 rfl (lv_at hl 1 rfl) ?_
      refine lv_bipush (v := 10) hx hb dX6_count_17 (by decide) ?_
      refine lv_isub hx hb dX6_count_19 ?_
      obtain ⟨h15, hf⟩ := dq_g hf
      refine va_iald (cA := y 1) (n := 7) (f := g_refused) hx hb hK hP 15 1 rfl rfl h15 dX6_count_20 ?_
      obtain rfl := dq_r1 hf
      exact ct_iret hx hb hr hlocks hAe hP hK hD hS dX6_count_21
