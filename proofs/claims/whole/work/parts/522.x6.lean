noncomputable def f_X6_nearest_b40 (n0 : Int32) (n1 : Int32) (g_n_airs : Int32) (g_n_airCell : (Nat → Int32)) (g_n_seat : (Nat → Int32)) (g_refused : (Nat → Int32))  : Nat → Int32 → Int32 → Int32 → Option (Int32 × (Nat → Int32))
  | 0, _, _, _ => none
  | m40 + 1, x9, x10, x11 => dq_if (g_n_airs ≤ x11) (dq_if (n1 = 0) (some (x9, g_refused)) (some (x10, g_refused))) (dq_gd (vp_in n0 6) (dq_gd (vp_in x11 5) (dq_bd (f_X6_distance (g_n_seat n0.toNatClampNeg) (g_n_airCell x11.toNatClampNeg)) (fun (x16 : Int32) => dq_if (x9 = (-9 : Int32)) (dq_let (x11 + (1 : Int32)) (fun (x19 : Int32) => (f_X6_nearest_b40 n0 n1 g_n_airs g_n_airCell g_n_seat g_refused m40) x11 x16 x19)) (dq_if (x10 ≤ x16) (dq_let (x11 + (1 : Int32)) (fun (x21 : Int32) => (f_X6_nearest_b40 n0 n1 g_n_airs g_n_airCell g_n_seat g_refused m40) x9 x10 x21)) (dq_let (x11 + (1 : Int32)) (fun (x22 : Int32) => (f_X6_nearest_b40 n0 n1 g_n_airs g_n_airCell g_n_seat g_refused m40) x11 x16 x22)))))))
noncomputable def f_X6_nearest (g_n_airs : Int32) (g_n_sitters : Int32) (g_n_airCell : (Nat → Int32)) (g_n_seat : (Nat → Int32)) (g_refused : (Nat → Int32)) (n0 : Int32) (n1 : Int32) : Option (Int32 × (Nat → Int32)) := dq_bd (f_X6_isSitter g_n_sitters n0) (fun (x1 : Int32) => dq_if (x1 = 0) (dq_bd2 (f_X6_refuse g_refused (-1 : Int32)) (fun (x26 : Int32) (g_refused_27 : (Nat → Int32)) => some (x26, g_refused_27))) (dq_if (n1 < 0) (dq_bd2 (f_X6_refuse g_refused (-2 : Int32)) (fun (x5 : Int32) (g_refused_6 : (Nat → Int32)) => some (x5, g_refused_6))) (dq_if (n1 ≤ (1 : Int32)) (f_X6_nearest_b40 n0 n1 g_n_airs g_n_airCell g_n_seat g_refused 4096 (-9 : Int32) (-9 : Int32) (0 : Int32)) (dq_bd2 (f_X6_refuse g_refused (-2 : Int32)) (fun (x23 : Int32) (g_refused_24 : (Nat → Int32)) => some (x23, g_refused_24))))))
def wA_X6_nearest : List Cond := .code yX6_nearest cX6_nearest 7 (some .int) :: wsL_law
-- DraughtsTake.nearest(II)I
set_option maxHeartbeats 4000000 in
set_option maxRecDepth 100000 in
theorem m_X6_nearest (l : Launch) (D : va_G) (y : Nat → ClassId) (a : (Nat → Nat)) (g_hasImage : Int32) (g_toldCount : Int32) (g_n_shutBits : Int64) (g_n_airs : Int32) (g_n_crownedBits : Int32) (g_n_sitters : Int32) (g_n_onBits : Int32) (g_n_turn : Int32) (g_n_taken : Int32) (g_n_warmth : (Nat → UInt32)) (g_n_kind : (Nat → Int32)) (g_n_figure : (Nat → Int32)) (g_n_airCell : (Nat → Int32)) (g_n_way : (Nat → Int32)) (g_n_seat : (Nat → Int32)) (g_n_shawls : (Nat → Int32)) (g_n_count : Int32) (g_n_steps : (Nat → Int32)) (g_n_numbers : (Nat → Int32)) (g_m_shutBits : Int64) (g_m_airs : Int32) (g_m_crownedBits : Int32) (g_m_sitters : Int32) (g_m_onBits : Int32) (g_m_turn : Int32) (g_m_taken : Int32) (g_m_warmth : (Nat → UInt32)) (g_m_kind : (Nat → Int32)) (g_m_figure : (Nat → Int32)) (g_m_airCell : (Nat → Int32)) (g_m_way : (Nat → Int32)) (g_m_seat : (Nat → Int32)) (g_m_shawls : (Nat → Int32)) (g_m_count : Int32) (g_m_steps : (Nat → Int32)) (g_m_numbers : (Nat → Int32)) (g_i_shutBits : Int64) (g_i_airs : Int32) (g_i_crownedBits : Int32) (g_i_sitters : Int32) (g_i_onBits : Int32) (g_i_turn : Int32) (g_i_taken : Int32) (g_i_warmth : (Nat → UInt32)) (g_i_kind : (Nat → Int32)) (g_i_figure : (Nat → Int32)) (g_i_airCell : (Nat → Int32)) (g_i_way : (Nat → Int32)) (g_i_seat : (Nat → Int32)) (g_i_shawls : (Nat → Int32)) (g_i_count : Int32) (g_i_steps : (Nat → Int32)) (g_i_numbers : (Nat → Int32)) (g_past_next : Int32) (g_past_count : Int32) (g_text_length : Int32) (g_text_letters : (Nat → Int32)) (g_coats_sorts : (Nat → Int32)) (g_coats_sizes : (Nat → Int32)) (g_places : (Nat → Nat → Int32)) (g_coats_carried : (Nat → Int32)) (g_told : (Nat → Int32)) (g_refused : (Nat → Int32)) (g_oneHas : (Nat → Int32)) (g_otherHas : (Nat → Int32)) (g_k_shutBits : (Nat → Int64)) (g_k_airs : (Nat → Int32)) (g_k_crownedBits : (Nat → Int32)) (g_k_sitters : (Nat → Int32)) (g_k_onBits : (Nat → Int32)) (g_k_turn : (Nat → Int32)) (g_k_taken : (Nat → Int32)) (g_k_warmth : (Nat → Nat → UInt32)) (g_k_kind : (Nat → Nat → Int32)) (g_k_figure : (Nat → Nat → Int32)) (g_k_airCell : (Nat → Nat → Int32)) (g_k_way : (Nat → Nat → Int32)) (g_k_seat : (Nat → Nat → Int32)) (g_k_shawls : (Nat → Nat → Int32)) (g_k_count : (Nat → Int32)) (g_k_steps : (Nat → Nat → Int32)) (g_k_numbers : (Nat → Nat → Int32)) (n0 : Int32) (n1 : Int32) (z0 : Int32) (z1 : (Nat → Int32)) (hf : f_X6_nearest g_n_airs g_n_sitters g_n_airCell g_n_seat g_refused n0 n1 = some (z0, z1)) : Ct l D y yX6_nearest wA_X6_nearest 2 42 [.ref (a 0), .int n0, .int n1] ((w_X6 y a g_hasImage g_toldCount g_n_shutBits g_n_airs g_n_crownedBits g_n_sitters g_n_onBits g_n_turn g_n_taken g_n_warmth g_n_kind g_n_figure g_n_airCell g_n_way g_n_seat g_n_shawls g_n_count g_n_steps g_n_numbers g_m_shutBits g_m_airs g_m_crownedBits g_m_sitters g_m_onBits g_m_turn g_m_taken g_m_warmth g_m_kind g_m_figure g_m_airCell g_m_way g_m_seat g_m_shawls g_m_count g_m_steps g_m_numbers g_i_shutBits g_i_airs g_i_crownedBits g_i_sitters g_i_onBits g_i_turn g_i_taken g_i_warmth g_i_kind g_i_figure g_i_airCell g_i_way g_i_seat g_i_shawls g_i_count g_i_steps g_i_numbers g_past_next g_past_count g_text_length g_text_letters g_coats_sorts g_coats_sizes g_places g_coats_carried g_told g_refused g_oneHas g_otherHas) ++ (w_blob y (fun k => a (34 + (1 + k))) g_k_shutBits g_k_airs g_k_crownedBits g_k_sitters g_k_onBits g_k_turn g_k_taken g_k_warmth g_k_kind g_k_figure g_k_airCell g_k_way g_k_seat g_k_shawls g_k_count g_k_steps g_k_numbers)) ((w_X6 y a g_hasImage g_toldCount g_n_shutBits g_n_airs g_n_crownedBits g_n_sitters g_n_onBits g_n_turn g_n_taken g_n_warmth g_n_kind g_n_figure g_n_airCell g_n_way g_n_seat g_n_shawls g_n_count g_n_steps g_n_numbers g_m_shutBits g_m_airs g_m_crownedBits g_m_sitters g_m_onBits g_m_turn g_m_taken g_m_warmth g_m_kind g_m_figure g_m_airCell g_m_way g_m_seat g_m_shawls g_m_count g_m_steps g_m_numbers g_i_shutBits g_i_airs g_i_crownedBits g_i_sitters g_i_onBits g_i_turn g_i_taken g_i_warmth g_i_kind g_i_figure g_i_airCell g_i_way g_i_seat g_i_shawls g_i_count g_i_steps g_i_numbers g_past_next g_past_count g_text_length g_text_letters g_coats_sorts g_coats_sizes g_places g_coats_carried g_told z1 g_oneHas g_otherHas) ++ (w_blob y (fun k => a (34 + (1 + k))) g_k_shutBits g_k_airs g_k_crownedBits g_k_sitters g_k_onBits g_k_turn g_k_taken g_k_warmth g_k_kind g_k_figure g_k_airCell g_k_way g_k_seat g_k_shawls g_k_count g_k_steps g_k_numbers)) (some (.int z0)) := by
  refine ct_head (cc := cX6_nearest) (n := 7) (ret := (some .int)) (by decide) rfl (Nat.le_of_ble_eq_true rfl) ?_
  intro p e s m below meth c A ls hx hb hr hml hown hlocks hts hA hAe hP hK hD hl
  have hS : va_S A s.heap s.heap [] := va_S.rf
  have hl : lv_has ls 7 [(0, .ref (a 0)), (1, .int n0), (2, .int n1)] := hl
  have hown : s.vm.findClass RX6 = some m.cls := hown
  have hts : ∀ w ∈ wsL_law, w.before [.ref (a 0), .int n0, .int n1].toArray s = true := fun w h => hts w (List.mem_cons_of_mem _ h)
  unfold f_X6_nearest at hf
  refine lv_aload_n hx hb dX6_nearest_0 rfl (lv_at hl 0 rfl) ?_
  refine lv_iload_n hx hb dX6_nearest_1 rfl (lv_at hl 1 rfl) ?_
  obtain ⟨x1, hy2, hf⟩ := dq_b hf
  refine ct_callV0 (ci := 5) (q0 := 0) (own := RX6) (As := [.int n0]) (rest := []) (ws' := ((w_X6 y a g_hasImage g_toldCount g_n_shutBits g_n_airs g_n_crownedBits g_n_sitters g_n_onBits g_n_turn g_n_taken g_n_warmth g_n_kind g_n_figure g_n_airCell g_n_way g_n_seat g_n_shawls g_n_count g_n_steps g_n_numbers g_m_shutBits g_m_airs g_m_crownedBits g_m_sitters g_m_onBits g_m_turn g_m_taken g_m_warmth g_m_kind g_m_figure g_m_airCell g_m_way g_m_seat g_m_shawls g_m_count g_m_steps g_m_numbers g_i_shutBits g_i_airs g_i_crownedBits g_i_sitters g_i_onBits g_i_turn g_i_taken g_i_warmth g_i_kind g_i_figure g_i_airCell g_i_way g_i_seat g_i_shawls g_i_count g_i_steps g_i_numbers g_past_next g_past_count g_text_length g_text_letters g_coats_sorts g_coats_sizes g_places g_coats_carried g_told g_refused g_oneHas g_otherHas) ++ (w_blob y (fun k => a (34 + (1 + k))) g_k_shutBits g_k_airs g_k_crownedBits g_k_sitters g_k_onBits g_k_turn g_k_taken g_k_warmth g_k_kind g_k_figure g_k_airCell g_k_way g_k_seat g_k_shawls g_k_count g_k_steps g_k_numbers))) ⟨hx, hb, hml, hown, hts⟩ (m_X6_isSitter l D y a g_hasImage g_toldCount g_n_shutBits g_n_airs g_n_crownedBits g_n_sitters g_n_onBits g_n_turn g_n_taken g_n_warmth g_n_kind g_n_figure g_n_airCell g_n_way g_n_seat g_n_shawls g_n_count g_n_steps g_n_numbers g_m_shutBits g_m_airs g_m_crownedBits g_m_sitters g_m_onBits g_m_turn g_m_taken g_m_warmth g_m_kind g_m_figure g_m_airCell g_m_way g_m_seat g_m_shawls g_m_count g_m_steps g_m_numbers g_i_shutBits g_i_airs g_i_crownedBits g_i_sitters g_i_onBits g_i_turn g_i_taken g_i_warmth g_i_kind g_i_figure g_i_airCell g_i_way g_i_seat g_i_shawls g_i_count g_i_steps g_i_numbers g_past_next g_past_count g_text_length g_text_letters g_coats_sorts g_coats_sizes g_places g_coats_carried g_told g_refused g_oneHas g_otherHas g_k_shutBits g_k_airs g_k_crownedBits g_k_sitters g_k_onBits g_k_turn g_k_taken g_k_warmth g_k_kind g_k_figure g_k_airCell g_k_way g_k_seat g_k_shawls g_k_count g_k_steps g_k_numbers n0 x1 hy2) (cwV 1 hts (gA_V wl_558 wl_559 wl_560 wl_2 wl_561) rfl rfl rfl (by decide +kernel) ⟨Nat.le_of_ble_eq_true rfl, Nat.le_of_ble_eq_true rfl⟩) rfl rfl rfl hl.1 rfl (Nat.le_of_ble_eq_true rfl) dX6_nearest_2 ⟨Nat.zero_le _, Nat.zero_le _⟩ hK hP hD hS hA (fun H locs hP hD hS => ?_)
  refine lv_if_ne (tgt := 14) hx hb dX6_nearest_5 (by decide) (fun c3 => ?_) (fun c3 => ?_)
  · have hf := dq_f hf c3
    clear c3
    refine lv_iload_n hx hb dX6_nearest_14 rfl (lv_at hl 2 rfl) ?_
    refine lv_if_lt (tgt := 23) hx hb dX6_nearest_15 (by decide) (fun c4 => ?_) (fun c4 => ?_)
    · have hf := dq_t hf c4
      clear c4
      refine lv_aload_n hx hb dX6_nearest_23 rfl (lv_at hl 0 rfl) ?_
      refine lv_bipush (v := -2) hx hb dX6_nearest_24 (by decide) ?_
      obtain ⟨x5, g_refused_6, hy7, hf⟩ := dq_b2 hf
      refine ct_callV0 (ci := 5) (q0 := 0) (own := RX6) (As := [.int (-2 : Int32)]) (rest := []) (ws' := ((w_X6 y a g_hasImage g_toldCount g_n_shutBits g_n_airs g_n_crownedBits g_n_sitters g_n_onBits g_n_turn g_n_taken g_n_warmth g_n_kind g_n_figure g_n_airCell g_n_way g_n_seat g_n_shawls g_n_count g_n_steps g_n_numbers g_m_shutBits g_m_airs g_m_crownedBits g_m_sitters g_m_onBits g_m_turn g_m_taken g_m_warmth g_m_kind g_m_figure g_m_airCell g_m_way g_m_seat g_m_shawls g_m_count g_m_steps g_m_numbers g_i_shutBits g_i_airs g_i_crownedBits g_i_sitters g_i_onBits g_i_turn g_i_taken g_i_warmth g_i_kind g_i_figure g_i_airCell g_i_way g_i_seat g_i_shawls g_i_count g_i_steps g_i_numbers g_past_next g_past_count g_text_length g_text_letters g_coats_sorts g_coats_sizes g_places g_coats_carried g_told g_refused_6 g_oneHas g_otherHas) ++ (w_blob y (fun k => a (34 + (1 + k))) g_k_shutBits g_k_airs g_k_crownedBits g_k_sitters g_k_onBits g_k_turn g_k_taken g_k_warmth g_k_kind g_k_figure g_k_airCell g_k_way g_k_seat g_k_shawls g_k_count g_k_steps g_k_numbers))) ⟨hx, hb, hml, hown, hts⟩ (m_X6_refuse l D y a g_hasImage g_toldCount g_n_shutBits g_n_airs g_n_crownedBits g_n_sitters g_n_onBits g_n_turn g_n_taken g_n_warmth g_n_kind g_n_figure g_n_airCell g_n_way g_n_seat g_n_shawls g_n_count g_n_steps g_n_numbers g_m_shutBits g_m_airs g_m_crownedBits g_m_sitters g_m_onBits g_m_turn g_m_taken g_m_warmth g_m_kind g_m_figure g_m_airCell g_m_way g_m_seat g_m_shawls g_m_count g_m_steps g_m_numbers g_i_shutBits g_i_airs g_i_crownedBits g_i_sitters g_i_onBits g_i_turn g_i_taken g_i_warmth g_i_kind g_i_figure g_i_airCell g_i_way g_i_seat g_i_shawls g_i_count g_i_steps g_i_numbers g_past_next g_past_count g_text_length g_text_letters g_coats_sorts g_coats_sizes g_places g_coats_carried g_told g_refused g_oneHas g_otherHas g_k_shutBits g_k_airs g_k_crownedBits g_k_sitters g_k_onBits g_k_turn g_k_taken g_k_warmth g_k_kind g_k_figure g_k_airCell g_k_way g_k_seat g_k_shawls g_k_count g_k_steps g_k_numbers (-2 : Int32) x5 g_refused_6 hy7) (cwV 1 hts (gA_V wl_124 wl_125 wl_126 wl_2 wl_127) rfl rfl rfl (by decide +kernel) ⟨Nat.le_of_ble_eq_true rfl, Nat.le_of_ble_eq_true rfl⟩) rfl rfl rfl hl.1 rfl (Nat.le_of_ble_eq_true rfl) dX6_nearest_26 ⟨Nat.zero_le _, Nat.zero_le _⟩ hK hP hD hS hA (fun H locs hP hD hS => ?_)
      obtain ⟨rfl, rfl⟩ := dq_r2 hf
      exact ct_iret hx hb hr hlocks hAe hP hK hD hS dX6_nearest_29
    · have hf := dq_f hf c4
      clear c4
      refine lv_iload_n hx hb dX6_nearest_18 rfl (lv_at hl 2 rfl) ?_
      refine lv_iconst (v := 1) hx hb dX6_nearest_19 (by decide) ?_
      refine lv_icmp_le (tgt := 30) hx hb dX6_nearest_20 (by decide) (fun c8 => ?_) (fun c8 => ?_)
      · have hf := dq_t hf c8
        clear c8
        refine lv_bipush (v := -9) hx hb dX6_nearest_30 (by decide) ?_
        refine lv_istore_n (lv' := [(3, .int (-9 : Int32)), (0, .ref (a 0)), (1, .int n0), (2, .int n1)]) hx hb dX6_nearest_32 rfl hl (by decide) rfl (fun ls hl => ?_)
        refine lv_bipush (v := -9) hx hb dX6_nearest_33 (by decide) ?_
        refine lv_istore (lv' := [(4, .int (-9 : Int32)), (3, .int (-9 : Int32)), (0, .ref (a 0)), (1, .int n0), (2, .int n1)]) hx hb dX6_nearest_35 hl (by decide) rfl (fun ls hl => ?_)
        refine lv_iconst (v := 0) hx hb dX6_nearest_37 (by decide) ?_
        refine lv_istore (lv' := [(5, .int (0 : Int32)), (4, .int (-9 : Int32)), (3, .int (-9 : Int32)), (0, .ref (a 0)), (1, .int n0), (2, .int n1)]) hx hb dX6_nearest_38 hl (by decide) rfl (fun ls hl => ?_)
        have J40 : ∀ (m40 : Nat) (x9 : Int32) (x10 : Int32) (x11 : Int32), f_X6_nearest_b40 n0 n1 g_n_airs g_n_airCell g_n_seat g_refused m40 x9 x10 x11 = some (z0, z1) → ∀ (H : Heap) (locs : List Loc), va_P D vwCl ((w_X6 y a g_hasImage g_toldCount g_n_shutBits g_n_airs g_n_crownedBits g_n_sitters g_n_onBits g_n_turn g_n_taken g_n_warmth g_n_kind g_n_figure g_n_airCell g_n_way g_n_seat g_n_shawls g_n_count g_n_steps g_n_numbers g_m_shutBits g_m_airs g_m_crownedBits g_m_sitters g_m_onBits g_m_turn g_m_taken g_m_warmth g_m_kind g_m_figure g_m_airCell g_m_way g_m_seat g_m_shawls g_m_count g_m_steps g_m_numbers g_i_shutBits g_i_airs g_i_crownedBits g_i_sitters g_i_onBits g_i_turn g_i_taken g_i_warmth g_i_kind g_i_figure g_i_airCell g_i_way g_i_seat g_i_shawls g_i_count g_i_steps g_i_numbers g_past_next g_past_count g_text_length g_text_letters g_coats_sorts g_coats_sizes g_places g_coats_carried g_told g_refused g_oneHas g_otherHas) ++ (w_blob y (fun k => a (34 + (1 + k))) g_k_shutBits g_k_airs g_k_crownedBits g_k_sitters g_k_onBits g_k_turn g_k_taken g_k_warmth g_k_kind g_k_figure g_k_airCell g_k_way g_k_seat g_k_shawls g_k_count g_k_steps g_k_numbers)) H → va_D A ((w_X6 y a g_hasImage g_toldCount g_n_shutBits g_n_airs g_n_crownedBits g_n_sitters g_n_onBits g_n_turn g_n_taken g_n_warmth g_n_kind g_n_figure g_n_airCell g_n_way g_n_seat g_n_shawls g_n_count g_n_steps g_n_numbers g_m_shutBits g_m_airs g_m_crownedBits g_m_sitters g_m_onBits g_m_turn g_m_taken g_m_warmth g_m_kind g_m_figure g_m_airCell g_m_way g_m_seat g_m_shawls g_m_count g_m_steps g_m_numbers g_i_shutBits g_i_airs g_i_crownedBits g_i_sitters g_i_onBits g_i_turn g_i_taken g_i_warmth g_i_kind g_i_figure g_i_airCell g_i_way g_i_seat g_i_shawls g_i_count g_i_steps g_i_numbers g_past_next g_past_count g_text_length g_text_letters g_coats_sorts g_coats_sizes g_places g_coats_carried g_told g_refused g_oneHas g_otherHas) ++ (w_blob y (fun k => a (34 + (1 + k))) g_k_shutBits g_k_airs g_k_crownedBits g_k_sitters g_k_onBits g_k_turn g_k_taken g_k_warmth g_k_kind g_k_figure g_k_airCell g_k_way g_k_seat g_k_shawls g_k_count g_k_steps g_k_numbers)) → va_S A s.heap H locs → ∀ ls : Array Slot, lv_has ls 7 [(0, .ref (a 0)), (1, .int n0), (2, .int n1), (3, .int x9), (4, .int x10), (5, .int x11)] → W p l e ({ frames := 2, cells := 0, slots := 0, locals := 42 } : Room) s m [.ref (a 0), .int n0, .int n1].toArray below meth c H locs 0 0 (MQ below (dQ D y (some (.int z0)) s.heap.size ((w_X6 y a g_hasImage g_toldCount g_n_shutBits g_n_airs g_n_crownedBits g_n_sitters g_n_onBits g_n_turn g_n_taken g_n_warmth g_n_kind g_n_figure g_n_airCell g_n_way g_n_seat g_n_shawls g_n_count g_n_steps g_n_numbers g_m_shutBits g_m_airs g_m_crownedBits g_m_sitters g_m_onBits g_m_turn g_m_taken g_m_warmth g_m_kind g_m_figure g_m_airCell g_m_way g_m_seat g_m_shawls g_m_count g_m_steps g_m_numbers g_i_shutBits g_i_airs g_i_crownedBits g_i_sitters g_i_onBits g_i_turn g_i_taken g_i_warmth g_i_kind g_i_figure g_i_airCell g_i_way g_i_seat g_i_shawls g_i_count g_i_steps g_i_numbers g_past_next g_past_count g_text_length g_text_letters g_coats_sorts g_coats_sizes g_places g_coats_carried g_told g_refused g_oneHas g_otherHas) ++ (w_blob y (fun k => a (34 + (1 + k))) g_k_shutBits g_k_airs g_k_crownedBits g_k_sitters g_k_onBits g_k_turn g_k_taken g_k_warmth g_k_kind g_k_figure g_k_airCell g_k_way g_k_seat g_k_shawls g_k_count g_k_steps g_k_numbers)) ((w_X6 y a g_hasImage g_toldCount g_n_shutBits g_n_airs g_n_crownedBits g_n_sitters g_n_onBits g_n_turn g_n_taken g_n_warmth g_n_kind g_n_figure g_n_airCell g_n_way g_n_seat g_n_shawls g_n_count g_n_steps g_n_numbers g_m_shutBits g_m_airs g_m_crownedBits g_m_sitters g_m_onBits g_m_turn g_m_taken g_m_warmth g_m_kind g_m_figure g_m_airCell g_m_way g_m_seat g_m_shawls g_m_count g_m_steps g_m_numbers g_i_shutBits g_i_airs g_i_crownedBits g_i_sitters g_i_onBits g_i_turn g_i_taken g_i_warmth g_i_kind g_i_figure g_i_airCell g_i_way g_i_seat g_i_shawls g_i_count g_i_steps g_i_numbers g_past_next g_past_count g_text_length g_text_letters g_coats_sorts g_coats_sizes g_places g_coats_carried g_told z1 g_oneHas g_otherHas) ++ (w_blob y (fun k => a (34 + (1 + k))) g_k_shutBits g_k_airs g_k_crownedBits g_k_sitters g_k_onBits g_k_turn g_k_taken g_k_warmth g_k_kind g_k_figure g_k_airCell g_k_way g_k_seat g_k_shawls g_k_count g_k_steps g_k_numbers))) [.ref (a 0), .int n0, .int n1].toArray s 0 0 A) (F0 m 40 ls []) := by
          intro m40
          induction m40 with
          | zero => intro x9 x10 x11 hf; exact absurd hf (by unfold f_X6_nearest_b40; exact fun h => by cases h)
          | succ m40 I40 =>
            intro x9 x10 x11 hf H locs hP hD hS ls hl
            unfold f_X6_nearest_b40 at hf
            refine lv_iload hx hb dX6_nearest_40 (lv_at hl 5 rfl) ?_
            refine lv_aload_n hx hb dX6_nearest_42 rfl (lv_at hl 0 rfl) ?_
            refine va_get (D := D) (ci := 5) (v := .ref (a 1)) (C := RX6) (T := TX6) (N := 12) hx hb hts iwX6 hown hK hP 0 rfl rfl 0 (by decide) (hts _ wl_15) (fun _ h9 => h9) rfl dX6_nearest_43 ?_
            refine va_get (D := D) (ci := 1) (v := .int g_n_airs) (C := RX2) (T := TX2) (N := 15) hx hb hts iwX2 hown hK hP 1 rfl rfl 2 (by decide) (hts _ wl_541) (fun _ h9 => h9) rfl dX6_nearest_46 ?_
            refine lv_icmp_ge (tgt := 102) hx hb dX6_nearest_49 (by decide) (fun c12 => ?_) (fun c12 => ?_)
            · have hf := dq_t hf c12
              clear c12
              refine lv_iload_n hx hb dX6_nearest_102 rfl (lv_at hl 2 rfl) ?_
              refine lv_if_ne (tgt := 110) hx hb dX6_nearest_103 (by decide) (fun c13 => ?_) (fun c13 => ?_)
              · have hf := dq_f hf c13
                clear c13
                refine lv_iload hx hb dX6_nearest_110 (lv_at hl 4 rfl) ?_
                obtain ⟨rfl, rfl⟩ := dq_r2 hf
                exact ct_iret hx hb hr hlocks hAe hP hK hD hS dX6_nearest_112
              · have hf := dq_t hf c13
                clear c13
                refine lv_iload_n hx hb dX6_nearest_106 rfl (lv_at hl 3 rfl) ?_
                refine lv_goto (tgt := 112) hx hb dX6_nearest_107 (by decide) ?_
                obtain ⟨rfl, rfl⟩ := dq_r2 hf
                exact ct_iret hx hb hr hlocks hAe hP hK hD hS dX6_nearest_112
            · have hf := dq_f hf c12
              clear c12
              refine lv_aload_n hx hb dX6_nearest_52 rfl (lv_at hl 0 rfl) ?_
              refine va_get (D := D) (ci := 5) (v := .ref (a 1)) (C := RX6) (T := TX6) (N := 12) hx hb hts iwX6 hown hK hP 0 rfl rfl 0 (by decide) (hts _ wl_15) (fun _ h9 => h9) rfl dX6_nearest_53 ?_
              refine va_get (D := D) (ci := 1) (v := .ref (a 7)) (C := RX2) (T := TX2) (N := 15) hx hb hts iwX2 hown hK hP 1 rfl rfl 9 (by decide) (hts _ wl_556) (fun _ h9 => h9) rfl dX6_nearest_56 ?_
              refine lv_iload_n hx hb dX6_nearest_59 rfl (lv_at hl 1 rfl) ?_
              obtain ⟨h14, hf⟩ := dq_g hf
              refine va_iald (cA := y 1) (n := 6) (f := g_n_seat) hx hb hK hP 7 1 rfl rfl h14 dX6_nearest_60 ?_
              refine lv_aload_n hx hb dX6_nearest_61 rfl (lv_at hl 0 rfl) ?_
              refine va_get (D := D) (ci := 5) (v := .ref (a 1)) (C := RX6) (T := TX6) (N := 12) hx hb hts iwX6 hown hK hP 0 rfl rfl 0 (by decide) (hts _ wl_15) (fun _ h9 => h9) rfl dX6_nearest_62 ?_
              refine va_get (D := D) (ci := 1) (v := .ref (a 5)) (C := RX2) (T := TX2) (N := 15) hx hb hts iwX2 hown hK hP 1 rfl rfl 5 (by decide) (hts _ wl_535) (fun _ h9 => h9) rfl dX6_nearest_65 ?_
              refine lv_iload hx hb dX6_nearest_68 (lv_at hl 5 rfl) ?_
              obtain ⟨h15, hf⟩ := dq_g hf
              refine va_iald (cA := y 1) (n := 5) (f := g_n_airCell) hx hb hK hP 5 1 rfl rfl h15 dX6_nearest_70 ?_
              obtain ⟨x16, hy17, hf⟩ := dq_b hf
              refine ct_callS0 (own := RX6) (As := [.int (g_n_seat n0.toNatClampNeg), .int (g_n_airCell x11.toNatClampNeg)]) (rest := []) ⟨hx, hb, hml, hown, hts⟩ (m_X6_distance l D y (g_n_seat n0.toNatClampNeg) (g_n_airCell x11.toNatClampNeg) x16 hy17) (va_cwS 2 hts (gA_S wl_951 wl_952 wl_2 wl_953) rfl rfl rfl (by decide +kernel) ⟨Nat.le_of_ble_eq_true rfl, Nat.le_of_ble_eq_true rfl⟩) rfl hl.1 rfl (Nat.le_of_ble_eq_true rfl) dX6_nearest_71 ⟨Nat.zero_le _, Nat.zero_le _⟩ hK hP hD hS hA (fun H locs hP hD hS => ?_)
              refine lv_istore (lv' := [(6, .int x16), (0, .ref (a 0)), (1, .int n0), (2, .int n1), (3, .int x9), (4, .int x10), (5, .int x11)]) hx hb dX6_nearest_74 hl (by decide) rfl (fun ls hl => ?_)
              refine lv_iload_n hx hb dX6_nearest_76 rfl (lv_at hl 4 rfl) ?_
              refine lv_bipush (v := -9) hx hb dX6_nearest_77 (by decide) ?_
              refine lv_icmp_eq (tgt := 89) hx hb dX6_nearest_79 (by decide) (fun c18 => ?_) (fun c18 => ?_)
              · have hf := dq_t hf c18
                clear c18
                refine lv_iload hx hb dX6_nearest_89 (lv_at hl 6 rfl) ?_
                refine lv_istore_n (lv' := [(3, .int x11), (6, .int x16), (0, .ref (a 0)), (1, .int n0), (2, .int n1), (4, .int x10), (5, .int x11)]) hx hb dX6_nearest_91 rfl hl (by decide) rfl (fun ls hl => ?_)
                refine lv_iload hx hb dX6_nearest_92 (lv_at hl 1 rfl) ?_
                refine lv_istore (lv' := [(4, .int x16), (3, .int x11), (6, .int x16), (0, .ref (a 0)), (1, .int n0), (2, .int n1), (5, .int x11)]) hx hb dX6_nearest_94 hl (by decide) rfl (fun ls hl => ?_)
                obtain ⟨x19, ex19⟩ : ∃ z : Int32, z = (x11 + (1 : Int32)) := ⟨_, rfl⟩
                have hf := dq_l hf x19 ex19
                refine lv_iinc (v := x19) (lv' := [(5, .int x19), (4, .int x16), (3, .int x11), (6, .int x16), (0, .ref (a 0)), (1, .int n0), (2, .int n1)]) hx hb dX6_nearest_96 hl (k := 6) rfl (by rw [ex19]; rfl) (by decide) rfl (fun ls hl => ?_)
                clear ex19
                refine lv_goto (tgt := 40) hx hb dX6_nearest_99 (by decide) ?_
                exact I40 _ _ _ hf _ _ hP hD hS _ (lv_sub hl [4, 5, 6, 2, 1, 0] rfl)
              · have hf := dq_f hf c18
                clear c18
                refine lv_iload hx hb dX6_nearest_82 (lv_at hl 0 rfl) ?_
                refine lv_iload hx hb dX6_nearest_84 (lv_at hl 5 rfl) ?_
                refine lv_icmp_ge (tgt := 96) hx hb dX6_nearest_86 (by decide) (fun c20 => ?_) (fun c20 => ?_)
                · have hf := dq_t hf c20
                  clear c20
                  obtain ⟨x21, ex21⟩ : ∃ z : Int32, z = (x11 + (1 : Int32)) := ⟨_, rfl⟩
                  have hf := dq_l hf x21 ex21
                  refine lv_iinc (v := x21) (lv' := [(5, .int x21), (6, .int x16), (0, .ref (a 0)), (1, .int n0), (2, .int n1), (3, .int x9), (4, .int x10)]) hx hb dX6_nearest_96 hl (k := 6) rfl (by rw [ex21]; rfl) (by decide) rfl (fun ls hl => ?_)
                  clear ex21
                  refine lv_goto (tgt := 40) hx hb dX6_nearest_99 (by decide) ?_
                  exact I40 _ _ _ hf _ _ hP hD hS _ (lv_sub hl [2, 3, 4, 5, 6, 0] rfl)
                · have hf := dq_f hf c20
                  clear c20
                  refine lv_iload hx hb dX6_nearest_89 (lv_at hl 6 rfl) ?_
                  refine lv_istore_n (lv' := [(3, .int x11), (6, .int x16), (0, .ref (a 0)), (1, .int n0), (2, .int n1), (4, .int x10), (5, .int x11)]) hx hb dX6_nearest_91 rfl hl (by decide) rfl (fun ls hl => ?_)
                  refine lv_iload hx hb dX6_nearest_92 (lv_at hl 1 rfl) ?_
                  refine lv_istore (lv' := [(4, .int x16), (3, .int x11), (6, .int x16), (0, .ref (a 0)), (1, .int n0), (2, .int n1), (5, .int x11)]) hx hb dX6_nearest_94 hl (by decide) rfl (fun ls hl => ?_)
                  obtain ⟨x22, ex22⟩ : ∃ z : Int32, z = (x11 + (1 : Int32)) := ⟨_, rfl⟩
                  have hf := dq_l hf x22 ex22
                  refine lv_iinc (v := x22) (lv' := [(5, .int x22), (4, .int x16), (3, .int x11), (6, .int x16), (0, .ref (a 0)), (1, .int n0), (2, .int n1)]) hx hb dX6_nearest_96 hl (k := 6) rfl (by rw [ex22]; rfl) (by decide) rfl (fun ls hl => ?_)
                  clear ex22
                  refine lv_goto (tgt := 40) hx hb dX6_nearest_99 (by decide) ?_
                  exact I40 _ _ _ hf _ _ hP hD hS _ (lv_sub hl [4, 5, 6, 2, 1, 0] rfl)
        exact J40 4096 _ _ _ hf _ _ hP hD hS _ (lv_sub hl [3, 4, 5, 2, 1, 0] rfl)
      · have hf := dq_f hf c8
        clear c8
        refine lv_aload_n hx hb dX6_nearest_23 rfl (lv_at hl 0 rfl) ?_
        refine lv_bipush (v := -2) hx hb dX6_nearest_24 (by decide) ?_
        obtain ⟨x23, g_refused_24, hy25, hf⟩ := dq_b2 hf
        refine ct_callV0 (ci := 5) (q0 := 0) (own := RX6) (As := [.int (-2 : Int32)]) (rest := []) (ws' := ((w_X6 y a g_hasImage g_toldCount g_n_shutBits g_n_airs g_n_crownedBits g_n_sitters g_n_onBits g_n_turn g_n_taken g_n_warmth g_n_kind g_n_figure g_n_airCell g_n_way g_n_seat g_n_shawls g_n_count g_n_steps g_n_numbers g_m_shutBits g_m_airs g_m_crownedBits g_m_sitters g_m_onBits g_m_turn g_m_taken g_m_warmth g_m_kind g_m_figure g_m_airCell g_m_way g_m_seat g_m_shawls g_m_count g_m_steps g_m_numbers g_i_shutBits g_i_airs g_i_crownedBits g_i_sitters g_i_onBits g_i_turn g_i_taken g_i_warmth g_i_kind g_i_figure g_i_airCell g_i_way g_i_seat g_i_shawls g_i_count g_i_steps g_i_numbers g_past_next g_past_count g_text_length g_text_letters g_coats_sorts g_coats_sizes g_places g_coats_carried g_told g_refused_24 g_oneHas g_otherHas) ++ (w_blob y (fun k => a (34 + (1 + k))) g_k_shutBits g_k_airs g_k_crownedBits g_k_sitters g_k_onBits g_k_turn g_k_taken g_k_warmth g_k_kind g_k_figure g_k_airCell g_k_way g_k_seat g_k_shawls g_k_count g_k_steps g_k_numbers))) ⟨hx, hb, hml, hown, hts⟩ (m_X6_refuse l D y a g_hasImage g_toldCount g_n_shutBits g_n_airs g_n_crownedBits g_n_sitters g_n_onBits g_n_turn g_n_taken g_n_warmth g_n_kind g_n_figure g_n_airCell g_n_way g_n_seat g_n_shawls g_n_count g_n_steps g_n_numbers g_m_shutBits g_m_airs g_m_crownedBits g_m_sitters g_m_onBits g_m_turn g_m_taken g_m_warmth g_m_kind g_m_figure g_m_airCell g_m_way g_m_seat g_m_shawls g_m_count g_m_steps g_m_numbers g_i_shutBits g_i_airs g_i_crownedBits g_i_sitters g_i_onBits g_i_turn g_i_taken g_i_warmth g_i_kind g_i_figure g_i_airCell g_i_way g_i_seat g_i_shawls g_i_count g_i_steps g_i_numbers g_past_next g_past_count g_text_length g_text_letters g_coats_sorts g_coats_sizes g_places g_coats_carried g_told g_refused g_oneHas g_otherHas g_k_shutBits g_k_airs g_k_crownedBits g_k_sitters g_k_onBits g_k_turn g_k_taken g_k_warmth g_k_kind g_k_figure g_k_airCell g_k_way g_k_seat g_k_shawls g_k_count g_k_steps g_k_numbers (-2 : Int32) x23 g_refused_24 hy25) (cwV 1 hts (gA_V wl_124 wl_125 wl_126 wl_2 wl_127) rfl rfl rfl (by decide +kernel) ⟨Nat.le_of_ble_eq_true rfl, Nat.le_of_ble_eq_true rfl⟩) rfl rfl rfl hl.1 rfl (Nat.le_of_ble_eq_true rfl) dX6_nearest_26 ⟨Nat.zero_le _, Nat.zero_le _⟩ hK hP hD hS hA (fun H locs hP hD hS => ?_)
        obtain ⟨rfl, rfl⟩ := dq_r2 hf
        exact ct_iret hx hb hr hlocks hAe hP hK hD hS dX6_nearest_29
  · have hf := dq_t hf c3
    clear c3
    refine lv_aload_n hx hb dX6_nearest_8 rfl (lv_at hl 0 rfl) ?_
    refine lv_iconst (v := -1) hx hb dX6_nearest_9 (by decide) ?_
    obtain ⟨x26, g_refused_27, hy28, hf⟩ := dq_b2 hf
    refine ct_callV0 (ci := 5) (q0 := 0) (own := RX6) (As := [.int (-1 : Int32)]) (rest := []) (ws' := ((w_X6 y a g_hasImage g_toldCount g_n_shutBits g_n_airs g_n_crownedBits g_n_sitters g_n_onBits g_n_turn g_n_taken g_n_warmth g_n_kind g_n_figure g_n_airCell g_n_way g_n_seat g_n_shawls g_n_count g_n_steps g_n_numbers g_m_shutBits g_m_airs g_m_crownedBits g_m_sitters g_m_onBits g_m_turn g_m_taken g_m_warmth g_m_kind g_m_figure g_m_airCell g_m_way g_m_seat g_m_shawls g_m_count g_m_steps g_m_numbers g_i_shutBits g_i_airs g_i_crownedBits g_i_sitters g_i_onBits g_i_turn g_i_taken g_i_warmth g_i_kind g_i_figure g_i_airCell g_i_way g_i_seat g_i_shawls g_i_count g_i_steps g_i_numbers g_past_next g_past_count g_text_length g_text_letters g_coats_sorts g_coats_sizes g_places g_coats_carried g_told g_refused_27 g_oneHas g_otherHas) ++ (w_blob y (fun k => a (34 + (1 + k))) g_k_shutBits g_k_airs g_k_crownedBits g_k_sitters g_k_onBits g_k_turn g_k_taken g_k_warmth g_k_kind g_k_figure g_k_airCell g_k_way g_k_seat g_k_shawls g_k_count g_k_steps g_k_numbers))) ⟨hx, hb, hml, hown, hts⟩ (m_X6_refuse l D y a g_hasImage g_toldCount g_n_shutBits g_n_airs g_n_crownedBits g_n_sitters g_n_onBits g_n_turn g_n_taken g_n_warmth g_n_kind g_n_figure g_n_airCell g_n_way g_n_seat g_n_shawls g_n_count g_n_steps g_n_numbers g_m_shutBits g_m_airs g_m_crownedBits g_m_sitters g_m_onBits g_m_turn g_m_taken g_m_warmth g_m_kind g_m_figure g_m_airCell g_m_way g_m_seat g_m_shawls g_m_count g_m_steps g_m_numbers g_i_shutBits g_i_airs g_i_crownedBits g_i_sitters g_i_onBits g_i_turn g_i_taken g_i_warmth g_i_kind g_i_figure g_i_airCell g_i_way g_i_seat g_i_shawls g_i_count g_i_steps g_i_numbers g_past_next g_past_count g_text_length g_text_letters g_coats_sorts g_coats_sizes g_places g_coats_carried g_told g_refused g_oneHas g_otherHas g_k_shutBits g_k_airs g_k_crownedBits g_k_sitters g_k_onBits g_k_turn g_k_taken g_k_warmth g_k_kind g_k_figure g_k_airCell g_k_way g_k_seat g_k_shawls g_k_count g_k_steps g_k_numbers (-1 : Int32) x26 g_refused_27 hy28) (cwV 1 hts (gA_V wl_124 wl_125 wl_126 wl_2 wl_127) rfl rfl rfl (by decide +kernel) ⟨Nat.le_of_ble_eq_true rfl, Nat.le_of_ble_eq_true rfl⟩) rfl rfl rfl hl.1 rfl (Nat.le_of_ble_eq_true rfl) dX6_nearest_10 ⟨Nat.zero_le _, Nat.zero_le _⟩ hK hP hD hS hA (fun H locs hP hD hS => ?_)
    obtain ⟨rfl, rfl⟩ := dq_r2 hf
    exact ct_iret hx hb hr hlocks hAe hP hK hD hS dX6_nearest_13
noncomputable def f_X6_kinds_b21 (n0 : Int32) (g_n_airs : Int32) (g_n_kind : (Nat → Int32)) (g_refused : (Nat → Int32))  : Nat → Int32 → Int32 → Option (Int32 × (Nat → Int32))
  | 0, _, _ => none
  | m21 + 1, x6, x7 => dq_if (g_n_airs ≤ x7) (some (x6, g_refused)) (dq_gd (vp_in x7 5) (dq_if ((g_n_kind x7.toNatClampNeg) = n0) (dq_let (x6 + (1 : Int32)) (fun (x12 : Int32) => dq_let (x7 + (1 : Int32)) (fun (x13 : Int32) => (f_X6_kinds_b21 n0 g_n_airs g_n_kind g_refused m21) x12 x13))) (dq_let (x7 + (1 : Int32)) (fun (x11 : Int32) => (f_X6_kinds_b21 n0 g_n_airs g_n_kind g_refused m21) x6 x11))))
noncomputable def f_X6_kinds (g_n_airs : Int32) (g_n_kind : (Nat → Int32)) (g_refused : (Nat → Int32)) (n0 : Int32) : Option (Int32 × (Nat → Int32)) := dq_if (n0 < 0) (dq_bd2 (f_X6_refuse g_refused (-2 : Int32)) (fun (x2 : Int32) (g_refused_3 : (Nat → Int32)) => some (x2, g_refused_3))) (dq_if (n0 < (8 : Int32)) (f_X6_kinds_b21 n0 g_n_airs g_n_kind g_refused 4096 (0 : Int32) (0 : Int32)) (dq_bd2 (f_X6_refuse g_refused (-2 : Int32)) (fun (x14 : Int32) (g_refused_15 : (Nat → Int32)) => some (x14, g_refused_15))))
def wA_X6_kinds : List Cond := .code yX6_kinds cX6_kinds 4 (some .int) :: wsL_law
-- DraughtsTake.kinds(I)I
set_option maxHeartbeats 4000000 in
set_option maxRecDepth 100000 in
theorem m_X6_kinds (l : Launch) (D : va_G) (y : Nat → ClassId) (a : (Nat → Nat)) (g_hasImage : Int32) (g_toldCount : Int32) (g_n_shutBits : Int64) (g_n_airs : Int32) (g_n_crownedBits : Int32) (g_n_sitters : Int32) (g_n_onBits : Int32) (g_n_turn : Int32) (g_n_taken : Int32) (g_n_warmth : (Nat → UInt32)) (g_n_kind : (Nat → Int32)) (g_n_figure : (Nat → Int32)) (g_n_airCell : (Nat → Int32)) (g_n_way : (Nat → Int32)) (g_n_seat : (Nat → Int32)) (g_n_shawls : (Nat → Int32)) (g_n_count : Int32) (g_n_steps : (Nat → Int32)) (g_n_numbers : (Nat → Int32)) (g_m_shutBits : Int64) (g_m_airs : Int32) (g_m_crownedBits : Int32) (g_m_sitters : Int32) (g_m_onBits : Int32) (g_m_turn : Int32) (g_m_taken : Int32) (g_m_warmth : (Nat → UInt32)) (g_m_kind : (Nat → Int32)) (g_m_figure : (Nat → Int32)) (g_m_airCell : (Nat → Int32)) (g_m_way : (Nat → Int32)) (g_m_seat : (Nat → Int32)) (g_m_shawls : (Nat → Int32)) (g_m_count : Int32) (g_m_steps : (Nat → Int32)) (g_m_numbers : (Nat → Int32)) (g_i_shutBits : Int64) (g_i_airs : Int32) (g_i_crownedBits : Int32) (g_i_sitters : Int32) (g_i_onBits : Int32) (g_i_turn : Int32) (g_i_taken : Int32) (g_i_warmth : (Nat → UInt32)) (g_i_kind : (Nat → Int32)) (g_i_figure : (Nat → Int32)) (g_i_airCell : (Nat → Int32)) (g_i_way : (Nat → Int32)) (g_i_seat : (Nat → Int32)) (g_i_shawls : (Nat → Int32)) (g_i_count : Int32) (g_i_steps : (Nat → Int32)) (g_i_numbers : (Nat → Int32)) (g_past_next : Int32) (g_past_count : Int32) (g_text_length : Int32) (g_text_letters : (Nat → Int32)) (g_coats_sorts : (Nat → Int32)) (g_coats_sizes : (Nat → Int32)) (g_places : (Nat → Nat → Int32)) (g_coats_carried : (Nat → Int32)) (g_told : (Nat → Int32)) (g_refused : (Nat → Int32)) (g_oneHas : (Nat → Int32)) (g_otherHas : (Nat → Int32)) (g_k_shutBits : (Nat → Int64)) (g_k_airs : (Nat → Int32)) (g_k_crownedBits : (Nat → Int32)) (g_k_sitters : (Nat → Int32)) (g_k_onBits : (Nat → Int32)) (g_k_turn : (Nat → Int32)) (g_k_taken : (Nat → Int32)) (g_k_warmth : (Nat → Nat → UInt32)) (g_k_kind : (Nat → Nat → Int32)) (g_k_figure : (Nat → Nat → Int32)) (g_k_airCell : (Nat → Nat → Int32)) (g_k_way : (Nat → Nat → Int32)) (g_k_seat : (Nat → Nat → Int32)) (g_k_shawls : (Nat → Nat → Int32)) (g_k_count : (Nat → Int32)) (g_k_steps : (Nat → Nat → Int32)) (g_k_numbers : (Nat → Nat → Int32)) (n0 : Int32) (z0 : Int32) (z1 : (Nat → Int32)) (hf : f_X6_kinds g_n_airs g_n_kind g_refused n0 = some (z0, z1)) : Ct l D y yX6_kinds wA_X6_kinds 1 21 [.ref (a 0), .int n0] ((w_X6 y a g_hasImage g_toldCount g_n_shutBits g_n_airs g_n_crownedBits g_n_sitters g_n_onBits g_n_turn g_n_taken g_n_warmth g_n_kind g_n_figure g_n_airCell g_n_way g_n_seat g_n_shawls g_n_count g_n_steps g_n_numbers g_m_shutBits g_m_airs g_m_crownedBits g_m_sitters g_m_onBits g_m_turn g_m_taken g_m_warmth g_m_kind g_m_figure g_m_airCell g_m_way g_m_seat g_m_shawls g_m_count g_m_steps g_m_numbers g_i_shutBits g_i_airs g_i_crownedBits g_i_sitters g_i_onBits g_i_turn g_i_taken g_i_warmth g_i_kind g_i_figure g_i_airCell g_i_way g_i_seat g_i_shawls g_i_count g_i_steps g_i_numbers g_past_next g_past_count g_text_length g_text_letters g_coats_sorts g_coats_sizes g_places g_coats_carried g_told g_refused g_oneHas g_otherHas) ++ (w_blob y (fun k => a (34 + (1 + k))) g_k_shutBits g_k_airs g_k_crownedBits g_k_sitters g_k_onBits g_k_turn g_k_taken g_k_warmth g_k_kind g_k_figure g_k_airCell g_k_way g_k_seat g_k_shawls g_k_count g_k_steps g_k_numbers)) ((w_X6 y a g_hasImage g_toldCount g_n_shutBits g_n_airs g_n_crownedBits g_n_sitters g_n_onBits g_n_turn g_n_taken g_n_warmth g_n_kind g_n_figure g_n_airCell g_n_way g_n_seat g_n_shawls g_n_count g_n_steps g_n_numbers g_m_shutBits g_m_airs g_m_crownedBits g_m_sitters g_m_onBits g_m_turn g_m_taken g_m_warmth g_m_kind g_m_figure g_m_airCell g_m_way g_m_seat g_m_shawls g_m_count g_m_steps g_m_numbers g_i_shutBits g_i_airs g_i_crownedBits g_i_sitters g_i_onBits g_i_turn g_i_taken g_i_warmth g_i_kind g_i_figure g_i_airCell g_i_way g_i_seat g_i_shawls g_i_count g_i_steps g_i_numbers g_past_next g_past_count g_text_length g_text_letters g_coats_sorts g_coats_sizes g_places g_coats_carried g_told z1 g_oneHas g_otherHas) ++ (w_blob y (fun k => a (34 + (1 + k))) g_k_shutBits g_k_airs g_k_crownedBits g_k_sitters g_k_onBits g_k_turn g_k_taken g_k_warmth g_k_kind g_k_figure g_k_airCell g_k_way g_k_seat g_k_shawls g_k_count g_k_steps g_k_numbers)) (some (.int z0)) := by
  refine ct_head (cc := cX6_kinds) (n := 4) (ret := (some .int)) (by decide) rfl (Nat.le_of_ble_eq_true rfl) ?_
  intro p e s m below meth c A ls hx hb hr hml hown hlocks hts hA hAe hP hK hD hl
  have hS : va_S A s.heap s.heap [] := va_S.rf
  have hl : lv_has ls 4 [(0, .ref (a 0)), (1, .int n0)] := hl
  have hown : s.vm.findClass RX6 = some m.cls := hown
  have hts : ∀ w ∈ wsL_law, w.before [.ref (a 0), .int n0].toArray s = true := fun w h => hts w (List.mem_cons_of_mem _ h)
  unfold f_X6_kinds at hf
  refine lv_iload_n hx hb dX6_kinds_0 rfl (lv_at hl 1 rfl) ?_
  refine lv_if_lt (tgt := 10) hx hb dX6_kinds_1 (by decide) (fun c1 => ?_) (fun c1 => ?_)
  · have hf := dq_t hf c1
    clear c1
    refine lv_aload_n hx hb dX6_kinds_10 rfl (lv_at hl 0 rfl) ?_
    refine lv_bipush (v := -2) hx hb dX6_kinds_11 (by decide) ?_
    obtain ⟨x2, g_refused_3, hy4, hf⟩ := dq_b2 hf
    refine ct_callV0 (ci := 5) (q0 := 0) (own := RX6) (As := [.int (-2 : Int32)]) (rest := []) (ws' := ((w_X6 y a g_hasImage g_toldCount g_n_shutBits g_n_airs g_n_crownedBits g_n_sitters g_n_onBits g_n_turn g_n_taken g_n_warmth g_n_kind g_n_figure g_n_airCell g_n_way g_n_seat g_n_shawls g_n_count g_n_steps g_n_numbers g_m_shutBits g_m_airs g_m_crownedBits g_m_sitters g_m_onBits g_m_turn g_m_taken g_m_warmth g_m_kind g_m_figure g_m_airCell g_m_way g_m_seat g_m_shawls g_m_count g_m_steps g_m_numbers g_i_shutBits g_i_airs g_i_crownedBits g_i_sitters g_i_onBits g_i_turn g_i_taken g_i_warmth g_i_kind g_i_figure g_i_airCell g_i_way g_i_seat g_i_shawls g_i_count g_i_steps g_i_numbers g_past_next g_past_count g_text_length g_text_letters g_coats_sorts g_coats_sizes g_places g_coats_carried g_told g_refused_3 g_oneHas g_otherHas) ++ (w_blob y (fun k => a (34 + (1 + k))) g_k_shutBits g_k_airs g_k_crownedBits g_k_sitters g_k_onBits g_k_turn g_k_taken g_k_warmth g_k_kind g_k_figure g_k_airCell g_k_way g_k_seat g_k_shawls g_k_count g_k_steps g_k_numbers))) ⟨hx, hb, hml, hown, hts⟩ (m_X6_refuse l D y a g_hasImage g_toldCount g_n_shutBits g_n_airs g_n_crownedBits g_n_sitters g_n_onBits g_n_turn g_n_taken g_n_warmth g_n_kind g_n_figure g_n_airCell g_n_way g_n_seat g_n_shawls g_n_count g_n_steps g_n_numbers g_m_shutBits g_m_airs g_m_crownedBits g_m_sitters g_m_onBits g_m_turn g_m_taken g_m_warmth g_m_kind g_m_figure g_m_airCell g_m_way g_m_seat g_m_shawls g_m_count g_m_steps g_m_numbers g_i_shutBits g_i_airs g_i_crownedBits g_i_sitters g_i_onBits g_i_turn g_i_taken g_i_warmth g_i_kind g_i_figure g_i_airCell g_i_way g_i_seat g_i_shawls g_i_count g_i_steps g_i_numbers g_past_next g_past_count g_text_length g_text_letters g_coats_sorts g_coats_sizes g_places g_coats_carried g_told g_refused g_oneHas g_otherHas g_k_shutBits g_k_airs g_k_crownedBits g_k_sitters g_k_onBits g_k_turn g_k_taken g_k_warmth g_k_kind g_k_figure g_k_airCell g_k_way g_k_seat g_k_shawls g_k_count g_k_steps g_k_numbers (-2 : Int32) x2 g_refused_3 hy4) (cwV 1 hts (gA_V wl_124 wl_125 wl_126 wl_2 wl_127) rfl rfl rfl (by decide +kernel) ⟨Nat.le_of_ble_eq_true rfl, Nat.le_of_ble_eq_true rfl⟩) rfl rfl rfl hl.1 rfl (Nat.le_of_ble_eq_true rfl) dX6_kinds_13 ⟨Nat.zero_le _, Nat.zero_le _⟩ hK hP hD hS hA (fun H locs hP hD hS => ?_)
    obtain ⟨rfl, rfl⟩ := dq_r2 hf
    exact ct_iret hx hb hr hlocks hAe hP hK hD hS dX6_kinds_16
  · have hf := dq_f hf c1
    clear c1
    refine lv_iload_n hx hb dX6_kinds_4 rfl (lv_at hl 1 rfl) ?_
    refine lv_bipush (v := 8) hx hb dX6_kinds_5 (by decide) ?_
    refine lv_icmp_lt (tgt := 17) hx hb dX6_kinds_7 (by decide) (fun c5 => ?_) (fun c5 => ?_)
    · have hf := dq_t hf c5
      clear c5
      refine lv_iconst (v := 0) hx hb dX6_kinds_17 (by decide) ?_
      refine lv_istore_n (lv' := [(2, .int (0 : Int32)), (0, .ref (a 0)), (1, .int n0)]) hx hb dX6_kinds_18 rfl hl (by decide) rfl (fun ls hl => ?_)
      refine lv_iconst (v := 0) hx hb dX6_kinds_19 (by decide) ?_
      refine lv_istore_n (lv' := [(3, .int (0 : Int32)), (2, .int (0 : Int32)), (0, .ref (a 0)), (1, .int n0)]) hx hb dX6_kinds_20 rfl hl (by decide) rfl (fun ls hl => ?_)
      have J21 : ∀ (m21 : Nat) (x6 : Int32) (x7 : Int32), f_X6_kinds_b21 n0 g_n_airs g_n_kind g_refused m21 x6 x7 = some (z0, z1) → ∀ (H : Heap) (locs : List Loc), va_P D vwCl ((w_X6 y a g_hasImage g_toldCount g_n_shutBits g_n_airs g_n_crownedBits g_n_sitters g_n_onBits g_n_turn g_n_taken g_n_warmth g_n_kind g_n_figure g_n_airCell g_n_way g_n_seat g_n_shawls g_n_count g_n_steps g_n_numbers g_m_shutBits g_m_airs g_m_crownedBits g_m_sitters g_m_onBits g_m_turn g_m_taken g_m_warmth g_m_kind g_m_figure g_m_airCell g_m_way g_m_seat g_m_shawls g_m_count g_m_steps g_m_numbers g_i_shutBits g_i_airs g_i_crownedBits g_i_sitters g_i_onBits g_i_turn g_i_taken g_i_warmth g_i_kind g_i_figure g_i_airCell g_i_way g_i_seat g_i_shawls g_i_count g_i_steps g_i_numbers g_past_next g_past_count g_text_length g_text_letters g_coats_sorts g_coats_sizes g_places g_coats_carried g_told g_refused g_oneHas g_otherHas) ++ (w_blob y (fun k => a (34 + (1 + k))) g_k_shutBits g_k_airs g_k_crownedBits g_k_sitters g_k_onBits g_k_turn g_k_taken g_k_warmth g_k_kind g_k_figure g_k_airCell g_k_way g_k_seat g_k_shawls g_k_count g_k_steps g_k_numbers)) H → va_D A ((w_X6 y a g_hasImage g_toldCount g_n_shutBits g_n_airs g_n_crownedBits g_n_sitters g_n_onBits g_n_turn g_n_taken g_n_warmth g_n_kind g_n_figure g_n_airCell g_n_way g_n_seat g_n_shawls g_n_count g_n_steps g_n_numbers g_m_shutBits g_m_airs g_m_crownedBits g_m_sitters g_m_onBits g_m_turn g_m_taken g_m_warmth g_m_kind g_m_figure g_m_airCell g_m_way g_m_seat g_m_shawls g_m_count g_m_steps g_m_numbers g_i_shutBits g_i_airs g_i_crownedBits g_i_sitters g_i_onBits g_i_turn g_i_taken g_i_warmth g_i_kind g_i_figure g_i_airCell g_i_way g_i_seat g_i_shawls g_i_count g_i_steps g_i_numbers g_past_next g_past_count g_text_length g_text_letters g_coats_sorts g_coats_sizes g_places g_coats_carried g_told g_refused g_oneHas g_otherHas) ++ (w_blob y (fun k => a (34 + (1 + k))) g_k_shutBits g_k_airs g_k_crownedBits g_k_sitters g_k_onBits g_k_turn g_k_taken g_k_warmth g_k_kind g_k_figure g_k_airCell g_k_way g_k_seat g_k_shawls g_k_count g_k_steps g_k_numbers)) → va_S A s.heap H locs → ∀ ls : Array Slot, lv_has ls 4 [(0, .ref (a 0)), (1, .int n0), (2, .int x6), (3, .int x7)] → W p l e ({ frames := 1, cells := 0, slots := 0, locals := 21 } : Room) s m [.ref (a 0), .int n0].toArray below meth c H locs 0 0 (MQ below (dQ D y (some (.int z0)) s.heap.size ((w_X6 y a g_hasImage g_toldCount g_n_shutBits g_n_airs g_n_crownedBits g_n_sitters g_n_onBits g_n_turn g_n_taken g_n_warmth g_n_kind g_n_figure g_n_airCell g_n_way g_n_seat g_n_shawls g_n_count g_n_steps g_n_numbers g_m_shutBits g_m_airs g_m_crownedBits g_m_sitters g_m_onBits g_m_turn g_m_taken g_m_warmth g_m_kind g_m_figure g_m_airCell g_m_way g_m_seat g_m_shawls g_m_count g_m_steps g_m_numbers g_i_shutBits g_i_airs g_i_crownedBits g_i_sitters g_i_onBits g_i_turn g_i_taken g_i_warmth g_i_kind g_i_figure g_i_airCell g_i_way g_i_seat g_i_shawls g_i_count g_i_steps g_i_numbers g_past_next g_past_count g_text_length g_text_letters g_coats_sorts g_coats_sizes g_places g_coats_carried g_told g_refused g_oneHas g_otherHas) ++ (w_blob y (fun k => a (34 + (1 + k))) g_k_shutBits g_k_airs g_k_crownedBits g_k_sitters g_k_onBits g_k_turn g_k_taken g_k_warmth g_k_kind g_k_figure g_k_airCell g_k_way g_k_seat g_k_shawls g_k_count g_k_steps g_k_numbers)) ((w_X6 y a g_hasImage g_toldCount g_n_shutBits g_n_airs g_n_crownedBits g_n_sitters g_n_onBits g_n_turn g_n_taken g_n_warmth g_n_kind g_n_figure g_n_airCell g_n_way g_n_seat g_n_shawls g_n_count g_n_steps g_n_numbers g_m_shutBits g_m_airs g_m_crownedBits g_m_sitters g_m_onBits g_m_turn g_m_taken g_m_warmth g_m_kind g_m_figure g_m_airCell g_m_way g_m_seat g_m_shawls g_m_count g_m_steps g_m_numbers g_i_shutBits g_i_airs g_i_crownedBits g_i_sitters g_i_onBits g_i_turn g_i_taken g_i_warmth g_i_kind g_i_figure g_i_airCell g_i_way g_i_seat g_i_shawls g_i_count g_i_steps g_i_numbers g_past_next g_past_count g_text_length g_text_letters g_coats_sorts g_coats_sizes g_places g_coats_carried g_told z1 g_oneHas g_otherHas) ++ (w_blob y (fun k => a (34 + (1 + k))) g_k_shutBits g_k_airs g_k_crownedBits g_k_sitters g_k_onBits g_k_turn g_k_taken g_k_warmth g_k_kind g_k_figure g_k_airCell g_k_way g_k_seat g_k_shawls g_k_count g_k_steps g_k_numbers))) [.ref (a 0), .int n0].toArray s 0 0 A) (F0 m 21 ls []) := by
        intro m21
        induction m21 with
        | zero => intro x6 x7 hf; exact absurd hf (by unfold f_X6_kinds_b21; exact fun h => by cases h)
        | succ m21 I21 =>
          intro x6 x7 hf H locs hP hD hS ls hl
          unfold f_X6_kinds_b21 at hf
          refine lv_iload_n hx hb dX6_kinds_21 rfl (lv_at hl 3 rfl) ?_
          refine lv_aload_n hx hb dX6_kinds_22 rfl (lv_at hl 0 rfl) ?_
          refine va_get (D := D) (ci := 5) (v := .ref (a 1)) (C := RX6) (T := TX6) (N := 12) hx hb hts iwX6 hown hK hP 0 rfl rfl 0 (by decide) (hts _ wl_15) (fun _ h9 => h9) rfl dX6_kinds_23 ?_
          refine va_get (D := D) (ci := 1) (v := .int g_n_airs) (C := RX2) (T := TX2) (N := 15) hx hb hts iwX2 hown hK hP 1 rfl rfl 2 (by decide) (hts _ wl_541) (fun _ h9 => h9) rfl dX6_kinds_26 ?_
          refine lv_icmp_ge (tgt := 54) hx hb dX6_kinds_29 (by decide) (fun c8 => ?_) (fun c8 => ?_)
          · have hf := dq_t hf c8
            clear c8
            refine lv_iload_n hx hb dX6_kinds_54 rfl (lv_at hl 2 rfl) ?_
            obtain ⟨rfl, rfl⟩ := dq_r2 hf
            exact ct_iret hx hb hr hlocks hAe hP hK hD hS dX6_kinds_55
          · have hf := dq_f hf c8
            clear c8
            refine lv_aload_n hx hb dX6_kinds_32 rfl (lv_at hl 0 rfl) ?_
            refine va_get (D := D) (ci := 5) (v := .ref (a 1)) (C := RX6) (T := TX6) (N := 12) hx hb hts iwX6 hown hK hP 0 rfl rfl 0 (by decide) (hts _ wl_15) (fun _ h9 => h9) rfl dX6_kinds_33 ?_
            refine va_get (D := D) (ci := 1) (v := .ref (a 3)) (C := RX2) (T := TX2) (N := 15) hx hb hts iwX2 hown hK hP 1 rfl rfl 3 (by decide) (hts _ wl_533) (fun _ h9 => h9) rfl dX6_kinds_36 ?_
            refine lv_iload_n hx hb dX6_kinds_39 rfl (lv_at hl 3 rfl) ?_
            obtain ⟨h9, hf⟩ := dq_g hf
            refine va_iald (cA := y 1) (n := 5) (f := g_n_kind) hx hb hK hP 3 1 rfl rfl h9 dX6_kinds_40 ?_
            refine lv_iload_n hx hb dX6_kinds_41 rfl (lv_at hl 1 rfl) ?_
            refine lv_icmp_ne (tgt := 48) hx hb dX6_kinds_42 (by decide) (fun c10 => ?_) (fun c10 => ?_)
            · have hf := dq_f hf c10
              clear c10
              obtain ⟨x11, ex11⟩ : ∃ z : Int32, z = (x7 + (1 : Int32)) := ⟨_, rfl⟩
              have hf := dq_l hf x11 ex11
              refine lv_iinc (v := x11) (lv' := [(3, .int x11), (0, .ref (a 0)), (1, .int n0), (2, .int x6)]) hx hb dX6_kinds_48 hl (k := 3) rfl (by rw [ex11]; rfl) (by decide) rfl (fun ls hl => ?_)
              clear ex11
              refine lv_goto (tgt := 21) hx hb dX6_kinds_51 (by decide) ?_
              exact I21 _ _ hf _ _ hP hD hS _ (lv_sub hl [1, 2, 3, 0] rfl)
            · have hf := dq_t hf c10
              clear c10
              obtain ⟨x12, ex12⟩ : ∃ z : Int32, z = (x6 + (1 : Int32)) := ⟨_, rfl⟩
              have hf := dq_l hf x12 ex12
              refine lv_iinc (v := x12) (lv' := [(2, .int x12), (0, .ref (a 0)), (1, .int n0), (3, .int x7)]) hx hb dX6_kinds_45 hl (k := 2) rfl (by rw [ex12]; rfl) (by decide) rfl (fun ls hl => ?_)
              clear ex12
              obtain ⟨x13, ex13⟩ : ∃ z : Int32, z = (x7 + (1 : Int32)) := ⟨_, rfl⟩
              have hf := dq_l hf x13 ex13
              refine lv_iinc (v := x13) (lv' := [(3, .int x13), (2, .int x12), (0, .ref (a 0)), (1, .int n0)]) hx hb dX6_kinds_48 hl (k := 3) rfl (by rw [ex13]; rfl) (by decide) rfl (fun ls hl => ?_)
              clear ex13
              refine lv_goto (tgt := 21) hx hb dX6_kinds_51 (by decide) ?_
              exact I21 _ _ hf _ _ hP hD hS _ (lv_sub hl [2, 3, 1, 0] rfl)
      exact J21 4096 _ _ hf _ _ hP hD hS _ (lv_sub hl [2, 3, 1, 0] rfl)
    · have hf := dq_f hf c5
      clear c5
      refine lv_aload_n hx hb dX6_kinds_10 rfl (lv_at hl 0 rfl) ?_
      refine lv_bipush (v := -2) hx hb dX6_kinds_11 (by decide) ?_
      obtain ⟨x14, g_refused_15, hy16, hf⟩ := dq_b2 hf
      refine ct_callV0 (ci := 5) (q0 := 0) (own := RX6) (As := [.int (-2 : Int32)]) (rest := []) (ws' := ((w_X6 y a g_hasImage g_toldCount g_n_shutBits g_n_airs g_n_crownedBits g_n_sitters g_n_onBits g_n_turn g_n_taken g_n_warmth g_n_kind g_n_figure g_n_airCell g_n_way g_n_seat g_n_shawls g_n_count g_n_steps g_n_numbers g_m_shutBits g_m_airs g_m_crownedBits g_m_sitters g_m_onBits g_m_turn g_m_taken g_m_warmth g_m_kind g_m_figure g_m_airCell g_m_way g_m_seat g_m_shawls g_m_count g_m_steps g_m_numbers g_i_shutBits g_i_airs g_i_crownedBits g_i_sitters g_i_onBits g_i_turn g_i_taken g_i_warmth g_i_kind g_i_figure g_i_airCell g_i_way g_i_seat g_i_shawls g_i_count g_i_steps g_i_numbers g_past_next g_past_count g_text_length g_text_letters g_coats_sorts g_coats_sizes g_places g_coats_carried g_told g_refused_15 g_oneHas g_otherHas) ++ (w_blob y (fun k => a (34 + (1 + k))) g_k_shutBits g_k_airs g_k_crownedBits g_k_sitters g_k_onBits g_k_turn g_k_taken g_k_warmth g_k_kind g_k_figure g_k_airCell g_k_way g_k_seat g_k_shawls g_k_count g_k_steps g_k_numbers))) ⟨hx, hb, hml, hown, hts⟩ (m_X6_refuse l D y a g_hasImage g_toldCount g_n_shutBits g_n_airs g_n_crownedBits g_n_sitters g_n_onBits g_n_turn g_n_taken g_n_warmth g_n_kind g_n_figure g_n_airCell g_n_way g_n_seat g_n_shawls g_n_count g_n_steps g_n_numbers g_m_shutBits g_m_airs g_m_crownedBits g_m_sitters g_m_onBits g_m_turn g_m_taken g_m_warmth g_m_kind g_m_figure g_m_airCell g_m_way g_m_seat g_m_shawls g_m_count g_m_steps g_m_numbers g_i_shutBits g_i_airs g_i_crownedBits g_i_sitters g_i_onBits g_i_turn g_i_taken g_i_warmth g_i_kind g_i_figure g_i_airCell g_i_way g_i_seat g_i_shawls g_i_count g_i_steps g_i_numbers g_past_next g_past_count g_text_length g_text_letters g_coats_sorts g_coats_sizes g_places g_coats_carried g_told g_refused g_oneHas g_otherHas g_k_shutBits g_k_airs g_k_crownedBits g_k_sitters g_k_onBits g_k_turn g_k_taken g_k_warmth g_k_kind g_k_figure g_k_airCell g_k_way g_k_seat g_k_shawls g_k_count g_k_steps g_k_numbers (-2 : Int32) x14 g_refused_15 hy16) (cwV 1 hts (gA_V wl_124 wl_125 wl_126 wl_2 wl_127) rfl rfl rfl (by decide +kernel) ⟨Nat.le_of_ble_eq_true rfl, Nat.le_of_ble_eq_true rfl⟩) rfl rfl rfl hl.1 rfl (Nat.le_of_ble_eq_true rfl) dX6_kinds_13 ⟨Nat.zero_le _, Nat.zero_le _⟩ hK hP hD hS hA (fun H locs hP hD hS => ?_)
      obtain ⟨rfl, rfl⟩ := dq_r2 hf
      exact ct_iret hx hb hr hlocks hAe hP hK hD hS dX6_kinds_16
noncomputable def f_X6_isPeg (n0 : Int32) : Option Int32 := dq_if (n0 < 0) (some (0 : Int32)) (dq_if ((3 : Int32) ≤ n0) (some (0 : Int32)) (some (1 : Int32)))
def wA_X6_isPeg : List Cond := .code yX6_isPeg cX6_isPeg 1 (some .boolean) :: wsL_law
-- DraughtsTake.isPeg(I)Z
set_option maxHeartbeats 4000000 in
set_option maxRecDepth 100000 in
theorem m_X6_isPeg (l : Launch) (D : va_G) (y : Nat → ClassId) (n0 : Int32) (z0 : Int32) (hf : f_X6_isPeg n0 = some z0) : Ct l D y yX6_isPeg wA_X6_isPeg 0 0 [.int n0] [] [] (some (.int z0)) := by
  refine ct_head (cc := cX6_isPeg) (n := 1) (ret := (some .boolean)) (by decide) rfl (Nat.le_of_ble_eq_true rfl) ?_
  intro p e s m below meth c A ls hx hb hr hml hown hlocks hts hA hAe hP hK hD hl
  have hS : va_S A s.heap s.heap [] := va_S.rf
  have hl : lv_has ls 1 [(0, .int n0)] := hl
  have hown : s.vm.findClass RX6 = some m.cls := hown
  have hts : ∀ w ∈ wsL_law, w.before [.int n0].toArray s = true := fun w h => hts w (List.mem_cons_of_mem _ h)
  unfold f_X6_isPeg at hf
  refine lv_iload_n hx hb dX6_isPeg_0 rfl (lv_at hl 0 rfl) ?_
  refine lv_if_lt (tgt := 13) hx hb dX6_isPeg_1 (by decide) (fun c1 => ?_) (fun c1 => ?_)
  · have hf := dq_t hf c1
    clear c1
    refine lv_iconst (v := 0) hx hb dX6_isPeg_13 (by decide) ?_
    obtain rfl := dq_r1 hf
    exact ct_zret hx hb hr rfl hlocks hAe hP hK hD hS dX6_isPeg_14
  · have hf := dq_f hf c1
    clear c1
    refine lv_iload_n hx hb dX6_isPeg_4 rfl (lv_at hl 0 rfl) ?_
    refine lv_iconst (v := 3) hx hb dX6_isPeg_5 (by decide) ?_
    refine lv_icmp_ge (tgt := 13) hx hb dX6_isPeg_6 (by decide) (fun c2 => ?_) (fun c2 => ?_)
    · have hf := dq_t hf c2
      clear c2
      refine lv_iconst (v := 0) hx hb dX6_isPeg_13 (by decide) ?_
      obtain rfl := dq_r1 hf
      exact ct_zret hx hb hr rfl hlocks hAe hP hK hD hS dX6_isPeg_14
    · have hf := dq_f hf c2
      clear c2
      refine lv_iconst (v := 1) hx hb dX6_isPeg_9 (by decide) ?_
      refine lv_goto (tgt := 14) hx hb dX6_isPeg_10 (by decide) ?_
      obtain rfl := dq_r1 hf
      exact ct_zret hx hb hr rfl hlocks hAe hP hK hD hS dX6_isPeg_14
