noncomputable def f_X6_cell (g_n_shutBits : Int64) (g_n_airs : Int32) (g_n_sitters : Int32) (g_n_onBits : Int32) (g_n_warmth : (Nat → UInt32)) (g_n_airCell : (Nat → Int32)) (g_n_seat : (Nat → Int32)) (g_refused : (Nat → Int32)) (n0 : Int32) (n1 : Int32) : Option (Int32 × (Nat → Int32)) := dq_bd (f_X6_isCell n0) (fun (x1 : Int32) => dq_if (x1 = 0) (dq_bd2 (f_X6_refuse g_refused (-1 : Int32)) (fun (x23 : Int32) (g_refused_24 : (Nat → Int32)) => some (x23, g_refused_24))) (dq_if (n1 = 0) (dq_bd (f_X2_isShut g_n_shutBits n0) (fun (x5 : Int32) => dq_if (x5 = 0) (some ((0 : Int32), g_refused)) (some ((1 : Int32), g_refused)))) (dq_if (n1 = 1) (dq_bd (f_X2_isFree g_n_shutBits g_n_airs g_n_sitters g_n_onBits g_n_airCell g_n_seat n0) (fun (x9 : Int32) => dq_if (x9 = 0) (some ((0 : Int32), g_refused)) (some ((1 : Int32), g_refused)))) (dq_if (n1 = 2) (dq_bd (f_X2_airOn g_n_airs g_n_airCell n0) (fun (x13 : Int32) => some (x13, g_refused))) (dq_if (n1 = 3) (dq_bd (f_X2_sitterOn g_n_sitters g_n_onBits g_n_seat n0) (fun (x16 : Int32) => some (x16, g_refused))) (dq_if (n1 = 4) (dq_gd (vp_in n0 36) (some ((FP.f2i (g_n_warmth n0.toNatClampNeg)), g_refused))) (dq_bd2 (f_X6_refuse g_refused (-2 : Int32)) (fun (x20 : Int32) (g_refused_21 : (Nat → Int32)) => some (x20, g_refused_21)))))))))
def wA_X6_cell : List Cond := .code yX6_cell cX6_cell 3 (some .int) :: wsL_law
-- DraughtsTake.cell(II)I
set_option maxHeartbeats 4000000 in
set_option maxRecDepth 100000 in
theorem m_X6_cell (l : Launch) (D : va_G) (y : Nat → ClassId) (a : (Nat → Nat)) (g_hasImage : Int32) (g_toldCount : Int32) (g_n_shutBits : Int64) (g_n_airs : Int32) (g_n_crownedBits : Int32) (g_n_sitters : Int32) (g_n_onBits : Int32) (g_n_turn : Int32) (g_n_taken : Int32) (g_n_warmth : (Nat → UInt32)) (g_n_kind : (Nat → Int32)) (g_n_figure : (Nat → Int32)) (g_n_airCell : (Nat → Int32)) (g_n_way : (Nat → Int32)) (g_n_seat : (Nat → Int32)) (g_n_shawls : (Nat → Int32)) (g_n_count : Int32) (g_n_steps : (Nat → Int32)) (g_n_numbers : (Nat → Int32)) (g_m_shutBits : Int64) (g_m_airs : Int32) (g_m_crownedBits : Int32) (g_m_sitters : Int32) (g_m_onBits : Int32) (g_m_turn : Int32) (g_m_taken : Int32) (g_m_warmth : (Nat → UInt32)) (g_m_kind : (Nat → Int32)) (g_m_figure : (Nat → Int32)) (g_m_airCell : (Nat → Int32)) (g_m_way : (Nat → Int32)) (g_m_seat : (Nat → Int32)) (g_m_shawls : (Nat → Int32)) (g_m_count : Int32) (g_m_steps : (Nat → Int32)) (g_m_numbers : (Nat → Int32)) (g_i_shutBits : Int64) (g_i_airs : Int32) (g_i_crownedBits : Int32) (g_i_sitters : Int32) (g_i_onBits : Int32) (g_i_turn : Int32) (g_i_taken : Int32) (g_i_warmth : (Nat → UInt32)) (g_i_kind : (Nat → Int32)) (g_i_figure : (Nat → Int32)) (g_i_airCell : (Nat → Int32)) (g_i_way : (Nat → Int32)) (g_i_seat : (Nat → Int32)) (g_i_shawls : (Nat → Int32)) (g_i_count : Int32) (g_i_steps : (Nat → Int32)) (g_i_numbers : (Nat → Int32)) (g_past_next : Int32) (g_past_count : Int32) (g_text_length : Int32) (g_text_letters : (Nat → Int32)) (g_coats_sorts : (Nat → Int32)) (g_coats_sizes : (Nat → Int32)) (g_places : (Nat → Nat → Int32)) (g_coats_carried : (Nat → Int32)) (g_told : (Nat → Int32)) (g_refused : (Nat → Int32)) (g_oneHas : (Nat → Int32)) (g_otherHas : (Nat → Int32)) (g_k_shutBits : (Nat → Int64)) (g_k_airs : (Nat → Int32)) (g_k_crownedBits : (Nat → Int32)) (g_k_sitters : (Nat → Int32)) (g_k_onBits : (Nat → Int32)) (g_k_turn : (Nat → Int32)) (g_k_taken : (Nat → Int32)) (g_k_warmth : (Nat → Nat → UInt32)) (g_k_kind : (Nat → Nat → Int32)) (g_k_figure : (Nat → Nat → Int32)) (g_k_airCell : (Nat → Nat → Int32)) (g_k_way : (Nat → Nat → Int32)) (g_k_seat : (Nat → Nat → Int32)) (g_k_shawls : (Nat → Nat → Int32)) (g_k_count : (Nat → Int32)) (g_k_steps : (Nat → Nat → Int32)) (g_k_numbers : (Nat → Nat → Int32)) (n0 : Int32) (n1 : Int32) (z0 : Int32) (z1 : (Nat → Int32)) (hf : f_X6_cell g_n_shutBits g_n_airs g_n_sitters g_n_onBits g_n_warmth g_n_airCell g_n_seat g_refused n0 n1 = some (z0, z1)) : Ct l D y yX6_cell wA_X6_cell 2 43 [.ref (a 0), .int n0, .int n1] ((w_X6 y a g_hasImage g_toldCount g_n_shutBits g_n_airs g_n_crownedBits g_n_sitters g_n_onBits g_n_turn g_n_taken g_n_warmth g_n_kind g_n_figure g_n_airCell g_n_way g_n_seat g_n_shawls g_n_count g_n_steps g_n_numbers g_m_shutBits g_m_airs g_m_crownedBits g_m_sitters g_m_onBits g_m_turn g_m_taken g_m_warmth g_m_kind g_m_figure g_m_airCell g_m_way g_m_seat g_m_shawls g_m_count g_m_steps g_m_numbers g_i_shutBits g_i_airs g_i_crownedBits g_i_sitters g_i_onBits g_i_turn g_i_taken g_i_warmth g_i_kind g_i_figure g_i_airCell g_i_way g_i_seat g_i_shawls g_i_count g_i_steps g_i_numbers g_past_next g_past_count g_text_length g_text_letters g_coats_sorts g_coats_sizes g_places g_coats_carried g_told g_refused g_oneHas g_otherHas) ++ (w_blob y (fun k => a (34 + (1 + k))) g_k_shutBits g_k_airs g_k_crownedBits g_k_sitters g_k_onBits g_k_turn g_k_taken g_k_warmth g_k_kind g_k_figure g_k_airCell g_k_way g_k_seat g_k_shawls g_k_count g_k_steps g_k_numbers)) ((w_X6 y a g_hasImage g_toldCount g_n_shutBits g_n_airs g_n_crownedBits g_n_sitters g_n_onBits g_n_turn g_n_taken g_n_warmth g_n_kind g_n_figure g_n_airCell g_n_way g_n_seat g_n_shawls g_n_count g_n_steps g_n_numbers g_m_shutBits g_m_airs g_m_crownedBits g_m_sitters g_m_onBits g_m_turn g_m_taken g_m_warmth g_m_kind g_m_figure g_m_airCell g_m_way g_m_seat g_m_shawls g_m_count g_m_steps g_m_numbers g_i_shutBits g_i_airs g_i_crownedBits g_i_sitters g_i_onBits g_i_turn g_i_taken g_i_warmth g_i_kind g_i_figure g_i_airCell g_i_way g_i_seat g_i_shawls g_i_count g_i_steps g_i_numbers g_past_next g_past_count g_text_length g_text_letters g_coats_sorts g_coats_sizes g_places g_coats_carried g_told z1 g_oneHas g_otherHas) ++ (w_blob y (fun k => a (34 + (1 + k))) g_k_shutBits g_k_airs g_k_crownedBits g_k_sitters g_k_onBits g_k_turn g_k_taken g_k_warmth g_k_kind g_k_figure g_k_airCell g_k_way g_k_seat g_k_shawls g_k_count g_k_steps g_k_numbers)) (some (.int z0)) := by
  refine ct_head (cc := cX6_cell) (n := 3) (ret := (some .int)) (by decide) rfl (Nat.le_of_ble_eq_true rfl) ?_
  intro p e s m below meth c A ls hx hb hr hml hown hlocks hts hA hAe hP hK hD hl
  have hS : va_S A s.heap s.heap [] := va_S.rf
  have hl : lv_has ls 3 [(0, .ref (a 0)), (1, .int n0), (2, .int n1)] := hl
  have hown : s.vm.findClass RX6 = some m.cls := hown
  have hts : ∀ w ∈ wsL_law, w.before [.ref (a 0), .int n0, .int n1].toArray s = true := fun w h => hts w (List.mem_cons_of_mem _ h)
  unfold f_X6_cell at hf
  refine lv_iload_n hx hb dX6_cell_0 rfl (lv_at hl 1 rfl) ?_
  obtain ⟨x1, hy2, hf⟩ := dq_b hf
  refine ct_callS0 (own := RX6) (As := [.int n0]) (rest := []) ⟨hx, hb, hml, hown, hts⟩ (m_X6_isCell l D y n0 x1 hy2) (va_cwS 1 hts (gA_S wl_578 wl_579 wl_2 wl_580) rfl rfl rfl (by decide +kernel) ⟨Nat.le_of_ble_eq_true rfl, Nat.le_of_ble_eq_true rfl⟩) rfl hl.1 rfl (Nat.le_of_ble_eq_true rfl) dX6_cell_1 ⟨Nat.zero_le _, Nat.zero_le _⟩ hK hP hD hS hA (fun H locs hP hD hS => ?_)
  refine lv_if_ne (tgt := 13) hx hb dX6_cell_4 (by decide) (fun c3 => ?_) (fun c3 => ?_)
  · have hf := dq_f hf c3
    clear c3
    refine lv_iload_n hx hb dX6_cell_13 rfl (lv_at hl 2 rfl) ?_
    by_cases c4 : n1 = (0 : Int32)
    · have hf := dq_t hf c4
      refine lv_tableIn (tgt := 48) (off := 34) hx hb dX6_cell_14 (by rw [c4]; decide) (by rw [c4]; decide) (by rw [c4]; decide) (by decide) ?_
      clear c4
      refine lv_aload_n hx hb dX6_cell_48 rfl (lv_at hl 0 rfl) ?_
      refine va_get (D := D) (ci := 5) (v := .ref (a 1)) (C := RX6) (T := TX6) (N := 12) hx hb hts iwX6 hown hK hP 0 rfl rfl 0 (by decide) (hts _ wl_15) (fun _ h9 => h9) rfl dX6_cell_49 ?_
      refine lv_iload_n hx hb dX6_cell_52 rfl (lv_at hl 1 rfl) ?_
      obtain ⟨x5, hy6, hf⟩ := dq_b hf
      refine ct_callVS (ci := 1) (q0 := 0) (own := RX6) (As := [.int n0]) (rest := []) (L' := (w_X6 y a g_hasImage g_toldCount g_n_shutBits g_n_airs g_n_crownedBits g_n_sitters g_n_onBits g_n_turn g_n_taken g_n_warmth g_n_kind g_n_figure g_n_airCell g_n_way g_n_seat g_n_shawls g_n_count g_n_steps g_n_numbers g_m_shutBits g_m_airs g_m_crownedBits g_m_sitters g_m_onBits g_m_turn g_m_taken g_m_warmth g_m_kind g_m_figure g_m_airCell g_m_way g_m_seat g_m_shawls g_m_count g_m_steps g_m_numbers g_i_shutBits g_i_airs g_i_crownedBits g_i_sitters g_i_onBits g_i_turn g_i_taken g_i_warmth g_i_kind g_i_figure g_i_airCell g_i_way g_i_seat g_i_shawls g_i_count g_i_steps g_i_numbers g_past_next g_past_count g_text_length g_text_letters g_coats_sorts g_coats_sizes g_places g_coats_carried g_told g_refused g_oneHas g_otherHas)) (B := (w_blob y (fun k => a (34 + (1 + k))) g_k_shutBits g_k_airs g_k_crownedBits g_k_sitters g_k_onBits g_k_turn g_k_taken g_k_warmth g_k_kind g_k_figure g_k_airCell g_k_way g_k_seat g_k_shawls g_k_count g_k_steps g_k_numbers)) ⟨hx, hb, hml, hown, hts⟩ (m_X2_isShut l D y (fun k => a (1 + k)) g_n_shutBits g_n_airs g_n_crownedBits g_n_sitters g_n_onBits g_n_turn g_n_taken g_n_warmth g_n_kind g_n_figure g_n_airCell g_n_way g_n_seat g_n_shawls g_n_count g_n_steps g_n_numbers n0 x5 hy6) (cwV 1 hts (gA_V wl_581 wl_220 wl_221 wl_14 wl_222) rfl rfl rfl (by decide +kernel) ⟨Nat.le_of_ble_eq_true rfl, Nat.le_of_ble_eq_true rfl⟩) rfl rfl rfl hl.1 rfl (Nat.le_of_ble_eq_true rfl) dX6_cell_53 ⟨Nat.zero_le _, Nat.zero_le _⟩ hK hP hD hS hA (ct_tail 1 11) rfl rfl (by decide) rfl (sg1 1 11 rfl rfl) (fun H locs hP hD hS => ?_)
      refine lv_if_eq (tgt := 63) hx hb dX6_cell_56 (by decide) (fun c7 => ?_) (fun c7 => ?_)
      · have hf := dq_t hf c7
        clear c7
        refine lv_iconst (v := 0) hx hb dX6_cell_63 (by decide) ?_
        obtain ⟨rfl, rfl⟩ := dq_r2 hf
        exact ct_iret hx hb hr hlocks hAe hP hK hD hS dX6_cell_64
      · have hf := dq_f hf c7
        clear c7
        refine lv_iconst (v := 1) hx hb dX6_cell_59 (by decide) ?_
        refine lv_goto (tgt := 64) hx hb dX6_cell_60 (by decide) ?_
        obtain ⟨rfl, rfl⟩ := dq_r2 hf
        exact ct_iret hx hb hr hlocks hAe hP hK hD hS dX6_cell_64
    have hf := dq_f hf c4
    by_cases c8 : n1 = (1 : Int32)
    · have hf := dq_t hf c8
      refine lv_tableIn (tgt := 65) (off := 51) hx hb dX6_cell_14 (by rw [c8]; decide) (by rw [c8]; decide) (by rw [c8]; decide) (by decide) ?_
      clear c4 c8
      refine lv_aload_n hx hb dX6_cell_65 rfl (lv_at hl 0 rfl) ?_
      refine va_get (D := D) (ci := 5) (v := .ref (a 1)) (C := RX6) (T := TX6) (N := 12) hx hb hts iwX6 hown hK hP 0 rfl rfl 0 (by decide) (hts _ wl_15) (fun _ h9 => h9) rfl dX6_cell_66 ?_
      refine lv_iload_n hx hb dX6_cell_69 rfl (lv_at hl 1 rfl) ?_
      obtain ⟨x9, hy10, hf⟩ := dq_b hf
      refine ct_callVS (ci := 1) (q0 := 0) (own := RX6) (As := [.int n0]) (rest := []) (L' := (w_X6 y a g_hasImage g_toldCount g_n_shutBits g_n_airs g_n_crownedBits g_n_sitters g_n_onBits g_n_turn g_n_taken g_n_warmth g_n_kind g_n_figure g_n_airCell g_n_way g_n_seat g_n_shawls g_n_count g_n_steps g_n_numbers g_m_shutBits g_m_airs g_m_crownedBits g_m_sitters g_m_onBits g_m_turn g_m_taken g_m_warmth g_m_kind g_m_figure g_m_airCell g_m_way g_m_seat g_m_shawls g_m_count g_m_steps g_m_numbers g_i_shutBits g_i_airs g_i_crownedBits g_i_sitters g_i_onBits g_i_turn g_i_taken g_i_warmth g_i_kind g_i_figure g_i_airCell g_i_way g_i_seat g_i_shawls g_i_count g_i_steps g_i_numbers g_past_next g_past_count g_text_length g_text_letters g_coats_sorts g_coats_sizes g_places g_coats_carried g_told g_refused g_oneHas g_otherHas)) (B := (w_blob y (fun k => a (34 + (1 + k))) g_k_shutBits g_k_airs g_k_crownedBits g_k_sitters g_k_onBits g_k_turn g_k_taken g_k_warmth g_k_kind g_k_figure g_k_airCell g_k_way g_k_seat g_k_shawls g_k_count g_k_steps g_k_numbers)) ⟨hx, hb, hml, hown, hts⟩ (m_X2_isFree l D y (fun k => a (1 + k)) g_n_shutBits g_n_airs g_n_crownedBits g_n_sitters g_n_onBits g_n_turn g_n_taken g_n_warmth g_n_kind g_n_figure g_n_airCell g_n_way g_n_seat g_n_shawls g_n_count g_n_steps g_n_numbers n0 x9 hy10) (cwV 1 hts (gA_V wl_582 wl_216 wl_217 wl_14 wl_218) rfl rfl rfl (by decide +kernel) ⟨Nat.le_of_ble_eq_true rfl, Nat.le_of_ble_eq_true rfl⟩) rfl rfl rfl hl.1 rfl (Nat.le_of_ble_eq_true rfl) dX6_cell_70 ⟨Nat.zero_le _, Nat.zero_le _⟩ hK hP hD hS hA (ct_tail 1 11) rfl rfl (by decide) rfl (sg1 1 11 rfl rfl) (fun H locs hP hD hS => ?_)
      refine lv_if_eq (tgt := 80) hx hb dX6_cell_73 (by decide) (fun c11 => ?_) (fun c11 => ?_)
      · have hf := dq_t hf c11
        clear c11
        refine lv_iconst (v := 0) hx hb dX6_cell_80 (by decide) ?_
        obtain ⟨rfl, rfl⟩ := dq_r2 hf
        exact ct_iret hx hb hr hlocks hAe hP hK hD hS dX6_cell_81
      · have hf := dq_f hf c11
        clear c11
        refine lv_iconst (v := 1) hx hb dX6_cell_76 (by decide) ?_
        refine lv_goto (tgt := 81) hx hb dX6_cell_77 (by decide) ?_
        obtain ⟨rfl, rfl⟩ := dq_r2 hf
        exact ct_iret hx hb hr hlocks hAe hP hK hD hS dX6_cell_81
    have hf := dq_f hf c8
    by_cases c12 : n1 = (2 : Int32)
    · have hf := dq_t hf c12
      refine lv_tableIn (tgt := 82) (off := 68) hx hb dX6_cell_14 (by rw [c12]; decide) (by rw [c12]; decide) (by rw [c12]; decide) (by decide) ?_
      clear c4 c8 c12
      refine lv_aload_n hx hb dX6_cell_82 rfl (lv_at hl 0 rfl) ?_
      refine va_get (D := D) (ci := 5) (v := .ref (a 1)) (C := RX6) (T := TX6) (N := 12) hx hb hts iwX6 hown hK hP 0 rfl rfl 0 (by decide) (hts _ wl_15) (fun _ h9 => h9) rfl dX6_cell_83 ?_
      refine lv_iload_n hx hb dX6_cell_86 rfl (lv_at hl 1 rfl) ?_
      obtain ⟨x13, hy14, hf⟩ := dq_b hf
      refine ct_callVS (ci := 1) (q0 := 0) (own := RX6) (As := [.int n0]) (rest := []) (L' := (w_X6 y a g_hasImage g_toldCount g_n_shutBits g_n_airs g_n_crownedBits g_n_sitters g_n_onBits g_n_turn g_n_taken g_n_warmth g_n_kind g_n_figure g_n_airCell g_n_way g_n_seat g_n_shawls g_n_count g_n_steps g_n_numbers g_m_shutBits g_m_airs g_m_crownedBits g_m_sitters g_m_onBits g_m_turn g_m_taken g_m_warmth g_m_kind g_m_figure g_m_airCell g_m_way g_m_seat g_m_shawls g_m_count g_m_steps g_m_numbers g_i_shutBits g_i_airs g_i_crownedBits g_i_sitters g_i_onBits g_i_turn g_i_taken g_i_warmth g_i_kind g_i_figure g_i_airCell g_i_way g_i_seat g_i_shawls g_i_count g_i_steps g_i_numbers g_past_next g_past_count g_text_length g_text_letters g_coats_sorts g_coats_sizes g_places g_coats_carried g_told g_refused g_oneHas g_otherHas)) (B := (w_blob y (fun k => a (34 + (1 + k))) g_k_shutBits g_k_airs g_k_crownedBits g_k_sitters g_k_onBits g_k_turn g_k_taken g_k_warmth g_k_kind g_k_figure g_k_airCell g_k_way g_k_seat g_k_shawls g_k_count g_k_steps g_k_numbers)) ⟨hx, hb, hml, hown, hts⟩ (m_X2_airOn l D y (fun k => a (1 + k)) g_n_shutBits g_n_airs g_n_crownedBits g_n_sitters g_n_onBits g_n_turn g_n_taken g_n_warmth g_n_kind g_n_figure g_n_airCell g_n_way g_n_seat g_n_shawls g_n_count g_n_steps g_n_numbers n0 x13 hy14) (cwV 1 hts (gA_V wl_583 wl_224 wl_225 wl_14 wl_226) rfl rfl rfl (by decide +kernel) ⟨Nat.le_of_ble_eq_true rfl, Nat.le_of_ble_eq_true rfl⟩) rfl rfl rfl hl.1 rfl (Nat.le_of_ble_eq_true rfl) dX6_cell_87 ⟨Nat.zero_le _, Nat.zero_le _⟩ hK hP hD hS hA (ct_tail 1 11) rfl rfl (by decide) rfl (sg1 1 11 rfl rfl) (fun H locs hP hD hS => ?_)
      obtain ⟨rfl, rfl⟩ := dq_r2 hf
      exact ct_iret hx hb hr hlocks hAe hP hK hD hS dX6_cell_90
    have hf := dq_f hf c12
    by_cases c15 : n1 = (3 : Int32)
    · have hf := dq_t hf c15
      refine lv_tableIn (tgt := 91) (off := 77) hx hb dX6_cell_14 (by rw [c15]; decide) (by rw [c15]; decide) (by rw [c15]; decide) (by decide) ?_
      clear c4 c8 c12 c15
      refine lv_aload_n hx hb dX6_cell_91 rfl (lv_at hl 0 rfl) ?_
      refine va_get (D := D) (ci := 5) (v := .ref (a 1)) (C := RX6) (T := TX6) (N := 12) hx hb hts iwX6 hown hK hP 0 rfl rfl 0 (by decide) (hts _ wl_15) (fun _ h9 => h9) rfl dX6_cell_92 ?_
      refine lv_iload_n hx hb dX6_cell_95 rfl (lv_at hl 1 rfl) ?_
      obtain ⟨x16, hy17, hf⟩ := dq_b hf
      refine ct_callVS (ci := 1) (q0 := 0) (own := RX6) (As := [.int n0]) (rest := []) (L' := (w_X6 y a g_hasImage g_toldCount g_n_shutBits g_n_airs g_n_crownedBits g_n_sitters g_n_onBits g_n_turn g_n_taken g_n_warmth g_n_kind g_n_figure g_n_airCell g_n_way g_n_seat g_n_shawls g_n_count g_n_steps g_n_numbers g_m_shutBits g_m_airs g_m_crownedBits g_m_sitters g_m_onBits g_m_turn g_m_taken g_m_warmth g_m_kind g_m_figure g_m_airCell g_m_way g_m_seat g_m_shawls g_m_count g_m_steps g_m_numbers g_i_shutBits g_i_airs g_i_crownedBits g_i_sitters g_i_onBits g_i_turn g_i_taken g_i_warmth g_i_kind g_i_figure g_i_airCell g_i_way g_i_seat g_i_shawls g_i_count g_i_steps g_i_numbers g_past_next g_past_count g_text_length g_text_letters g_coats_sorts g_coats_sizes g_places g_coats_carried g_told g_refused g_oneHas g_otherHas)) (B := (w_blob y (fun k => a (34 + (1 + k))) g_k_shutBits g_k_airs g_k_crownedBits g_k_sitters g_k_onBits g_k_turn g_k_taken g_k_warmth g_k_kind g_k_figure g_k_airCell g_k_way g_k_seat g_k_shawls g_k_count g_k_steps g_k_numbers)) ⟨hx, hb, hml, hown, hts⟩ (m_X2_sitterOn l D y (fun k => a (1 + k)) g_n_shutBits g_n_airs g_n_crownedBits g_n_sitters g_n_onBits g_n_turn g_n_taken g_n_warmth g_n_kind g_n_figure g_n_airCell g_n_way g_n_seat g_n_shawls g_n_count g_n_steps g_n_numbers n0 x16 hy17) (cwV 1 hts (gA_V wl_584 wl_228 wl_229 wl_14 wl_230) rfl rfl rfl (by decide +kernel) ⟨Nat.le_of_ble_eq_true rfl, Nat.le_of_ble_eq_true rfl⟩) rfl rfl rfl hl.1 rfl (Nat.le_of_ble_eq_true rfl) dX6_cell_96 ⟨Nat.zero_le _, Nat.zero_le _⟩ hK hP hD hS hA (ct_tail 1 11) rfl rfl (by decide) rfl (sg1 1 11 rfl rfl) (fun H locs hP hD hS => ?_)
      obtain ⟨rfl, rfl⟩ := dq_r2 hf
      exact ct_iret hx hb hr hlocks hAe hP hK hD hS dX6_cell_99
    have hf := dq_f hf c15
    by_cases c18 : n1 = (4 : Int32)
    · have hf := dq_t hf c18
      refine lv_tableIn (tgt := 100) (off := 86) hx hb dX6_cell_14 (by rw [c18]; decide) (by rw [c18]; decide) (by rw [c18]; decide) (by decide) ?_
      clear c4 c8 c12 c15 c18
      refine lv_aload_n hx hb dX6_cell_100 rfl (lv_at hl 0 rfl) ?_
      refine va_get (D := D) (ci := 5) (v := .ref (a 1)) (C := RX6) (T := TX6) (N := 12) hx hb hts iwX6 hown hK hP 0 rfl rfl 0 (by decide) (hts _ wl_15) (fun _ h9 => h9) rfl dX6_cell_101 ?_
      refine va_get (D := D) (ci := 1) (v := .ref (a 2)) (C := RX2) (T := TX2) (N := 15) hx hb hts iwX2 hown hK hP 1 rfl rfl 0 (by decide) (hts _ wl_577) (fun _ h9 => h9) rfl dX6_cell_104 ?_
      refine lv_iload_n hx hb dX6_cell_107 rfl (lv_at hl 1 rfl) ?_
      obtain ⟨h19, hf⟩ := dq_g hf
      refine va_fald (cA := y 0) (n := 36) (f := g_n_warmth) hx hb hK hP 2 0 rfl rfl h19 dX6_cell_108 ?_
      refine lv_f2i hx hb dX6_cell_109 ?_
      obtain ⟨rfl, rfl⟩ := dq_r2 hf
      exact ct_iret hx hb hr hlocks hAe hP hK hD hS dX6_cell_110
    have hf := dq_f hf c18
    have c4 : n1.toInt ≠ 0 := fun q => c4 (Int32.toInt_inj.mp q)
    have c8 : n1.toInt ≠ 1 := fun q => c8 (Int32.toInt_inj.mp q)
    have c12 : n1.toInt ≠ 2 := fun q => c12 (Int32.toInt_inj.mp q)
    have c15 : n1.toInt ≠ 3 := fun q => c15 (Int32.toInt_inj.mp q)
    have c18 : n1.toInt ≠ 4 := fun q => c18 (Int32.toInt_inj.mp q)
    refine lv_tableOut (tgt := 111) hx hb dX6_cell_14 (by omega) (by decide) ?_
    clear c4 c8 c12 c15 c18
    refine lv_aload_n hx hb dX6_cell_111 rfl (lv_at hl 0 rfl) ?_
    refine lv_bipush (v := -2) hx hb dX6_cell_112 (by decide) ?_
    obtain ⟨x20, g_refused_21, hy22, hf⟩ := dq_b2 hf
    refine ct_callV0 (ci := 5) (q0 := 0) (own := RX6) (As := [.int (-2 : Int32)]) (rest := []) (ws' := ((w_X6 y a g_hasImage g_toldCount g_n_shutBits g_n_airs g_n_crownedBits g_n_sitters g_n_onBits g_n_turn g_n_taken g_n_warmth g_n_kind g_n_figure g_n_airCell g_n_way g_n_seat g_n_shawls g_n_count g_n_steps g_n_numbers g_m_shutBits g_m_airs g_m_crownedBits g_m_sitters g_m_onBits g_m_turn g_m_taken g_m_warmth g_m_kind g_m_figure g_m_airCell g_m_way g_m_seat g_m_shawls g_m_count g_m_steps g_m_numbers g_i_shutBits g_i_airs g_i_crownedBits g_i_sitters g_i_onBits g_i_turn g_i_taken g_i_warmth g_i_kind g_i_figure g_i_airCell g_i_way g_i_seat g_i_shawls g_i_count g_i_steps g_i_numbers g_past_next g_past_count g_text_length g_text_letters g_coats_sorts g_coats_sizes g_places g_coats_carried g_told g_refused_21 g_oneHas g_otherHas) ++ (w_blob y (fun k => a (34 + (1 + k))) g_k_shutBits g_k_airs g_k_crownedBits g_k_sitters g_k_onBits g_k_turn g_k_taken g_k_warmth g_k_kind g_k_figure g_k_airCell g_k_way g_k_seat g_k_shawls g_k_count g_k_steps g_k_numbers))) ⟨hx, hb, hml, hown, hts⟩ (m_X6_refuse l D y a g_hasImage g_toldCount g_n_shutBits g_n_airs g_n_crownedBits g_n_sitters g_n_onBits g_n_turn g_n_taken g_n_warmth g_n_kind g_n_figure g_n_airCell g_n_way g_n_seat g_n_shawls g_n_count g_n_steps g_n_numbers g_m_shutBits g_m_airs g_m_crownedBits g_m_sitters g_m_onBits g_m_turn g_m_taken g_m_warmth g_m_kind g_m_figure g_m_airCell g_m_way g_m_seat g_m_shawls g_m_count g_m_steps g_m_numbers g_i_shutBits g_i_airs g_i_crownedBits g_i_sitters g_i_onBits g_i_turn g_i_taken g_i_warmth g_i_kind g_i_figure g_i_airCell g_i_way g_i_seat g_i_shawls g_i_count g_i_steps g_i_numbers g_past_next g_past_count g_text_length g_text_letters g_coats_sorts g_coats_sizes g_places g_coats_carried g_told g_refused g_oneHas g_otherHas g_k_shutBits g_k_airs g_k_crownedBits g_k_sitters g_k_onBits g_k_turn g_k_taken g_k_warmth g_k_kind g_k_figure g_k_airCell g_k_way g_k_seat g_k_shawls g_k_count g_k_steps g_k_numbers (-2 : Int32) x20 g_refused_21 hy22) (cwV 1 hts (gA_V wl_124 wl_125 wl_126 wl_2 wl_127) rfl rfl rfl (by decide +kernel) ⟨Nat.le_of_ble_eq_true rfl, Nat.le_of_ble_eq_true rfl⟩) rfl rfl rfl hl.1 rfl (Nat.le_of_ble_eq_true rfl) dX6_cell_114 ⟨Nat.zero_le _, Nat.zero_le _⟩ hK hP hD hS hA (fun H locs hP hD hS => ?_)
    obtain ⟨rfl, rfl⟩ := dq_r2 hf
    exact ct_iret hx hb hr hlocks hAe hP hK hD hS dX6_cell_117
  · have hf := dq_t hf c3
    clear c3
    refine lv_aload_n hx hb dX6_cell_7 rfl (lv_at hl 0 rfl) ?_
    refine lv_iconst (v := -1) hx hb dX6_cell_8 (by decide) ?_
    obtain ⟨x23, g_refused_24, hy25, hf⟩ := dq_b2 hf
    refine ct_callV0 (ci := 5) (q0 := 0) (own := RX6) (As := [.int (-1 : Int32)]) (rest := []) (ws' := ((w_X6 y a g_hasImage g_toldCount g_n_shutBits g_n_airs g_n_crownedBits g_n_sitters g_n_onBits g_n_turn g_n_taken g_n_warmth g_n_kind g_n_figure g_n_airCell g_n_way g_n_seat g_n_shawls g_n_count g_n_steps g_n_numbers g_m_shutBits g_m_airs g_m_crownedBits g_m_sitters g_m_onBits g_m_turn g_m_taken g_m_warmth g_m_kind g_m_figure g_m_airCell g_m_way g_m_seat g_m_shawls g_m_count g_m_steps g_m_numbers g_i_shutBits g_i_airs g_i_crownedBits g_i_sitters g_i_onBits g_i_turn g_i_taken g_i_warmth g_i_kind g_i_figure g_i_airCell g_i_way g_i_seat g_i_shawls g_i_count g_i_steps g_i_numbers g_past_next g_past_count g_text_length g_text_letters g_coats_sorts g_coats_sizes g_places g_coats_carried g_told g_refused_24 g_oneHas g_otherHas) ++ (w_blob y (fun k => a (34 + (1 + k))) g_k_shutBits g_k_airs g_k_crownedBits g_k_sitters g_k_onBits g_k_turn g_k_taken g_k_warmth g_k_kind g_k_figure g_k_airCell g_k_way g_k_seat g_k_shawls g_k_count g_k_steps g_k_numbers))) ⟨hx, hb, hml, hown, hts⟩ (m_X6_refuse l D y a g_hasImage g_toldCount g_n_shutBits g_n_airs g_n_crownedBits g_n_sitters g_n_onBits g_n_turn g_n_taken g_n_warmth g_n_kind g_n_figure g_n_airCell g_n_way g_n_seat g_n_shawls g_n_count g_n_steps g_n_numbers g_m_shutBits g_m_airs g_m_crownedBits g_m_sitters g_m_onBits g_m_turn g_m_taken g_m_warmth g_m_kind g_m_figure g_m_airCell g_m_way g_m_seat g_m_shawls g_m_count g_m_steps g_m_numbers g_i_shutBits g_i_airs g_i_crownedBits g_i_sitters g_i_onBits g_i_turn g_i_taken g_i_warmth g_i_kind g_i_figure g_i_airCell g_i_way g_i_seat g_i_shawls g_i_count g_i_steps g_i_numbers g_past_next g_past_count g_text_length g_text_letters g_coats_sorts g_coats_sizes g_places g_coats_carried g_told g_refused g_oneHas g_otherHas g_k_shutBits g_k_airs g_k_crownedBits g_k_sitters g_k_onBits g_k_turn g_k_taken g_k_warmth g_k_kind g_k_figure g_k_airCell g_k_way g_k_seat g_k_shawls g_k_count g_k_steps g_k_numbers (-1 : Int32) x23 g_refused_24 hy25) (cwV 1 hts (gA_V wl_124 wl_125 wl_126 wl_2 wl_127) rfl rfl rfl (by decide +kernel) ⟨Nat.le_of_ble_eq_true rfl, Nat.le_of_ble_eq_true rfl⟩) rfl rfl rfl hl.1 rfl (Nat.le_of_ble_eq_true rfl) dX6_cell_9 ⟨Nat.zero_le _, Nat.zero_le _⟩ hK hP hD hS hA (fun H locs hP hD hS => ?_)
    obtain ⟨rfl, rfl⟩ := dq_r2 hf
    exact ct_iret hx hb hr hlocks hAe hP hK hD hS dX6_cell_12
noncomputable def f_X6_bitsOf_b112 (x2 : Int32) (x7 : UInt32) (x8 : Int32)   : Option Int32 := dq_if (0 ≤ (Op.cmpValue (FP.fcmp x7 FP.fconst1) .g)) (dq_gd (vf_n32 (FP.fsub x7 FP.fconst1)) (dq_let (FP.fsub x7 FP.fconst1) (fun (x12 : UInt32) => dq_gd (vf_n32 (FP.fmul x12 (1258291200 : UInt32))) (dq_let (FP.fmul x12 (1258291200 : UInt32)) (fun (x14 : UInt32) => some ((x2 ||| (x8 <<< ((23 : Int32) &&& 31))) ||| (FP.f2i x14))))))) (dq_gd (vf_n32 (FP.fmul x7 (1258291200 : UInt32))) (dq_let (FP.fmul x7 (1258291200 : UInt32)) (fun (x16 : UInt32) => some (x2 ||| (FP.f2i x16)))))
noncomputable def f_X6_bitsOf_b86 (x2 : Int32)  : Nat → UInt32 → Int32 → Int32 → Option Int32
  | 0, _, _, _ => none
  | m86 + 1, x7, x8, x9 => dq_if ((126 : Int32) ≤ x9) (f_X6_bitsOf_b112 x2 x7 x8) (dq_if (0 ≤ (Op.cmpValue (FP.fcmp x7 FP.fconst1) .g)) (f_X6_bitsOf_b112 x2 x7 x8) (dq_gd (vf_n32 (FP.fmul x7 FP.fconst2)) (dq_let (FP.fmul x7 FP.fconst2) (fun (x20 : UInt32) => dq_let (x8 + (-1 : Int32)) (fun (x21 : Int32) => dq_let (x9 + (1 : Int32)) (fun (x22 : Int32) => (f_X6_bitsOf_b86 x2 m86) x20 x21 x22))))))
noncomputable def f_X6_bitsOf_b83 (x2 : Int32) (x4 : UInt32) (x5 : Int32)   : Option Int32 := f_X6_bitsOf_b86 x2 4096 x4 x5 (0 : Int32)
noncomputable def f_X6_bitsOf_b55 (x2 : Int32)  : Nat → UInt32 → Int32 → Int32 → Option Int32
  | 0, _, _, _ => none
  | m55 + 1, x4, x5, x6 => dq_if ((127 : Int32) ≤ x6) (f_X6_bitsOf_b83 x2 x4 x5) (dq_if ((Op.cmpValue (FP.fcmp x4 FP.fconst2) .l) < 0) (f_X6_bitsOf_b83 x2 x4 x5) (dq_gd (vf_n32 (FP.fmul x4 (1056964608 : UInt32))) (dq_let (FP.fmul x4 (1056964608 : UInt32)) (fun (x26 : UInt32) => dq_let (x5 + (1 : Int32)) (fun (x27 : Int32) => dq_let (x6 + (1 : Int32)) (fun (x28 : Int32) => (f_X6_bitsOf_b55 x2 m55) x26 x27 x28))))))
noncomputable def f_X6_bitsOf_b48 (x2 : Int32)  (x3 : UInt32) : Option Int32 := f_X6_bitsOf_b55 x2 4096 x3 (127 : Int32) (0 : Int32)
noncomputable def f_X6_bitsOf_b35 (n0 : UInt32)  (x2 : Int32) : Option Int32 := dq_if (0 ≤ (Op.cmpValue (FP.fcmp n0 FP.fconst0) .g)) (f_X6_bitsOf_b48 x2 n0) (f_X6_bitsOf_b48 x2 (FP.fneg n0))
noncomputable def f_X6_bitsOf (n0 : UInt32) : Option Int32 := dq_if ((Op.cmpValue (FP.fcmp n0 FP.fconst0) .l) = 0) (dq_gd (vf_n32 (FP.fdiv FP.fconst1 n0)) (dq_let (FP.fdiv FP.fconst1 n0) (fun (x32 : UInt32) => dq_if (0 ≤ (Op.cmpValue (FP.fcmp x32 FP.fconst0) .g)) (some (0 : Int32)) (some (-2147483648 : Int32))))) (dq_if (0 ≤ (Op.cmpValue (FP.fcmp n0 FP.fconst0) .g)) (f_X6_bitsOf_b35 n0 (0 : Int32)) (f_X6_bitsOf_b35 n0 (-2147483648 : Int32)))
def wA_X6_bitsOf : List Cond := .code yX6_bitsOf cX6_bitsOf 5 (some .int) :: wsL_law
-- DraughtsTake.bitsOf(F)I
set_option maxHeartbeats 4000000 in
set_option maxRecDepth 100000 in
theorem m_X6_bitsOf (l : Launch) (D : va_G) (y : Nat → ClassId) (n0 : UInt32) (z0 : Int32) (hf : f_X6_bitsOf n0 = some z0) : Ct l D y yX6_bitsOf wA_X6_bitsOf 0 0 [.float n0] [] [] (some (.int z0)) := by
  refine ct_head (cc := cX6_bitsOf) (n := 5) (ret := (some .int)) (by decide) rfl (Nat.le_of_ble_eq_true rfl) ?_
  intro p e s m below meth c A ls hx hb hr hml hown hlocks hts hA hAe hP hK hD hl
  have hS : va_S A s.heap s.heap [] := va_S.rf
  have hl : lv_has ls 5 [(0, .float n0)] := hl
  have hown : s.vm.findClass RX6 = some m.cls := hown
  have hts : ∀ w ∈ wsL_law, w.before [.float n0].toArray s = true := fun w h => hts w (List.mem_cons_of_mem _ h)
  unfold f_X6_bitsOf at hf
  refine lv_fload_n hx hb dX6_bitsOf_0 rfl (lv_at hl 0 rfl) ?_
  refine lv_fconst0 hx hb dX6_bitsOf_1 ?_
  refine lv_fcmp hx hb dX6_bitsOf_2 ?_
  refine lv_if_ne (tgt := 22) hx hb dX6_bitsOf_3 (by decide) (fun c1 => ?_) (fun c1 => ?_)
  · have hf := dq_f hf c1
    clear c1
    refine lv_fload_n hx hb dX6_bitsOf_22 rfl (lv_at hl 0 rfl) ?_
    refine lv_fconst0 hx hb dX6_bitsOf_23 ?_
    refine lv_fcmp hx hb dX6_bitsOf_24 ?_
    have J35 : ∀ (x2 : Int32), f_X6_bitsOf_b35 n0 x2 = some z0 → ∀ (H : Heap) (locs : List Loc), va_P D vwCl [] H → va_D A [] → va_S A s.heap H locs → ∀ ls : Array Slot, lv_has ls 5 [(0, .float n0)] → W p l e ({ frames := 0, cells := 0, slots := 0, locals := 0 } : Room) s m [.float n0].toArray below meth c H locs 0 0 (MQ below (dQ D y (some (.int z0)) s.heap.size [] []) [.float n0].toArray s 0 0 A) (F0 m 35 ls [.int x2]) := by
      intro x2 hf H locs hP hD hS ls hl
      unfold f_X6_bitsOf_b35 at hf
      refine lv_istore_n (lv' := [(1, .int x2), (0, .float n0)]) hx hb dX6_bitsOf_35 rfl hl (by decide) rfl (fun ls hl => ?_)
      refine lv_fload_n hx hb dX6_bitsOf_36 rfl (lv_at hl 1 rfl) ?_
      refine lv_fconst0 hx hb dX6_bitsOf_37 ?_
      refine lv_fcmp hx hb dX6_bitsOf_38 ?_
      have J48 : ∀ (x3 : UInt32), f_X6_bitsOf_b48 x2 x3 = some z0 → ∀ (H : Heap) (locs : List Loc), va_P D vwCl [] H → va_D A [] → va_S A s.heap H locs → ∀ ls : Array Slot, lv_has ls 5 [(1, .int x2)] → W p l e ({ frames := 0, cells := 0, slots := 0, locals := 0 } : Room) s m [.float n0].toArray below meth c H locs 0 0 (MQ below (dQ D y (some (.int z0)) s.heap.size [] []) [.float n0].toArray s 0 0 A) (F0 m 48 ls [.float x3]) := by
        intro x3 hf H locs hP hD hS ls hl
        unfold f_X6_bitsOf_b48 at hf
        refine lv_fstore_n (lv' := [(2, .float x3), (1, .int x2)]) hx hb dX6_bitsOf_48 rfl hl (by decide) rfl (fun ls hl => ?_)
        refine lv_bipush (v := 127) hx hb dX6_bitsOf_49 (by decide) ?_
        refine lv_istore_n (lv' := [(3, .int (127 : Int32)), (2, .float x3), (1, .int x2)]) hx hb dX6_bitsOf_51 rfl hl (by decide) rfl (fun ls hl => ?_)
        refine lv_iconst (v := 0) hx hb dX6_bitsOf_52 (by decide) ?_
        refine lv_istore (lv' := [(4, .int (0 : Int32)), (3, .int (127 : Int32)), (2, .float x3), (1, .int x2)]) hx hb dX6_bitsOf_53 hl (by decide) rfl (fun ls hl => ?_)
        have J55 : ∀ (m55 : Nat) (x4 : UInt32) (x5 : Int32) (x6 : Int32), f_X6_bitsOf_b55 x2 m55 x4 x5 x6 = some z0 → ∀ (H : Heap) (locs : List Loc), va_P D vwCl [] H → va_D A [] → va_S A s.heap H locs → ∀ ls : Array Slot, lv_has ls 5 [(1, .int x2), (2, .float x4), (3, .int x5), (4, .int x6)] → W p l e ({ frames := 0, cells := 0, slots := 0, locals := 0 } : Room) s m [.float n0].toArray below meth c H locs 0 0 (MQ below (dQ D y (some (.int z0)) s.heap.size [] []) [.float n0].toArray s 0 0 A) (F0 m 55 ls []) := by
          intro m55
          induction m55 with
          | zero => intro x4 x5 x6 hf; exact absurd hf (by unfold f_X6_bitsOf_b55; exact fun h => by cases h)
          | succ m55 I55 =>
            intro x4 x5 x6 hf H locs hP hD hS ls hl
            unfold f_X6_bitsOf_b55 at hf
            refine lv_iload hx hb dX6_bitsOf_55 (lv_at hl 3 rfl) ?_
            refine lv_bipush (v := 127) hx hb dX6_bitsOf_57 (by decide) ?_
            have J83 : f_X6_bitsOf_b83 x2 x4 x5 = some z0 → ∀ (H : Heap) (locs : List Loc), va_P D vwCl [] H → va_D A [] → va_S A s.heap H locs → ∀ ls : Array Slot, lv_has ls 5 [(1, .int x2), (2, .float x4), (3, .int x5)] → W p l e ({ frames := 0, cells := 0, slots := 0, locals := 0 } : Room) s m [.float n0].toArray below meth c H locs 0 0 (MQ below (dQ D y (some (.int z0)) s.heap.size [] []) [.float n0].toArray s 0 0 A) (F0 m 83 ls []) := by
              intro  hf H locs hP hD hS ls hl
              unfold f_X6_bitsOf_b83 at hf
              refine lv_iconst (v := 0) hx hb dX6_bitsOf_83 (by decide) ?_
              refine lv_istore (lv' := [(4, .int (0 : Int32)), (1, .int x2), (2, .float x4), (3, .int x5)]) hx hb dX6_bitsOf_84 hl (by decide) rfl (fun ls hl => ?_)
              have J86 : ∀ (m86 : Nat) (x7 : UInt32) (x8 : Int32) (x9 : Int32), f_X6_bitsOf_b86 x2 m86 x7 x8 x9 = some z0 → ∀ (H : Heap) (locs : List Loc), va_P D vwCl [] H → va_D A [] → va_S A s.heap H locs → ∀ ls : Array Slot, lv_has ls 5 [(1, .int x2), (2, .float x7), (3, .int x8), (4, .int x9)] → W p l e ({ frames := 0, cells := 0, slots := 0, locals := 0 } : Room) s m [.float n0].toArray below meth c H locs 0 0 (MQ below (dQ D y (some (.int z0)) s.heap.size [] []) [.float n0].toArray s 0 0 A) (F0 m 86 ls []) := by
                intro m86
                induction m86 with
                | zero => intro x7 x8 x9 hf; exact absurd hf (by unfold f_X6_bitsOf_b86; exact fun h => by cases h)
                | succ m86 I86 =>
                  intro x7 x8 x9 hf H locs hP hD hS ls hl
                  unfold f_X6_bitsOf_b86 at hf
                  refine lv_iload hx hb dX6_bitsOf_86 (lv_at hl 3 rfl) ?_
                  refine lv_bipush (v := 126) hx hb dX6_bitsOf_88 (by decide) ?_
                  have J112 : f_X6_bitsOf_b112 x2 x7 x8 = some z0 → ∀ (H : Heap) (locs : List Loc), va_P D vwCl [] H → va_D A [] → va_S A s.heap H locs → ∀ ls : Array Slot, lv_has ls 5 [(1, .int x2), (2, .float x7), (3, .int x8)] → W p l e ({ frames := 0, cells := 0, slots := 0, locals := 0 } : Room) s m [.float n0].toArray below meth c H locs 0 0 (MQ below (dQ D y (some (.int z0)) s.heap.size [] []) [.float n0].toArray s 0 0 A) (F0 m 112 ls []) := by
                    intro  hf H locs hP hD hS ls hl
                    unfold f_X6_bitsOf_b112 at hf
                    refine lv_fload_n hx hb dX6_bitsOf_112 rfl (lv_at hl 1 rfl) ?_
                    refine lv_fconst1 hx hb dX6_bitsOf_113 ?_
                    refine lv_fcmp hx hb dX6_bitsOf_114 ?_
                    refine lv_if_ge (tgt := 127) hx hb dX6_bitsOf_115 (by decide) (fun c10 => ?_) (fun c10 => ?_)
                    · have hf := dq_t hf c10
                      clear c10
                      refine lv_iload_n hx hb dX6_bitsOf_127 rfl (lv_at hl 0 rfl) ?_
                      refine lv_iload_n hx hb dX6_bitsOf_128 rfl (lv_at hl 2 rfl) ?_
                      refine lv_bipush (v := 23) hx hb dX6_bitsOf_129 (by decide) ?_
                      refine lv_ishl hx hb dX6_bitsOf_131 ?_
                      refine lv_ior hx hb dX6_bitsOf_132 ?_
                      refine lv_fload_n hx hb dX6_bitsOf_133 rfl (lv_at hl 1 rfl) ?_
                      refine lv_fconst1 hx hb dX6_bitsOf_134 ?_
                      obtain ⟨h11, hf⟩ := dq_g hf
                      refine lv_fsub hx hb dX6_bitsOf_135 h11 ?_
                      refine lv_topf (fun x12 ex12 => ?_)
                      have hf := dq_l hf x12 ex12
                      clear ex12
                      refine lv_ldcwf hx hb hown (hts _ wl_599) dX6_bitsOf_136 ?_
                      obtain ⟨h13, hf⟩ := dq_g hf
                      refine lv_fmul hx hb dX6_bitsOf_139 h13 ?_
                      refine lv_topf (fun x14 ex14 => ?_)
                      have hf := dq_l hf x14 ex14
                      clear ex14
                      refine lv_f2i hx hb dX6_bitsOf_140 ?_
                      refine lv_ior hx hb dX6_bitsOf_141 ?_
                      obtain rfl := dq_r1 hf
                      exact ct_iret hx hb hr hlocks hAe hP hK hD hS dX6_bitsOf_142
                    · have hf := dq_f hf c10
                      clear c10
                      refine lv_iload_n hx hb dX6_bitsOf_118 rfl (lv_at hl 0 rfl) ?_
                      refine lv_fload_n hx hb dX6_bitsOf_119 rfl (lv_at hl 1 rfl) ?_
                      refine lv_ldcwf hx hb hown (hts _ wl_599) dX6_bitsOf_120 ?_
                      obtain ⟨h15, hf⟩ := dq_g hf
                      refine lv_fmul hx hb dX6_bitsOf_123 h15 ?_
                      refine lv_topf (fun x16 ex16 => ?_)
                      have hf := dq_l hf x16 ex16
                      clear ex16
                      refine lv_f2i hx hb dX6_bitsOf_124 ?_
                      refine lv_ior hx hb dX6_bitsOf_125 ?_
                      obtain rfl := dq_r1 hf
                      exact ct_iret hx hb hr hlocks hAe hP hK hD hS dX6_bitsOf_126
                  refine lv_icmp_ge (tgt := 112) hx hb dX6_bitsOf_90 (by decide) (fun c17 => ?_) (fun c17 => ?_)
                  · have hf := dq_t hf c17
                    clear c17
                    exact J112  hf _ _ hP hD hS _ (lv_sub hl [0, 1, 2] rfl)
                  · have hf := dq_f hf c17
                    clear c17
                    refine lv_fload_n hx hb dX6_bitsOf_93 rfl (lv_at hl 1 rfl) ?_
                    refine lv_fconst1 hx hb dX6_bitsOf_94 ?_
                    refine lv_fcmp hx hb dX6_bitsOf_95 ?_
                    refine lv_if_ge (tgt := 112) hx hb dX6_bitsOf_96 (by decide) (fun c18 => ?_) (fun c18 => ?_)
                    · have hf := dq_t hf c18
                      clear c18
                      exact J112  hf _ _ hP hD hS _ (lv_sub hl [0, 1, 2] rfl)
                    · have hf := dq_f hf c18
                      clear c18
                      refine lv_fload_n hx hb dX6_bitsOf_99 rfl (lv_at hl 1 rfl) ?_
                      refine lv_fconst2 hx hb dX6_bitsOf_100 ?_
                      obtain ⟨h19, hf⟩ := dq_g hf
                      refine lv_fmul hx hb dX6_bitsOf_101 h19 ?_
                      refine lv_topf (fun x20 ex20 => ?_)
                      have hf := dq_l hf x20 ex20
                      clear ex20
                      refine lv_fstore_n (lv' := [(2, .float x20), (1, .int x2), (3, .int x8), (4, .int x9)]) hx hb dX6_bitsOf_102 rfl hl (by decide) rfl (fun ls hl => ?_)
                      obtain ⟨x21, ex21⟩ : ∃ z : Int32, z = (x8 + (-1 : Int32)) := ⟨_, rfl⟩
                      have hf := dq_l hf x21 ex21
                      refine lv_iinc (v := x21) (lv' := [(3, .int x21), (2, .float x20), (1, .int x2), (4, .int x9)]) hx hb dX6_bitsOf_103 hl (k := 2) rfl (by rw [ex21]; rfl) (by decide) rfl (fun ls hl => ?_)
                      clear ex21
                      obtain ⟨x22, ex22⟩ : ∃ z : Int32, z = (x9 + (1 : Int32)) := ⟨_, rfl⟩
                      have hf := dq_l hf x22 ex22
                      refine lv_iinc (v := x22) (lv' := [(4, .int x22), (3, .int x21), (2, .float x20), (1, .int x2)]) hx hb dX6_bitsOf_106 hl (k := 3) rfl (by rw [ex22]; rfl) (by decide) rfl (fun ls hl => ?_)
                      clear ex22
                      refine lv_goto (tgt := 86) hx hb dX6_bitsOf_109 (by decide) ?_
                      exact I86 _ _ _ hf _ _ hP hD hS _ (lv_sub hl [3, 2, 1, 0] rfl)
              exact J86 4096 _ _ _ hf _ _ hP hD hS _ (lv_sub hl [1, 2, 3, 0] rfl)
            refine lv_icmp_ge (tgt := 83) hx hb dX6_bitsOf_59 (by decide) (fun c23 => ?_) (fun c23 => ?_)
            · have hf := dq_t hf c23
              clear c23
              exact J83  hf _ _ hP hD hS _ (lv_sub hl [0, 1, 2] rfl)
            · have hf := dq_f hf c23
              clear c23
              refine lv_fload_n hx hb dX6_bitsOf_62 rfl (lv_at hl 1 rfl) ?_
              refine lv_fconst2 hx hb dX6_bitsOf_63 ?_
              refine lv_fcmp hx hb dX6_bitsOf_64 ?_
              refine lv_if_lt (tgt := 83) hx hb dX6_bitsOf_65 (by decide) (fun c24 => ?_) (fun c24 => ?_)
              · have hf := dq_t hf c24
                clear c24
                exact J83  hf _ _ hP hD hS _ (lv_sub hl [0, 1, 2] rfl)
              · have hf := dq_f hf c24
                clear c24
                refine lv_fload_n hx hb dX6_bitsOf_68 rfl (lv_at hl 1 rfl) ?_
                refine lv_ldcwf hx hb hown (hts _ wl_598) dX6_bitsOf_69 ?_
                obtain ⟨h25, hf⟩ := dq_g hf
                refine lv_fmul hx hb dX6_bitsOf_72 h25 ?_
                refine lv_topf (fun x26 ex26 => ?_)
                have hf := dq_l hf x26 ex26
                clear ex26
                refine lv_fstore_n (lv' := [(2, .float x26), (1, .int x2), (3, .int x5), (4, .int x6)]) hx hb dX6_bitsOf_73 rfl hl (by decide) rfl (fun ls hl => ?_)
                obtain ⟨x27, ex27⟩ : ∃ z : Int32, z = (x5 + (1 : Int32)) := ⟨_, rfl⟩
                have hf := dq_l hf x27 ex27
                refine lv_iinc (v := x27) (lv' := [(3, .int x27), (2, .float x26), (1, .int x2), (4, .int x6)]) hx hb dX6_bitsOf_74 hl (k := 2) rfl (by rw [ex27]; rfl) (by decide) rfl (fun ls hl => ?_)
                clear ex27
                obtain ⟨x28, ex28⟩ : ∃ z : Int32, z = (x6 + (1 : Int32)) := ⟨_, rfl⟩
                have hf := dq_l hf x28 ex28
                refine lv_iinc (v := x28) (lv' := [(4, .int x28), (3, .int x27), (2, .float x26), (1, .int x2)]) hx hb dX6_bitsOf_77 hl (k := 3) rfl (by rw [ex28]; rfl) (by decide) rfl (fun ls hl => ?_)
                clear ex28
                refine lv_goto (tgt := 55) hx hb dX6_bitsOf_80 (by decide) ?_
                exact I55 _ _ _ hf _ _ hP hD hS _ (lv_sub hl [3, 2, 1, 0] rfl)
        exact J55 4096 _ _ _ hf _ _ hP hD hS _ (lv_sub hl [3, 2, 1, 0] rfl)
      refine lv_if_ge (tgt := 47) hx hb dX6_bitsOf_39 (by decide) (fun c29 => ?_) (fun c29 => ?_)
      · have hf := dq_t hf c29
        clear c29
        refine lv_fload_n hx hb dX6_bitsOf_47 rfl (lv_at hl 1 rfl) ?_
        exact J48 _ hf _ _ hP hD hS _ (lv_sub hl [0] rfl)
      · have hf := dq_f hf c29
        clear c29
        refine lv_fload_n hx hb dX6_bitsOf_42 rfl (lv_at hl 1 rfl) ?_
        refine lv_fneg hx hb dX6_bitsOf_43 ?_
        refine lv_goto (tgt := 48) hx hb dX6_bitsOf_44 (by decide) ?_
        exact J48 _ hf _ _ hP hD hS _ (lv_sub hl [0] rfl)
    refine lv_if_ge (tgt := 34) hx hb dX6_bitsOf_25 (by decide) (fun c30 => ?_) (fun c30 => ?_)
    · have hf := dq_t hf c30
      clear c30
      refine lv_iconst (v := 0) hx hb dX6_bitsOf_34 (by decide) ?_
      exact J35 _ hf _ _ hP hD hS _ (lv_sub hl [0] rfl)
    · have hf := dq_f hf c30
      clear c30
      refine lv_ldcw hx hb hown (hts _ wl_597) dX6_bitsOf_28 ?_
      refine lv_goto (tgt := 35) hx hb dX6_bitsOf_31 (by decide) ?_
      exact J35 _ hf _ _ hP hD hS _ (lv_sub hl [0] rfl)
  · have hf := dq_t hf c1
    clear c1
    refine lv_fconst1 hx hb dX6_bitsOf_6 ?_
    refine lv_fload_n hx hb dX6_bitsOf_7 rfl (lv_at hl 0 rfl) ?_
    obtain ⟨h31, hf⟩ := dq_g hf
    refine lv_fdiv hx hb dX6_bitsOf_8 h31 ?_
    refine lv_topf (fun x32 ex32 => ?_)
    have hf := dq_l hf x32 ex32
    clear ex32
    refine lv_fconst0 hx hb dX6_bitsOf_9 ?_
    refine lv_fcmp hx hb dX6_bitsOf_10 ?_
    refine lv_if_ge (tgt := 20) hx hb dX6_bitsOf_11 (by decide) (fun c33 => ?_) (fun c33 => ?_)
    · have hf := dq_t hf c33
      clear c33
      refine lv_iconst (v := 0) hx hb dX6_bitsOf_20 (by decide) ?_
      obtain rfl := dq_r1 hf
      exact ct_iret hx hb hr hlocks hAe hP hK hD hS dX6_bitsOf_21
    · have hf := dq_f hf c33
      clear c33
      refine lv_ldcw hx hb hown (hts _ wl_597) dX6_bitsOf_14 ?_
      refine lv_goto (tgt := 21) hx hb dX6_bitsOf_17 (by decide) ?_
      obtain rfl := dq_r1 hf
      exact ct_iret hx hb hr hlocks hAe hP hK hD hS dX6_bitsOf_21
noncomputable def f_X6_warm (g_n_warmth : (Nat → UInt32)) (n0 : Int32) : Option Int32 := dq_bd (f_X6_isCell n0) (fun (x1 : Int32) => dq_if (x1 = 0) (some (0 : Int32)) (dq_gd (vp_in n0 36) (dq_bd (f_X6_bitsOf (g_n_warmth n0.toNatClampNeg)) (fun (x5 : Int32) => some x5))))
def wA_X6_warm : List Cond := .code yX6_warm cX6_warm 2 (some .int) :: wsL_law
-- DraughtsTake.warm(I)I
set_option maxHeartbeats 4000000 in
set_option maxRecDepth 100000 in
theorem m_X6_warm (l : Launch) (D : va_G) (y : Nat → ClassId) (a : (Nat → Nat)) (g_hasImage : Int32) (g_toldCount : Int32) (g_n_shutBits : Int64) (g_n_airs : Int32) (g_n_crownedBits : Int32) (g_n_sitters : Int32) (g_n_onBits : Int32) (g_n_turn : Int32) (g_n_taken : Int32) (g_n_warmth : (Nat → UInt32)) (g_n_kind : (Nat → Int32)) (g_n_figure : (Nat → Int32)) (g_n_airCell : (Nat → Int32)) (g_n_way : (Nat → Int32)) (g_n_seat : (Nat → Int32)) (g_n_shawls : (Nat → Int32)) (g_n_count : Int32) (g_n_steps : (Nat → Int32)) (g_n_numbers : (Nat → Int32)) (g_m_shutBits : Int64) (g_m_airs : Int32) (g_m_crownedBits : Int32) (g_m_sitters : Int32) (g_m_onBits : Int32) (g_m_turn : Int32) (g_m_taken : Int32) (g_m_warmth : (Nat → UInt32)) (g_m_kind : (Nat → Int32)) (g_m_figure : (Nat → Int32)) (g_m_airCell : (Nat → Int32)) (g_m_way : (Nat → Int32)) (g_m_seat : (Nat → Int32)) (g_m_shawls : (Nat → Int32)) (g_m_count : Int32) (g_m_steps : (Nat → Int32)) (g_m_numbers : (Nat → Int32)) (g_i_shutBits : Int64) (g_i_airs : Int32) (g_i_crownedBits : Int32) (g_i_sitters : Int32) (g_i_onBits : Int32) (g_i_turn : Int32) (g_i_taken : Int32) (g_i_warmth : (Nat → UInt32)) (g_i_kind : (Nat → Int32)) (g_i_figure : (Nat → Int32)) (g_i_airCell : (Nat → Int32)) (g_i_way : (Nat → Int32)) (g_i_seat : (Nat → Int32)) (g_i_shawls : (Nat → Int32)) (g_i_count : Int32) (g_i_steps : (Nat → Int32)) (g_i_numbers : (Nat → Int32)) (g_past_next : Int32) (g_past_count : Int32) (g_text_length : Int32) (g_text_letters : (Nat → Int32)) (g_coats_sorts : (Nat → Int32)) (g_coats_sizes : (Nat → Int32)) (g_places : (Nat → Nat → Int32)) (g_coats_carried : (Nat → Int32)) (g_told : (Nat → Int32)) (g_refused : (Nat → Int32)) (g_oneHas : (Nat → Int32)) (g_otherHas : (Nat → Int32)) (g_k_shutBits : (Nat → Int64)) (g_k_airs : (Nat → Int32)) (g_k_crownedBits : (Nat → Int32)) (g_k_sitters : (Nat → Int32)) (g_k_onBits : (Nat → Int32)) (g_k_turn : (Nat → Int32)) (g_k_taken : (Nat → Int32)) (g_k_warmth : (Nat → Nat → UInt32)) (g_k_kind : (Nat → Nat → Int32)) (g_k_figure : (Nat → Nat → Int32)) (g_k_airCell : (Nat → Nat → Int32)) (g_k_way : (Nat → Nat → Int32)) (g_k_seat : (Nat → Nat → Int32)) (g_k_shawls : (Nat → Nat → Int32)) (g_k_count : (Nat → Int32)) (g_k_steps : (Nat → Nat → Int32)) (g_k_numbers : (Nat → Nat → Int32)) (n0 : Int32) (z0 : Int32) (hf : f_X6_warm g_n_warmth n0 = some z0) : Ct l D y yX6_warm wA_X6_warm 1 24 [.ref (a 0), .int n0] ((w_X6 y a g_hasImage g_toldCount g_n_shutBits g_n_airs g_n_crownedBits g_n_sitters g_n_onBits g_n_turn g_n_taken g_n_warmth g_n_kind g_n_figure g_n_airCell g_n_way g_n_seat g_n_shawls g_n_count g_n_steps g_n_numbers g_m_shutBits g_m_airs g_m_crownedBits g_m_sitters g_m_onBits g_m_turn g_m_taken g_m_warmth g_m_kind g_m_figure g_m_airCell g_m_way g_m_seat g_m_shawls g_m_count g_m_steps g_m_numbers g_i_shutBits g_i_airs g_i_crownedBits g_i_sitters g_i_onBits g_i_turn g_i_taken g_i_warmth g_i_kind g_i_figure g_i_airCell g_i_way g_i_seat g_i_shawls g_i_count g_i_steps g_i_numbers g_past_next g_past_count g_text_length g_text_letters g_coats_sorts g_coats_sizes g_places g_coats_carried g_told g_refused g_oneHas g_otherHas) ++ (w_blob y (fun k => a (34 + (1 + k))) g_k_shutBits g_k_airs g_k_crownedBits g_k_sitters g_k_onBits g_k_turn g_k_taken g_k_warmth g_k_kind g_k_figure g_k_airCell g_k_way g_k_seat g_k_shawls g_k_count g_k_steps g_k_numbers)) ((w_X6 y a g_hasImage g_toldCount g_n_shutBits g_n_airs g_n_crownedBits g_n_sitters g_n_onBits g_n_turn g_n_taken g_n_warmth g_n_kind g_n_figure g_n_airCell g_n_way g_n_seat g_n_shawls g_n_count g_n_steps g_n_numbers g_m_shutBits g_m_airs g_m_crownedBits g_m_sitters g_m_onBits g_m_turn g_m_taken g_m_warmth g_m_kind g_m_figure g_m_airCell g_m_way g_m_seat g_m_shawls g_m_count g_m_steps g_m_numbers g_i_shutBits g_i_airs g_i_crownedBits g_i_sitters g_i_onBits g_i_turn g_i_taken g_i_warmth g_i_kind g_i_figure g_i_airCell g_i_way g_i_seat g_i_shawls g_i_count g_i_steps g_i_numbers g_past_next g_past_count g_text_length g_text_letters g_coats_sorts g_coats_sizes g_places g_coats_carried g_told g_refused g_oneHas g_otherHas) ++ (w_blob y (fun k => a (34 + (1 + k))) g_k_shutBits g_k_airs g_k_crownedBits g_k_sitters g_k_onBits g_k_turn g_k_taken g_k_warmth g_k_kind g_k_figure g_k_airCell g_k_way g_k_seat g_k_shawls g_k_count g_k_steps g_k_numbers)) (some (.int z0)) := by
  refine ct_head (cc := cX6_warm) (n := 2) (ret := (some .int)) (by decide) rfl (Nat.le_of_ble_eq_true rfl) ?_
  intro p e s m below meth c A ls hx hb hr hml hown hlocks hts hA hAe hP hK hD hl
  have hS : va_S A s.heap s.heap [] := va_S.rf
  have hl : lv_has ls 2 [(0, .ref (a 0)), (1, .int n0)] := hl
  have hown : s.vm.findClass RX6 = some m.cls := hown
  have hts : ∀ w ∈ wsL_law, w.before [.ref (a 0), .int n0].toArray s = true := fun w h => hts w (List.mem_cons_of_mem _ h)
  unfold f_X6_warm at hf
  refine lv_iload_n hx hb dX6_warm_0 rfl (lv_at hl 1 rfl) ?_
  obtain ⟨x1, hy2, hf⟩ := dq_b hf
  refine ct_callS0 (own := RX6) (As := [.int n0]) (rest := []) ⟨hx, hb, hml, hown, hts⟩ (m_X6_isCell l D y n0 x1 hy2) (va_cwS 1 hts (gA_S wl_578 wl_579 wl_2 wl_580) rfl rfl rfl (by decide +kernel) ⟨Nat.le_of_ble_eq_true rfl, Nat.le_of_ble_eq_true rfl⟩) rfl hl.1 rfl (Nat.le_of_ble_eq_true rfl) dX6_warm_1 ⟨Nat.zero_le _, Nat.zero_le _⟩ hK hP hD hS hA (fun H locs hP hD hS => ?_)
  refine lv_if_eq (tgt := 22) hx hb dX6_warm_4 (by decide) (fun c3 => ?_) (fun c3 => ?_)
  · have hf := dq_t hf c3
    clear c3
    refine lv_iconst (v := 0) hx hb dX6_warm_22 (by decide) ?_
    obtain rfl := dq_r1 hf
    exact ct_iret hx hb hr hlocks hAe hP hK hD hS dX6_warm_23
  · have hf := dq_f hf c3
    clear c3
    refine lv_aload_n hx hb dX6_warm_7 rfl (lv_at hl 0 rfl) ?_
    refine va_get (D := D) (ci := 5) (v := .ref (a 1)) (C := RX6) (T := TX6) (N := 12) hx hb hts iwX6 hown hK hP 0 rfl rfl 0 (by decide) (hts _ wl_15) (fun _ h9 => h9) rfl dX6_warm_8 ?_
    refine va_get (D := D) (ci := 1) (v := .ref (a 2)) (C := RX2) (T := TX2) (N := 15) hx hb hts iwX2 hown hK hP 1 rfl rfl 0 (by decide) (hts _ wl_577) (fun _ h9 => h9) rfl dX6_warm_11 ?_
    refine lv_iload_n hx hb dX6_warm_14 rfl (lv_at hl 1 rfl) ?_
    obtain ⟨h4, hf⟩ := dq_g hf
    refine va_fald (cA := y 0) (n := 36) (f := g_n_warmth) hx hb hK hP 2 0 rfl rfl h4 dX6_warm_15 ?_
    obtain ⟨x5, hy6, hf⟩ := dq_b hf
    refine ct_callS0 (own := RX6) (As := [.float (g_n_warmth n0.toNatClampNeg)]) (rest := []) ⟨hx, hb, hml, hown, hts⟩ (m_X6_bitsOf l D y (g_n_warmth n0.toNatClampNeg) x5 hy6) (va_cwS 1 hts (gA_S wl_594 wl_595 wl_2 wl_596) rfl rfl rfl (by decide +kernel) ⟨Nat.le_of_ble_eq_true rfl, Nat.le_of_ble_eq_true rfl⟩) rfl hl.1 rfl (Nat.le_of_ble_eq_true rfl) dX6_warm_16 ⟨Nat.zero_le _, Nat.zero_le _⟩ hK hP hD hS hA (fun H locs hP hD hS => ?_)
    refine lv_goto (tgt := 23) hx hb dX6_warm_19 (by decide) ?_
    obtain rfl := dq_r1 hf
    exact ct_iret hx hb hr hlocks hAe hP hK hD hS dX6_warm_23
