noncomputable def f_X6_air (g_n_airs : Int32) (g_n_crownedBits : Int32) (g_n_kind : (Nat → Int32)) (g_n_figure : (Nat → Int32)) (g_n_airCell : (Nat → Int32)) (g_n_way : (Nat → Int32)) (g_refused : (Nat → Int32)) (n0 : Int32) (n1 : Int32) : Option (Int32 × (Nat → Int32)) := dq_bd (f_X6_isAir g_n_airs n0) (fun (x1 : Int32) => dq_if (x1 = 0) (dq_bd2 (f_X6_refuse g_refused (-1 : Int32)) (fun (x24 : Int32) (g_refused_25 : (Nat → Int32)) => some (x24, g_refused_25))) (dq_if (n1 = 0) (dq_gd (vp_in n0 5) (some ((g_n_kind n0.toNatClampNeg), g_refused))) (dq_if (n1 = 1) (dq_gd (vp_in n0 5) (some ((g_n_figure n0.toNatClampNeg), g_refused))) (dq_if (n1 = 2) (dq_gd (vp_in n0 5) (some ((g_n_airCell n0.toNatClampNeg), g_refused))) (dq_if (n1 = 3) (dq_gd (vp_in n0 5) (some ((g_n_way n0.toNatClampNeg), g_refused))) (dq_if (n1 = 4) (dq_bd (f_X2_isCrowned g_n_crownedBits n0) (fun (x13 : Int32) => dq_if (x13 = 0) (some ((0 : Int32), g_refused)) (some ((1 : Int32), g_refused)))) (dq_if (n1 = 5) (dq_gd (vp_in n0 5) (dq_gd (vp_in n0 5) (dq_bd (f_X0_leaps (g_n_kind n0.toNatClampNeg) (g_n_figure n0.toNatClampNeg)) (fun (x19 : Int32) => some (x19, g_refused))))) (dq_bd2 (f_X6_refuse g_refused (-2 : Int32)) (fun (x21 : Int32) (g_refused_22 : (Nat → Int32)) => some (x21, g_refused_22))))))))))
def wA_X6_air : List Cond := .code yX6_air cX6_air 3 (some .int) :: wsL_law
-- DraughtsTake.air(II)I
set_option maxHeartbeats 4000000 in
set_option maxRecDepth 100000 in
theorem m_X6_air (l : Launch) (D : va_G) (y : Nat → ClassId) (a : (Nat → Nat)) (g_hasImage : Int32) (g_toldCount : Int32) (g_n_shutBits : Int64) (g_n_airs : Int32) (g_n_crownedBits : Int32) (g_n_sitters : Int32) (g_n_onBits : Int32) (g_n_turn : Int32) (g_n_taken : Int32) (g_n_warmth : (Nat → UInt32)) (g_n_kind : (Nat → Int32)) (g_n_figure : (Nat → Int32)) (g_n_airCell : (Nat → Int32)) (g_n_way : (Nat → Int32)) (g_n_seat : (Nat → Int32)) (g_n_shawls : (Nat → Int32)) (g_n_count : Int32) (g_n_steps : (Nat → Int32)) (g_n_numbers : (Nat → Int32)) (g_m_shutBits : Int64) (g_m_airs : Int32) (g_m_crownedBits : Int32) (g_m_sitters : Int32) (g_m_onBits : Int32) (g_m_turn : Int32) (g_m_taken : Int32) (g_m_warmth : (Nat → UInt32)) (g_m_kind : (Nat → Int32)) (g_m_figure : (Nat → Int32)) (g_m_airCell : (Nat → Int32)) (g_m_way : (Nat → Int32)) (g_m_seat : (Nat → Int32)) (g_m_shawls : (Nat → Int32)) (g_m_count : Int32) (g_m_steps : (Nat → Int32)) (g_m_numbers : (Nat → Int32)) (g_i_shutBits : Int64) (g_i_airs : Int32) (g_i_crownedBits : Int32) (g_i_sitters : Int32) (g_i_onBits : Int32) (g_i_turn : Int32) (g_i_taken : Int32) (g_i_warmth : (Nat → UInt32)) (g_i_kind : (Nat → Int32)) (g_i_figure : (Nat → Int32)) (g_i_airCell : (Nat → Int32)) (g_i_way : (Nat → Int32)) (g_i_seat : (Nat → Int32)) (g_i_shawls : (Nat → Int32)) (g_i_count : Int32) (g_i_steps : (Nat → Int32)) (g_i_numbers : (Nat → Int32)) (g_past_next : Int32) (g_past_count : Int32) (g_text_length : Int32) (g_text_letters : (Nat → Int32)) (g_coats_sorts : (Nat → Int32)) (g_coats_sizes : (Nat → Int32)) (g_places : (Nat → Nat → Int32)) (g_coats_carried : (Nat → Int32)) (g_told : (Nat → Int32)) (g_refused : (Nat → Int32)) (g_oneHas : (Nat → Int32)) (g_otherHas : (Nat → Int32)) (g_k_shutBits : (Nat → Int64)) (g_k_airs : (Nat → Int32)) (g_k_crownedBits : (Nat → Int32)) (g_k_sitters : (Nat → Int32)) (g_k_onBits : (Nat → Int32)) (g_k_turn : (Nat → Int32)) (g_k_taken : (Nat → Int32)) (g_k_warmth : (Nat → Nat → UInt32)) (g_k_kind : (Nat → Nat → Int32)) (g_k_figure : (Nat → Nat → Int32)) (g_k_airCell : (Nat → Nat → Int32)) (g_k_way : (Nat → Nat → Int32)) (g_k_seat : (Nat → Nat → Int32)) (g_k_shawls : (Nat → Nat → Int32)) (g_k_count : (Nat → Int32)) (g_k_steps : (Nat → Nat → Int32)) (g_k_numbers : (Nat → Nat → Int32)) (n0 : Int32) (n1 : Int32) (z0 : Int32) (z1 : (Nat → Int32)) (hf : f_X6_air g_n_airs g_n_crownedBits g_n_kind g_n_figure g_n_airCell g_n_way g_refused n0 n1 = some (z0, z1)) : Ct l D y yX6_air wA_X6_air 2 42 [.ref (a 0), .int n0, .int n1] ((w_X6 y a g_hasImage g_toldCount g_n_shutBits g_n_airs g_n_crownedBits g_n_sitters g_n_onBits g_n_turn g_n_taken g_n_warmth g_n_kind g_n_figure g_n_airCell g_n_way g_n_seat g_n_shawls g_n_count g_n_steps g_n_numbers g_m_shutBits g_m_airs g_m_crownedBits g_m_sitters g_m_onBits g_m_turn g_m_taken g_m_warmth g_m_kind g_m_figure g_m_airCell g_m_way g_m_seat g_m_shawls g_m_count g_m_steps g_m_numbers g_i_shutBits g_i_airs g_i_crownedBits g_i_sitters g_i_onBits g_i_turn g_i_taken g_i_warmth g_i_kind g_i_figure g_i_airCell g_i_way g_i_seat g_i_shawls g_i_count g_i_steps g_i_numbers g_past_next g_past_count g_text_length g_text_letters g_coats_sorts g_coats_sizes g_places g_coats_carried g_told g_refused g_oneHas g_otherHas) ++ (w_blob y (fun k => a (34 + (1 + k))) g_k_shutBits g_k_airs g_k_crownedBits g_k_sitters g_k_onBits g_k_turn g_k_taken g_k_warmth g_k_kind g_k_figure g_k_airCell g_k_way g_k_seat g_k_shawls g_k_count g_k_steps g_k_numbers)) ((w_X6 y a g_hasImage g_toldCount g_n_shutBits g_n_airs g_n_crownedBits g_n_sitters g_n_onBits g_n_turn g_n_taken g_n_warmth g_n_kind g_n_figure g_n_airCell g_n_way g_n_seat g_n_shawls g_n_count g_n_steps g_n_numbers g_m_shutBits g_m_airs g_m_crownedBits g_m_sitters g_m_onBits g_m_turn g_m_taken g_m_warmth g_m_kind g_m_figure g_m_airCell g_m_way g_m_seat g_m_shawls g_m_count g_m_steps g_m_numbers g_i_shutBits g_i_airs g_i_crownedBits g_i_sitters g_i_onBits g_i_turn g_i_taken g_i_warmth g_i_kind g_i_figure g_i_airCell g_i_way g_i_seat g_i_shawls g_i_count g_i_steps g_i_numbers g_past_next g_past_count g_text_length g_text_letters g_coats_sorts g_coats_sizes g_places g_coats_carried g_told z1 g_oneHas g_otherHas) ++ (w_blob y (fun k => a (34 + (1 + k))) g_k_shutBits g_k_airs g_k_crownedBits g_k_sitters g_k_onBits g_k_turn g_k_taken g_k_warmth g_k_kind g_k_figure g_k_airCell g_k_way g_k_seat g_k_shawls g_k_count g_k_steps g_k_numbers)) (some (.int z0)) := by
  refine ct_head (cc := cX6_air) (n := 3) (ret := (some .int)) (by decide) rfl (Nat.le_of_ble_eq_true rfl) ?_
  intro p e s m below meth c A ls hx hb hr hml hown hlocks hts hA hAe hP hK hD hl
  have hS : va_S A s.heap s.heap [] := va_S.rf
  have hl : lv_has ls 3 [(0, .ref (a 0)), (1, .int n0), (2, .int n1)] := hl
  have hown : s.vm.findClass RX6 = some m.cls := hown
  have hts : ∀ w ∈ wsL_law, w.before [.ref (a 0), .int n0, .int n1].toArray s = true := fun w h => hts w (List.mem_cons_of_mem _ h)
  unfold f_X6_air at hf
  refine lv_aload_n hx hb dX6_air_0 rfl (lv_at hl 0 rfl) ?_
  refine lv_iload_n hx hb dX6_air_1 rfl (lv_at hl 1 rfl) ?_
  obtain ⟨x1, hy2, hf⟩ := dq_b hf
  refine ct_callV0 (ci := 5) (q0 := 0) (own := RX6) (As := [.int n0]) (rest := []) (ws' := ((w_X6 y a g_hasImage g_toldCount g_n_shutBits g_n_airs g_n_crownedBits g_n_sitters g_n_onBits g_n_turn g_n_taken g_n_warmth g_n_kind g_n_figure g_n_airCell g_n_way g_n_seat g_n_shawls g_n_count g_n_steps g_n_numbers g_m_shutBits g_m_airs g_m_crownedBits g_m_sitters g_m_onBits g_m_turn g_m_taken g_m_warmth g_m_kind g_m_figure g_m_airCell g_m_way g_m_seat g_m_shawls g_m_count g_m_steps g_m_numbers g_i_shutBits g_i_airs g_i_crownedBits g_i_sitters g_i_onBits g_i_turn g_i_taken g_i_warmth g_i_kind g_i_figure g_i_airCell g_i_way g_i_seat g_i_shawls g_i_count g_i_steps g_i_numbers g_past_next g_past_count g_text_length g_text_letters g_coats_sorts g_coats_sizes g_places g_coats_carried g_told g_refused g_oneHas g_otherHas) ++ (w_blob y (fun k => a (34 + (1 + k))) g_k_shutBits g_k_airs g_k_crownedBits g_k_sitters g_k_onBits g_k_turn g_k_taken g_k_warmth g_k_kind g_k_figure g_k_airCell g_k_way g_k_seat g_k_shawls g_k_count g_k_steps g_k_numbers))) ⟨hx, hb, hml, hown, hts⟩ (m_X6_isAir l D y a g_hasImage g_toldCount g_n_shutBits g_n_airs g_n_crownedBits g_n_sitters g_n_onBits g_n_turn g_n_taken g_n_warmth g_n_kind g_n_figure g_n_airCell g_n_way g_n_seat g_n_shawls g_n_count g_n_steps g_n_numbers g_m_shutBits g_m_airs g_m_crownedBits g_m_sitters g_m_onBits g_m_turn g_m_taken g_m_warmth g_m_kind g_m_figure g_m_airCell g_m_way g_m_seat g_m_shawls g_m_count g_m_steps g_m_numbers g_i_shutBits g_i_airs g_i_crownedBits g_i_sitters g_i_onBits g_i_turn g_i_taken g_i_warmth g_i_kind g_i_figure g_i_airCell g_i_way g_i_seat g_i_shawls g_i_count g_i_steps g_i_numbers g_past_next g_past_count g_text_length g_text_letters g_coats_sorts g_coats_sizes g_places g_coats_carried g_told g_refused g_oneHas g_otherHas g_k_shutBits g_k_airs g_k_crownedBits g_k_sitters g_k_onBits g_k_turn g_k_taken g_k_warmth g_k_kind g_k_figure g_k_airCell g_k_way g_k_seat g_k_shawls g_k_count g_k_steps g_k_numbers n0 x1 hy2) (cwV 1 hts (gA_V wl_537 wl_538 wl_539 wl_2 wl_540) rfl rfl rfl (by decide +kernel) ⟨Nat.le_of_ble_eq_true rfl, Nat.le_of_ble_eq_true rfl⟩) rfl rfl rfl hl.1 rfl (Nat.le_of_ble_eq_true rfl) dX6_air_2 ⟨Nat.zero_le _, Nat.zero_le _⟩ hK hP hD hS hA (fun H locs hP hD hS => ?_)
  refine lv_if_ne (tgt := 14) hx hb dX6_air_5 (by decide) (fun c3 => ?_) (fun c3 => ?_)
  · have hf := dq_f hf c3
    clear c3
    refine lv_iload_n hx hb dX6_air_14 rfl (lv_at hl 2 rfl) ?_
    by_cases c4 : n1 = (0 : Int32)
    · have hf := dq_t hf c4
      refine lv_tableIn (tgt := 52) (off := 37) hx hb dX6_air_15 (by rw [c4]; decide) (by rw [c4]; decide) (by rw [c4]; decide) (by decide) ?_
      clear c4
      refine lv_aload_n hx hb dX6_air_52 rfl (lv_at hl 0 rfl) ?_
      refine va_get (D := D) (ci := 5) (v := .ref (a 1)) (C := RX6) (T := TX6) (N := 12) hx hb hts iwX6 hown hK hP 0 rfl rfl 0 (by decide) (hts _ wl_15) (fun _ h9 => h9) rfl dX6_air_53 ?_
      refine va_get (D := D) (ci := 1) (v := .ref (a 3)) (C := RX2) (T := TX2) (N := 15) hx hb hts iwX2 hown hK hP 1 rfl rfl 3 (by decide) (hts _ wl_533) (fun _ h9 => h9) rfl dX6_air_56 ?_
      refine lv_iload_n hx hb dX6_air_59 rfl (lv_at hl 1 rfl) ?_
      obtain ⟨h5, hf⟩ := dq_g hf
      refine va_iald (cA := y 1) (n := 5) (f := g_n_kind) hx hb hK hP 3 1 rfl rfl h5 dX6_air_60 ?_
      obtain ⟨rfl, rfl⟩ := dq_r2 hf
      exact ct_iret hx hb hr hlocks hAe hP hK hD hS dX6_air_61
    have hf := dq_f hf c4
    by_cases c6 : n1 = (1 : Int32)
    · have hf := dq_t hf c6
      refine lv_tableIn (tgt := 62) (off := 47) hx hb dX6_air_15 (by rw [c6]; decide) (by rw [c6]; decide) (by rw [c6]; decide) (by decide) ?_
      clear c4 c6
      refine lv_aload_n hx hb dX6_air_62 rfl (lv_at hl 0 rfl) ?_
      refine va_get (D := D) (ci := 5) (v := .ref (a 1)) (C := RX6) (T := TX6) (N := 12) hx hb hts iwX6 hown hK hP 0 rfl rfl 0 (by decide) (hts _ wl_15) (fun _ h9 => h9) rfl dX6_air_63 ?_
      refine va_get (D := D) (ci := 1) (v := .ref (a 4)) (C := RX2) (T := TX2) (N := 15) hx hb hts iwX2 hown hK hP 1 rfl rfl 4 (by decide) (hts _ wl_534) (fun _ h9 => h9) rfl dX6_air_66 ?_
      refine lv_iload_n hx hb dX6_air_69 rfl (lv_at hl 1 rfl) ?_
      obtain ⟨h7, hf⟩ := dq_g hf
      refine va_iald (cA := y 1) (n := 5) (f := g_n_figure) hx hb hK hP 4 1 rfl rfl h7 dX6_air_70 ?_
      obtain ⟨rfl, rfl⟩ := dq_r2 hf
      exact ct_iret hx hb hr hlocks hAe hP hK hD hS dX6_air_71
    have hf := dq_f hf c6
    by_cases c8 : n1 = (2 : Int32)
    · have hf := dq_t hf c8
      refine lv_tableIn (tgt := 72) (off := 57) hx hb dX6_air_15 (by rw [c8]; decide) (by rw [c8]; decide) (by rw [c8]; decide) (by decide) ?_
      clear c4 c6 c8
      refine lv_aload_n hx hb dX6_air_72 rfl (lv_at hl 0 rfl) ?_
      refine va_get (D := D) (ci := 5) (v := .ref (a 1)) (C := RX6) (T := TX6) (N := 12) hx hb hts iwX6 hown hK hP 0 rfl rfl 0 (by decide) (hts _ wl_15) (fun _ h9 => h9) rfl dX6_air_73 ?_
      refine va_get (D := D) (ci := 1) (v := .ref (a 5)) (C := RX2) (T := TX2) (N := 15) hx hb hts iwX2 hown hK hP 1 rfl rfl 5 (by decide) (hts _ wl_535) (fun _ h9 => h9) rfl dX6_air_76 ?_
      refine lv_iload_n hx hb dX6_air_79 rfl (lv_at hl 1 rfl) ?_
      obtain ⟨h9, hf⟩ := dq_g hf
      refine va_iald (cA := y 1) (n := 5) (f := g_n_airCell) hx hb hK hP 5 1 rfl rfl h9 dX6_air_80 ?_
      obtain ⟨rfl, rfl⟩ := dq_r2 hf
      exact ct_iret hx hb hr hlocks hAe hP hK hD hS dX6_air_81
    have hf := dq_f hf c8
    by_cases c10 : n1 = (3 : Int32)
    · have hf := dq_t hf c10
      refine lv_tableIn (tgt := 82) (off := 67) hx hb dX6_air_15 (by rw [c10]; decide) (by rw [c10]; decide) (by rw [c10]; decide) (by decide) ?_
      clear c4 c6 c8 c10
      refine lv_aload_n hx hb dX6_air_82 rfl (lv_at hl 0 rfl) ?_
      refine va_get (D := D) (ci := 5) (v := .ref (a 1)) (C := RX6) (T := TX6) (N := 12) hx hb hts iwX6 hown hK hP 0 rfl rfl 0 (by decide) (hts _ wl_15) (fun _ h9 => h9) rfl dX6_air_83 ?_
      refine va_get (D := D) (ci := 1) (v := .ref (a 6)) (C := RX2) (T := TX2) (N := 15) hx hb hts iwX2 hown hK hP 1 rfl rfl 6 (by decide) (hts _ wl_536) (fun _ h9 => h9) rfl dX6_air_86 ?_
      refine lv_iload_n hx hb dX6_air_89 rfl (lv_at hl 1 rfl) ?_
      obtain ⟨h11, hf⟩ := dq_g hf
      refine va_iald (cA := y 1) (n := 5) (f := g_n_way) hx hb hK hP 6 1 rfl rfl h11 dX6_air_90 ?_
      obtain ⟨rfl, rfl⟩ := dq_r2 hf
      exact ct_iret hx hb hr hlocks hAe hP hK hD hS dX6_air_91
    have hf := dq_f hf c10
    by_cases c12 : n1 = (4 : Int32)
    · have hf := dq_t hf c12
      refine lv_tableIn (tgt := 92) (off := 77) hx hb dX6_air_15 (by rw [c12]; decide) (by rw [c12]; decide) (by rw [c12]; decide) (by decide) ?_
      clear c4 c6 c8 c10 c12
      refine lv_aload_n hx hb dX6_air_92 rfl (lv_at hl 0 rfl) ?_
      refine va_get (D := D) (ci := 5) (v := .ref (a 1)) (C := RX6) (T := TX6) (N := 12) hx hb hts iwX6 hown hK hP 0 rfl rfl 0 (by decide) (hts _ wl_15) (fun _ h9 => h9) rfl dX6_air_93 ?_
      refine lv_iload_n hx hb dX6_air_96 rfl (lv_at hl 1 rfl) ?_
      obtain ⟨x13, hy14, hf⟩ := dq_b hf
      refine ct_callVS (ci := 1) (q0 := 0) (own := RX6) (As := [.int n0]) (rest := []) (L' := (w_X6 y a g_hasImage g_toldCount g_n_shutBits g_n_airs g_n_crownedBits g_n_sitters g_n_onBits g_n_turn g_n_taken g_n_warmth g_n_kind g_n_figure g_n_airCell g_n_way g_n_seat g_n_shawls g_n_count g_n_steps g_n_numbers g_m_shutBits g_m_airs g_m_crownedBits g_m_sitters g_m_onBits g_m_turn g_m_taken g_m_warmth g_m_kind g_m_figure g_m_airCell g_m_way g_m_seat g_m_shawls g_m_count g_m_steps g_m_numbers g_i_shutBits g_i_airs g_i_crownedBits g_i_sitters g_i_onBits g_i_turn g_i_taken g_i_warmth g_i_kind g_i_figure g_i_airCell g_i_way g_i_seat g_i_shawls g_i_count g_i_steps g_i_numbers g_past_next g_past_count g_text_length g_text_letters g_coats_sorts g_coats_sizes g_places g_coats_carried g_told g_refused g_oneHas g_otherHas)) (B := (w_blob y (fun k => a (34 + (1 + k))) g_k_shutBits g_k_airs g_k_crownedBits g_k_sitters g_k_onBits g_k_turn g_k_taken g_k_warmth g_k_kind g_k_figure g_k_airCell g_k_way g_k_seat g_k_shawls g_k_count g_k_steps g_k_numbers)) ⟨hx, hb, hml, hown, hts⟩ (m_X2_isCrowned l D y (fun k => a (1 + k)) g_n_shutBits g_n_airs g_n_crownedBits g_n_sitters g_n_onBits g_n_turn g_n_taken g_n_warmth g_n_kind g_n_figure g_n_airCell g_n_way g_n_seat g_n_shawls g_n_count g_n_steps g_n_numbers n0 x13 hy14) (cwV 1 hts (gA_V wl_542 wl_303 wl_304 wl_14 wl_305) rfl rfl rfl (by decide +kernel) ⟨Nat.le_of_ble_eq_true rfl, Nat.le_of_ble_eq_true rfl⟩) rfl rfl rfl hl.1 rfl (Nat.le_of_ble_eq_true rfl) dX6_air_97 ⟨Nat.zero_le _, Nat.zero_le _⟩ hK hP hD hS hA (ct_tail 1 11) rfl rfl (by decide) rfl (sg1 1 11 rfl rfl) (fun H locs hP hD hS => ?_)
      refine lv_if_eq (tgt := 107) hx hb dX6_air_100 (by decide) (fun c15 => ?_) (fun c15 => ?_)
      · have hf := dq_t hf c15
        clear c15
        refine lv_iconst (v := 0) hx hb dX6_air_107 (by decide) ?_
        obtain ⟨rfl, rfl⟩ := dq_r2 hf
        exact ct_iret hx hb hr hlocks hAe hP hK hD hS dX6_air_108
      · have hf := dq_f hf c15
        clear c15
        refine lv_iconst (v := 1) hx hb dX6_air_103 (by decide) ?_
        refine lv_goto (tgt := 108) hx hb dX6_air_104 (by decide) ?_
        obtain ⟨rfl, rfl⟩ := dq_r2 hf
        exact ct_iret hx hb hr hlocks hAe hP hK hD hS dX6_air_108
    have hf := dq_f hf c12
    by_cases c16 : n1 = (5 : Int32)
    · have hf := dq_t hf c16
      refine lv_tableIn (tgt := 109) (off := 94) hx hb dX6_air_15 (by rw [c16]; decide) (by rw [c16]; decide) (by rw [c16]; decide) (by decide) ?_
      clear c4 c6 c8 c10 c12 c16
      refine lv_aload_n hx hb dX6_air_109 rfl (lv_at hl 0 rfl) ?_
      refine va_get (D := D) (ci := 5) (v := .ref (a 1)) (C := RX6) (T := TX6) (N := 12) hx hb hts iwX6 hown hK hP 0 rfl rfl 0 (by decide) (hts _ wl_15) (fun _ h9 => h9) rfl dX6_air_110 ?_
      refine va_get (D := D) (ci := 1) (v := .ref (a 3)) (C := RX2) (T := TX2) (N := 15) hx hb hts iwX2 hown hK hP 1 rfl rfl 3 (by decide) (hts _ wl_533) (fun _ h9 => h9) rfl dX6_air_113 ?_
      refine lv_iload_n hx hb dX6_air_116 rfl (lv_at hl 1 rfl) ?_
      obtain ⟨h17, hf⟩ := dq_g hf
      refine va_iald (cA := y 1) (n := 5) (f := g_n_kind) hx hb hK hP 3 1 rfl rfl h17 dX6_air_117 ?_
      refine lv_aload_n hx hb dX6_air_118 rfl (lv_at hl 0 rfl) ?_
      refine va_get (D := D) (ci := 5) (v := .ref (a 1)) (C := RX6) (T := TX6) (N := 12) hx hb hts iwX6 hown hK hP 0 rfl rfl 0 (by decide) (hts _ wl_15) (fun _ h9 => h9) rfl dX6_air_119 ?_
      refine va_get (D := D) (ci := 1) (v := .ref (a 4)) (C := RX2) (T := TX2) (N := 15) hx hb hts iwX2 hown hK hP 1 rfl rfl 4 (by decide) (hts _ wl_534) (fun _ h9 => h9) rfl dX6_air_122 ?_
      refine lv_iload_n hx hb dX6_air_125 rfl (lv_at hl 1 rfl) ?_
      obtain ⟨h18, hf⟩ := dq_g hf
      refine va_iald (cA := y 1) (n := 5) (f := g_n_figure) hx hb hK hP 4 1 rfl rfl h18 dX6_air_126 ?_
      obtain ⟨x19, hy20, hf⟩ := dq_b hf
      refine ct_callS0 (own := RX6) (As := [.int (g_n_kind n0.toNatClampNeg), .int (g_n_figure n0.toNatClampNeg)]) (rest := []) ⟨hx, hb, hml, hown, hts⟩ (m_X0_leaps l D y (g_n_kind n0.toNatClampNeg) (g_n_figure n0.toNatClampNeg) x19 hy20) (va_cwS 2 hts (gA_S wl_543 wl_288 wl_289 wl_290) rfl rfl rfl (by decide +kernel) ⟨Nat.le_of_ble_eq_true rfl, Nat.le_of_ble_eq_true rfl⟩) rfl hl.1 rfl (Nat.le_of_ble_eq_true rfl) dX6_air_127 ⟨Nat.zero_le _, Nat.zero_le _⟩ hK hP hD hS hA (fun H locs hP hD hS => ?_)
      obtain ⟨rfl, rfl⟩ := dq_r2 hf
      exact ct_iret hx hb hr hlocks hAe hP hK hD hS dX6_air_130
    have hf := dq_f hf c16
    have c4 : n1.toInt ≠ 0 := fun q => c4 (Int32.toInt_inj.mp q)
    have c6 : n1.toInt ≠ 1 := fun q => c6 (Int32.toInt_inj.mp q)
    have c8 : n1.toInt ≠ 2 := fun q => c8 (Int32.toInt_inj.mp q)
    have c10 : n1.toInt ≠ 3 := fun q => c10 (Int32.toInt_inj.mp q)
    have c12 : n1.toInt ≠ 4 := fun q => c12 (Int32.toInt_inj.mp q)
    have c16 : n1.toInt ≠ 5 := fun q => c16 (Int32.toInt_inj.mp q)
    refine lv_tableOut (tgt := 131) hx hb dX6_air_15 (by omega) (by decide) ?_
    clear c4 c6 c8 c10 c12 c16
    refine lv_aload_n hx hb dX6_air_131 rfl (lv_at hl 0 rfl) ?_
    refine lv_bipush (v := -2) hx hb dX6_air_132 (by decide) ?_
    obtain ⟨x21, g_refused_22, hy23, hf⟩ := dq_b2 hf
    refine ct_callV0 (ci := 5) (q0 := 0) (own := RX6) (As := [.int (-2 : Int32)]) (rest := []) (ws' := ((w_X6 y a g_hasImage g_toldCount g_n_shutBits g_n_airs g_n_crownedBits g_n_sitters g_n_onBits g_n_turn g_n_taken g_n_warmth g_n_kind g_n_figure g_n_airCell g_n_way g_n_seat g_n_shawls g_n_count g_n_steps g_n_numbers g_m_shutBits g_m_airs g_m_crownedBits g_m_sitters g_m_onBits g_m_turn g_m_taken g_m_warmth g_m_kind g_m_figure g_m_airCell g_m_way g_m_seat g_m_shawls g_m_count g_m_steps g_m_numbers g_i_shutBits g_i_airs g_i_crownedBits g_i_sitters g_i_onBits g_i_turn g_i_taken g_i_warmth g_i_kind g_i_figure g_i_airCell g_i_way g_i_seat g_i_shawls g_i_count g_i_steps g_i_numbers g_past_next g_past_count g_text_length g_text_letters g_coats_sorts g_coats_sizes g_places g_coats_carried g_told g_refused_22 g_oneHas g_otherHas) ++ (w_blob y (fun k => a (34 + (1 + k))) g_k_shutBits g_k_airs g_k_crownedBits g_k_sitters g_k_onBits g_k_turn g_k_taken g_k_warmth g_k_kind g_k_figure g_k_airCell g_k_way g_k_seat g_k_shawls g_k_count g_k_steps g_k_numbers))) ⟨hx, hb, hml, hown, hts⟩ (m_X6_refuse l D y a g_hasImage g_toldCount g_n_shutBits g_n_airs g_n_crownedBits g_n_sitters g_n_onBits g_n_turn g_n_taken g_n_warmth g_n_kind g_n_figure g_n_airCell g_n_way g_n_seat g_n_shawls g_n_count g_n_steps g_n_numbers g_m_shutBits g_m_airs g_m_crownedBits g_m_sitters g_m_onBits g_m_turn g_m_taken g_m_warmth g_m_kind g_m_figure g_m_airCell g_m_way g_m_seat g_m_shawls g_m_count g_m_steps g_m_numbers g_i_shutBits g_i_airs g_i_crownedBits g_i_sitters g_i_onBits g_i_turn g_i_taken g_i_warmth g_i_kind g_i_figure g_i_airCell g_i_way g_i_seat g_i_shawls g_i_count g_i_steps g_i_numbers g_past_next g_past_count g_text_length g_text_letters g_coats_sorts g_coats_sizes g_places g_coats_carried g_told g_refused g_oneHas g_otherHas g_k_shutBits g_k_airs g_k_crownedBits g_k_sitters g_k_onBits g_k_turn g_k_taken g_k_warmth g_k_kind g_k_figure g_k_airCell g_k_way g_k_seat g_k_shawls g_k_count g_k_steps g_k_numbers (-2 : Int32) x21 g_refused_22 hy23) (cwV 1 hts (gA_V wl_124 wl_125 wl_126 wl_2 wl_127) rfl rfl rfl (by decide +kernel) ⟨Nat.le_of_ble_eq_true rfl, Nat.le_of_ble_eq_true rfl⟩) rfl rfl rfl hl.1 rfl (Nat.le_of_ble_eq_true rfl) dX6_air_134 ⟨Nat.zero_le _, Nat.zero_le _⟩ hK hP hD hS hA (fun H locs hP hD hS => ?_)
    obtain ⟨rfl, rfl⟩ := dq_r2 hf
    exact ct_iret hx hb hr hlocks hAe hP hK hD hS dX6_air_137
  · have hf := dq_t hf c3
    clear c3
    refine lv_aload_n hx hb dX6_air_8 rfl (lv_at hl 0 rfl) ?_
    refine lv_iconst (v := -1) hx hb dX6_air_9 (by decide) ?_
    obtain ⟨x24, g_refused_25, hy26, hf⟩ := dq_b2 hf
    refine ct_callV0 (ci := 5) (q0 := 0) (own := RX6) (As := [.int (-1 : Int32)]) (rest := []) (ws' := ((w_X6 y a g_hasImage g_toldCount g_n_shutBits g_n_airs g_n_crownedBits g_n_sitters g_n_onBits g_n_turn g_n_taken g_n_warmth g_n_kind g_n_figure g_n_airCell g_n_way g_n_seat g_n_shawls g_n_count g_n_steps g_n_numbers g_m_shutBits g_m_airs g_m_crownedBits g_m_sitters g_m_onBits g_m_turn g_m_taken g_m_warmth g_m_kind g_m_figure g_m_airCell g_m_way g_m_seat g_m_shawls g_m_count g_m_steps g_m_numbers g_i_shutBits g_i_airs g_i_crownedBits g_i_sitters g_i_onBits g_i_turn g_i_taken g_i_warmth g_i_kind g_i_figure g_i_airCell g_i_way g_i_seat g_i_shawls g_i_count g_i_steps g_i_numbers g_past_next g_past_count g_text_length g_text_letters g_coats_sorts g_coats_sizes g_places g_coats_carried g_told g_refused_25 g_oneHas g_otherHas) ++ (w_blob y (fun k => a (34 + (1 + k))) g_k_shutBits g_k_airs g_k_crownedBits g_k_sitters g_k_onBits g_k_turn g_k_taken g_k_warmth g_k_kind g_k_figure g_k_airCell g_k_way g_k_seat g_k_shawls g_k_count g_k_steps g_k_numbers))) ⟨hx, hb, hml, hown, hts⟩ (m_X6_refuse l D y a g_hasImage g_toldCount g_n_shutBits g_n_airs g_n_crownedBits g_n_sitters g_n_onBits g_n_turn g_n_taken g_n_warmth g_n_kind g_n_figure g_n_airCell g_n_way g_n_seat g_n_shawls g_n_count g_n_steps g_n_numbers g_m_shutBits g_m_airs g_m_crownedBits g_m_sitters g_m_onBits g_m_turn g_m_taken g_m_warmth g_m_kind g_m_figure g_m_airCell g_m_way g_m_seat g_m_shawls g_m_count g_m_steps g_m_numbers g_i_shutBits g_i_airs g_i_crownedBits g_i_sitters g_i_onBits g_i_turn g_i_taken g_i_warmth g_i_kind g_i_figure g_i_airCell g_i_way g_i_seat g_i_shawls g_i_count g_i_steps g_i_numbers g_past_next g_past_count g_text_length g_text_letters g_coats_sorts g_coats_sizes g_places g_coats_carried g_told g_refused g_oneHas g_otherHas g_k_shutBits g_k_airs g_k_crownedBits g_k_sitters g_k_onBits g_k_turn g_k_taken g_k_warmth g_k_kind g_k_figure g_k_airCell g_k_way g_k_seat g_k_shawls g_k_count g_k_steps g_k_numbers (-1 : Int32) x24 g_refused_25 hy26) (cwV 1 hts (gA_V wl_124 wl_125 wl_126 wl_2 wl_127) rfl rfl rfl (by decide +kernel) ⟨Nat.le_of_ble_eq_true rfl, Nat.le_of_ble_eq_true rfl⟩) rfl rfl rfl hl.1 rfl (Nat.le_of_ble_eq_true rfl) dX6_air_10 ⟨Nat.zero_le _, Nat.zero_le _⟩ hK hP hD hS hA (fun H locs hP hD hS => ?_)
    obtain ⟨rfl, rfl⟩ := dq_r2 hf
    exact ct_iret hx hb hr hlocks hAe hP hK hD hS dX6_air_13
noncomputable def f_X6_isSitter (g_n_sitters : Int32) (n0 : Int32) : Option Int32 := dq_if (n0 < 0) (some (0 : Int32)) (dq_if (g_n_sitters ≤ n0) (some (0 : Int32)) (some (1 : Int32)))
def wA_X6_isSitter : List Cond := .code yX6_isSitter cX6_isSitter 2 (some .boolean) :: wsL_law
-- DraughtsTake.isSitter(I)Z
set_option maxHeartbeats 4000000 in
set_option maxRecDepth 100000 in
theorem m_X6_isSitter (l : Launch) (D : va_G) (y : Nat → ClassId) (a : (Nat → Nat)) (g_hasImage : Int32) (g_toldCount : Int32) (g_n_shutBits : Int64) (g_n_airs : Int32) (g_n_crownedBits : Int32) (g_n_sitters : Int32) (g_n_onBits : Int32) (g_n_turn : Int32) (g_n_taken : Int32) (g_n_warmth : (Nat → UInt32)) (g_n_kind : (Nat → Int32)) (g_n_figure : (Nat → Int32)) (g_n_airCell : (Nat → Int32)) (g_n_way : (Nat → Int32)) (g_n_seat : (Nat → Int32)) (g_n_shawls : (Nat → Int32)) (g_n_count : Int32) (g_n_steps : (Nat → Int32)) (g_n_numbers : (Nat → Int32)) (g_m_shutBits : Int64) (g_m_airs : Int32) (g_m_crownedBits : Int32) (g_m_sitters : Int32) (g_m_onBits : Int32) (g_m_turn : Int32) (g_m_taken : Int32) (g_m_warmth : (Nat → UInt32)) (g_m_kind : (Nat → Int32)) (g_m_figure : (Nat → Int32)) (g_m_airCell : (Nat → Int32)) (g_m_way : (Nat → Int32)) (g_m_seat : (Nat → Int32)) (g_m_shawls : (Nat → Int32)) (g_m_count : Int32) (g_m_steps : (Nat → Int32)) (g_m_numbers : (Nat → Int32)) (g_i_shutBits : Int64) (g_i_airs : Int32) (g_i_crownedBits : Int32) (g_i_sitters : Int32) (g_i_onBits : Int32) (g_i_turn : Int32) (g_i_taken : Int32) (g_i_warmth : (Nat → UInt32)) (g_i_kind : (Nat → Int32)) (g_i_figure : (Nat → Int32)) (g_i_airCell : (Nat → Int32)) (g_i_way : (Nat → Int32)) (g_i_seat : (Nat → Int32)) (g_i_shawls : (Nat → Int32)) (g_i_count : Int32) (g_i_steps : (Nat → Int32)) (g_i_numbers : (Nat → Int32)) (g_past_next : Int32) (g_past_count : Int32) (g_text_length : Int32) (g_text_letters : (Nat → Int32)) (g_coats_sorts : (Nat → Int32)) (g_coats_sizes : (Nat → Int32)) (g_places : (Nat → Nat → Int32)) (g_coats_carried : (Nat → Int32)) (g_told : (Nat → Int32)) (g_refused : (Nat → Int32)) (g_oneHas : (Nat → Int32)) (g_otherHas : (Nat → Int32)) (g_k_shutBits : (Nat → Int64)) (g_k_airs : (Nat → Int32)) (g_k_crownedBits : (Nat → Int32)) (g_k_sitters : (Nat → Int32)) (g_k_onBits : (Nat → Int32)) (g_k_turn : (Nat → Int32)) (g_k_taken : (Nat → Int32)) (g_k_warmth : (Nat → Nat → UInt32)) (g_k_kind : (Nat → Nat → Int32)) (g_k_figure : (Nat → Nat → Int32)) (g_k_airCell : (Nat → Nat → Int32)) (g_k_way : (Nat → Nat → Int32)) (g_k_seat : (Nat → Nat → Int32)) (g_k_shawls : (Nat → Nat → Int32)) (g_k_count : (Nat → Int32)) (g_k_steps : (Nat → Nat → Int32)) (g_k_numbers : (Nat → Nat → Int32)) (n0 : Int32) (z0 : Int32) (hf : f_X6_isSitter g_n_sitters n0 = some z0) : Ct l D y yX6_isSitter wA_X6_isSitter 0 0 [.ref (a 0), .int n0] ((w_X6 y a g_hasImage g_toldCount g_n_shutBits g_n_airs g_n_crownedBits g_n_sitters g_n_onBits g_n_turn g_n_taken g_n_warmth g_n_kind g_n_figure g_n_airCell g_n_way g_n_seat g_n_shawls g_n_count g_n_steps g_n_numbers g_m_shutBits g_m_airs g_m_crownedBits g_m_sitters g_m_onBits g_m_turn g_m_taken g_m_warmth g_m_kind g_m_figure g_m_airCell g_m_way g_m_seat g_m_shawls g_m_count g_m_steps g_m_numbers g_i_shutBits g_i_airs g_i_crownedBits g_i_sitters g_i_onBits g_i_turn g_i_taken g_i_warmth g_i_kind g_i_figure g_i_airCell g_i_way g_i_seat g_i_shawls g_i_count g_i_steps g_i_numbers g_past_next g_past_count g_text_length g_text_letters g_coats_sorts g_coats_sizes g_places g_coats_carried g_told g_refused g_oneHas g_otherHas) ++ (w_blob y (fun k => a (34 + (1 + k))) g_k_shutBits g_k_airs g_k_crownedBits g_k_sitters g_k_onBits g_k_turn g_k_taken g_k_warmth g_k_kind g_k_figure g_k_airCell g_k_way g_k_seat g_k_shawls g_k_count g_k_steps g_k_numbers)) ((w_X6 y a g_hasImage g_toldCount g_n_shutBits g_n_airs g_n_crownedBits g_n_sitters g_n_onBits g_n_turn g_n_taken g_n_warmth g_n_kind g_n_figure g_n_airCell g_n_way g_n_seat g_n_shawls g_n_count g_n_steps g_n_numbers g_m_shutBits g_m_airs g_m_crownedBits g_m_sitters g_m_onBits g_m_turn g_m_taken g_m_warmth g_m_kind g_m_figure g_m_airCell g_m_way g_m_seat g_m_shawls g_m_count g_m_steps g_m_numbers g_i_shutBits g_i_airs g_i_crownedBits g_i_sitters g_i_onBits g_i_turn g_i_taken g_i_warmth g_i_kind g_i_figure g_i_airCell g_i_way g_i_seat g_i_shawls g_i_count g_i_steps g_i_numbers g_past_next g_past_count g_text_length g_text_letters g_coats_sorts g_coats_sizes g_places g_coats_carried g_told g_refused g_oneHas g_otherHas) ++ (w_blob y (fun k => a (34 + (1 + k))) g_k_shutBits g_k_airs g_k_crownedBits g_k_sitters g_k_onBits g_k_turn g_k_taken g_k_warmth g_k_kind g_k_figure g_k_airCell g_k_way g_k_seat g_k_shawls g_k_count g_k_steps g_k_numbers)) (some (.int z0)) := by
  refine ct_head (cc := cX6_isSitter) (n := 2) (ret := (some .boolean)) (by decide) rfl (Nat.le_of_ble_eq_true rfl) ?_
  intro p e s m below meth c A ls hx hb hr hml hown hlocks hts hA hAe hP hK hD hl
  have hS : va_S A s.heap s.heap [] := va_S.rf
  have hl : lv_has ls 2 [(0, .ref (a 0)), (1, .int n0)] := hl
  have hown : s.vm.findClass RX6 = some m.cls := hown
  have hts : ∀ w ∈ wsL_law, w.before [.ref (a 0), .int n0].toArray s = true := fun w h => hts w (List.mem_cons_of_mem _ h)
  unfold f_X6_isSitter at hf
  refine lv_iload_n hx hb dX6_isSitter_0 rfl (lv_at hl 1 rfl) ?_
  refine lv_if_lt (tgt := 19) hx hb dX6_isSitter_1 (by decide) (fun c1 => ?_) (fun c1 => ?_)
  · have hf := dq_t hf c1
    clear c1
    refine lv_iconst (v := 0) hx hb dX6_isSitter_19 (by decide) ?_
    obtain rfl := dq_r1 hf
    exact ct_zret hx hb hr rfl hlocks hAe hP hK hD hS dX6_isSitter_20
  · have hf := dq_f hf c1
    clear c1
    refine lv_iload_n hx hb dX6_isSitter_4 rfl (lv_at hl 1 rfl) ?_
    refine lv_aload_n hx hb dX6_isSitter_5 rfl (lv_at hl 0 rfl) ?_
    refine va_get (D := D) (ci := 5) (v := .ref (a 1)) (C := RX6) (T := TX6) (N := 12) hx hb hts iwX6 hown hK hP 0 rfl rfl 0 (by decide) (hts _ wl_15) (fun _ h9 => h9) rfl dX6_isSitter_6 ?_
    refine va_get (D := D) (ci := 1) (v := .int g_n_sitters) (C := RX2) (T := TX2) (N := 15) hx hb hts iwX2 hown hK hP 1 rfl rfl 8 (by decide) (hts _ wl_562) (fun _ h9 => h9) rfl dX6_isSitter_9 ?_
    refine lv_icmp_ge (tgt := 19) hx hb dX6_isSitter_12 (by decide) (fun c2 => ?_) (fun c2 => ?_)
    · have hf := dq_t hf c2
      clear c2
      refine lv_iconst (v := 0) hx hb dX6_isSitter_19 (by decide) ?_
      obtain rfl := dq_r1 hf
      exact ct_zret hx hb hr rfl hlocks hAe hP hK hD hS dX6_isSitter_20
    · have hf := dq_f hf c2
      clear c2
      refine lv_iconst (v := 1) hx hb dX6_isSitter_15 (by decide) ?_
      refine lv_goto (tgt := 20) hx hb dX6_isSitter_16 (by decide) ?_
      obtain rfl := dq_r1 hf
      exact ct_zret hx hb hr rfl hlocks hAe hP hK hD hS dX6_isSitter_20
noncomputable def f_X6_sitter (g_n_sitters : Int32) (g_n_onBits : Int32) (g_n_seat : (Nat → Int32)) (g_n_shawls : (Nat → Int32)) (g_refused : (Nat → Int32)) (n0 : Int32) (n1 : Int32) : Option (Int32 × (Nat → Int32)) := dq_bd (f_X6_isSitter g_n_sitters n0) (fun (x1 : Int32) => dq_if (x1 = 0) (dq_bd2 (f_X6_refuse g_refused (-1 : Int32)) (fun (x15 : Int32) (g_refused_16 : (Nat → Int32)) => some (x15, g_refused_16))) (dq_if (n1 = 0) (dq_gd (vp_in n0 6) (some ((g_n_seat n0.toNatClampNeg), g_refused))) (dq_if (n1 = 1) (dq_gd (vp_in n0 6) (some ((g_n_shawls n0.toNatClampNeg), g_refused))) (dq_if (n1 = 2) (dq_bd (f_X2_isOn g_n_onBits n0) (fun (x9 : Int32) => dq_if (x9 = 0) (some ((0 : Int32), g_refused)) (some ((1 : Int32), g_refused)))) (dq_bd2 (f_X6_refuse g_refused (-2 : Int32)) (fun (x12 : Int32) (g_refused_13 : (Nat → Int32)) => some (x12, g_refused_13)))))))
def wA_X6_sitter : List Cond := .code yX6_sitter cX6_sitter 3 (some .int) :: wsL_law
-- DraughtsTake.sitter(II)I
set_option maxHeartbeats 4000000 in
set_option maxRecDepth 100000 in
theorem m_X6_sitter (l : Launch) (D : va_G) (y : Nat → ClassId) (a : (Nat → Nat)) (g_hasImage : Int32) (g_toldCount : Int32) (g_n_shutBits : Int64) (g_n_airs : Int32) (g_n_crownedBits : Int32) (g_n_sitters : Int32) (g_n_onBits : Int32) (g_n_turn : Int32) (g_n_taken : Int32) (g_n_warmth : (Nat → UInt32)) (g_n_kind : (Nat → Int32)) (g_n_figure : (Nat → Int32)) (g_n_airCell : (Nat → Int32)) (g_n_way : (Nat → Int32)) (g_n_seat : (Nat → Int32)) (g_n_shawls : (Nat → Int32)) (g_n_count : Int32) (g_n_steps : (Nat → Int32)) (g_n_numbers : (Nat → Int32)) (g_m_shutBits : Int64) (g_m_airs : Int32) (g_m_crownedBits : Int32) (g_m_sitters : Int32) (g_m_onBits : Int32) (g_m_turn : Int32) (g_m_taken : Int32) (g_m_warmth : (Nat → UInt32)) (g_m_kind : (Nat → Int32)) (g_m_figure : (Nat → Int32)) (g_m_airCell : (Nat → Int32)) (g_m_way : (Nat → Int32)) (g_m_seat : (Nat → Int32)) (g_m_shawls : (Nat → Int32)) (g_m_count : Int32) (g_m_steps : (Nat → Int32)) (g_m_numbers : (Nat → Int32)) (g_i_shutBits : Int64) (g_i_airs : Int32) (g_i_crownedBits : Int32) (g_i_sitters : Int32) (g_i_onBits : Int32) (g_i_turn : Int32) (g_i_taken : Int32) (g_i_warmth : (Nat → UInt32)) (g_i_kind : (Nat → Int32)) (g_i_figure : (Nat → Int32)) (g_i_airCell : (Nat → Int32)) (g_i_way : (Nat → Int32)) (g_i_seat : (Nat → Int32)) (g_i_shawls : (Nat → Int32)) (g_i_count : Int32) (g_i_steps : (Nat → Int32)) (g_i_numbers : (Nat → Int32)) (g_past_next : Int32) (g_past_count : Int32) (g_text_length : Int32) (g_text_letters : (Nat → Int32)) (g_coats_sorts : (Nat → Int32)) (g_coats_sizes : (Nat → Int32)) (g_places : (Nat → Nat → Int32)) (g_coats_carried : (Nat → Int32)) (g_told : (Nat → Int32)) (g_refused : (Nat → Int32)) (g_oneHas : (Nat → Int32)) (g_otherHas : (Nat → Int32)) (g_k_shutBits : (Nat → Int64)) (g_k_airs : (Nat → Int32)) (g_k_crownedBits : (Nat → Int32)) (g_k_sitters : (Nat → Int32)) (g_k_onBits : (Nat → Int32)) (g_k_turn : (Nat → Int32)) (g_k_taken : (Nat → Int32)) (g_k_warmth : (Nat → Nat → UInt32)) (g_k_kind : (Nat → Nat → Int32)) (g_k_figure : (Nat → Nat → Int32)) (g_k_airCell : (Nat → Nat → Int32)) (g_k_way : (Nat → Nat → Int32)) (g_k_seat : (Nat → Nat → Int32)) (g_k_shawls : (Nat → Nat → Int32)) (g_k_count : (Nat → Int32)) (g_k_steps : (Nat → Nat → Int32)) (g_k_numbers : (Nat → Nat → Int32)) (n0 : Int32) (n1 : Int32) (z0 : Int32) (z1 : (Nat → Int32)) (hf : f_X6_sitter g_n_sitters g_n_onBits g_n_seat g_n_shawls g_refused n0 n1 = some (z0, z1)) : Ct l D y yX6_sitter wA_X6_sitter 1 21 [.ref (a 0), .int n0, .int n1] ((w_X6 y a g_hasImage g_toldCount g_n_shutBits g_n_airs g_n_crownedBits g_n_sitters g_n_onBits g_n_turn g_n_taken g_n_warmth g_n_kind g_n_figure g_n_airCell g_n_way g_n_seat g_n_shawls g_n_count g_n_steps g_n_numbers g_m_shutBits g_m_airs g_m_crownedBits g_m_sitters g_m_onBits g_m_turn g_m_taken g_m_warmth g_m_kind g_m_figure g_m_airCell g_m_way g_m_seat g_m_shawls g_m_count g_m_steps g_m_numbers g_i_shutBits g_i_airs g_i_crownedBits g_i_sitters g_i_onBits g_i_turn g_i_taken g_i_warmth g_i_kind g_i_figure g_i_airCell g_i_way g_i_seat g_i_shawls g_i_count g_i_steps g_i_numbers g_past_next g_past_count g_text_length g_text_letters g_coats_sorts g_coats_sizes g_places g_coats_carried g_told g_refused g_oneHas g_otherHas) ++ (w_blob y (fun k => a (34 + (1 + k))) g_k_shutBits g_k_airs g_k_crownedBits g_k_sitters g_k_onBits g_k_turn g_k_taken g_k_warmth g_k_kind g_k_figure g_k_airCell g_k_way g_k_seat g_k_shawls g_k_count g_k_steps g_k_numbers)) ((w_X6 y a g_hasImage g_toldCount g_n_shutBits g_n_airs g_n_crownedBits g_n_sitters g_n_onBits g_n_turn g_n_taken g_n_warmth g_n_kind g_n_figure g_n_airCell g_n_way g_n_seat g_n_shawls g_n_count g_n_steps g_n_numbers g_m_shutBits g_m_airs g_m_crownedBits g_m_sitters g_m_onBits g_m_turn g_m_taken g_m_warmth g_m_kind g_m_figure g_m_airCell g_m_way g_m_seat g_m_shawls g_m_count g_m_steps g_m_numbers g_i_shutBits g_i_airs g_i_crownedBits g_i_sitters g_i_onBits g_i_turn g_i_taken g_i_warmth g_i_kind g_i_figure g_i_airCell g_i_way g_i_seat g_i_shawls g_i_count g_i_steps g_i_numbers g_past_next g_past_count g_text_length g_text_letters g_coats_sorts g_coats_sizes g_places g_coats_carried g_told z1 g_oneHas g_otherHas) ++ (w_blob y (fun k => a (34 + (1 + k))) g_k_shutBits g_k_airs g_k_crownedBits g_k_sitters g_k_onBits g_k_turn g_k_taken g_k_warmth g_k_kind g_k_figure g_k_airCell g_k_way g_k_seat g_k_shawls g_k_count g_k_steps g_k_numbers)) (some (.int z0)) := by
  refine ct_head (cc := cX6_sitter) (n := 3) (ret := (some .int)) (by decide) rfl (Nat.le_of_ble_eq_true rfl) ?_
  intro p e s m below meth c A ls hx hb hr hml hown hlocks hts hA hAe hP hK hD hl
  have hS : va_S A s.heap s.heap [] := va_S.rf
  have hl : lv_has ls 3 [(0, .ref (a 0)), (1, .int n0), (2, .int n1)] := hl
  have hown : s.vm.findClass RX6 = some m.cls := hown
  have hts : ∀ w ∈ wsL_law, w.before [.ref (a 0), .int n0, .int n1].toArray s = true := fun w h => hts w (List.mem_cons_of_mem _ h)
  unfold f_X6_sitter at hf
  refine lv_aload_n hx hb dX6_sitter_0 rfl (lv_at hl 0 rfl) ?_
  refine lv_iload_n hx hb dX6_sitter_1 rfl (lv_at hl 1 rfl) ?_
  obtain ⟨x1, hy2, hf⟩ := dq_b hf
  refine ct_callV0 (ci := 5) (q0 := 0) (own := RX6) (As := [.int n0]) (rest := []) (ws' := ((w_X6 y a g_hasImage g_toldCount g_n_shutBits g_n_airs g_n_crownedBits g_n_sitters g_n_onBits g_n_turn g_n_taken g_n_warmth g_n_kind g_n_figure g_n_airCell g_n_way g_n_seat g_n_shawls g_n_count g_n_steps g_n_numbers g_m_shutBits g_m_airs g_m_crownedBits g_m_sitters g_m_onBits g_m_turn g_m_taken g_m_warmth g_m_kind g_m_figure g_m_airCell g_m_way g_m_seat g_m_shawls g_m_count g_m_steps g_m_numbers g_i_shutBits g_i_airs g_i_crownedBits g_i_sitters g_i_onBits g_i_turn g_i_taken g_i_warmth g_i_kind g_i_figure g_i_airCell g_i_way g_i_seat g_i_shawls g_i_count g_i_steps g_i_numbers g_past_next g_past_count g_text_length g_text_letters g_coats_sorts g_coats_sizes g_places g_coats_carried g_told g_refused g_oneHas g_otherHas) ++ (w_blob y (fun k => a (34 + (1 + k))) g_k_shutBits g_k_airs g_k_crownedBits g_k_sitters g_k_onBits g_k_turn g_k_taken g_k_warmth g_k_kind g_k_figure g_k_airCell g_k_way g_k_seat g_k_shawls g_k_count g_k_steps g_k_numbers))) ⟨hx, hb, hml, hown, hts⟩ (m_X6_isSitter l D y a g_hasImage g_toldCount g_n_shutBits g_n_airs g_n_crownedBits g_n_sitters g_n_onBits g_n_turn g_n_taken g_n_warmth g_n_kind g_n_figure g_n_airCell g_n_way g_n_seat g_n_shawls g_n_count g_n_steps g_n_numbers g_m_shutBits g_m_airs g_m_crownedBits g_m_sitters g_m_onBits g_m_turn g_m_taken g_m_warmth g_m_kind g_m_figure g_m_airCell g_m_way g_m_seat g_m_shawls g_m_count g_m_steps g_m_numbers g_i_shutBits g_i_airs g_i_crownedBits g_i_sitters g_i_onBits g_i_turn g_i_taken g_i_warmth g_i_kind g_i_figure g_i_airCell g_i_way g_i_seat g_i_shawls g_i_count g_i_steps g_i_numbers g_past_next g_past_count g_text_length g_text_letters g_coats_sorts g_coats_sizes g_places g_coats_carried g_told g_refused g_oneHas g_otherHas g_k_shutBits g_k_airs g_k_crownedBits g_k_sitters g_k_onBits g_k_turn g_k_taken g_k_warmth g_k_kind g_k_figure g_k_airCell g_k_way g_k_seat g_k_shawls g_k_count g_k_steps g_k_numbers n0 x1 hy2) (cwV 1 hts (gA_V wl_558 wl_559 wl_560 wl_2 wl_561) rfl rfl rfl (by decide +kernel) ⟨Nat.le_of_ble_eq_true rfl, Nat.le_of_ble_eq_true rfl⟩) rfl rfl rfl hl.1 rfl (Nat.le_of_ble_eq_true rfl) dX6_sitter_2 ⟨Nat.zero_le _, Nat.zero_le _⟩ hK hP hD hS hA (fun H locs hP hD hS => ?_)
  refine lv_if_ne (tgt := 14) hx hb dX6_sitter_5 (by decide) (fun c3 => ?_) (fun c3 => ?_)
  · have hf := dq_f hf c3
    clear c3
    refine lv_iload_n hx hb dX6_sitter_14 rfl (lv_at hl 2 rfl) ?_
    by_cases c4 : n1 = (0 : Int32)
    · have hf := dq_t hf c4
      refine lv_tableIn (tgt := 40) (off := 25) hx hb dX6_sitter_15 (by rw [c4]; decide) (by rw [c4]; decide) (by rw [c4]; decide) (by decide) ?_
      clear c4
      refine lv_aload_n hx hb dX6_sitter_40 rfl (lv_at hl 0 rfl) ?_
      refine va_get (D := D) (ci := 5) (v := .ref (a 1)) (C := RX6) (T := TX6) (N := 12) hx hb hts iwX6 hown hK hP 0 rfl rfl 0 (by decide) (hts _ wl_15) (fun _ h9 => h9) rfl dX6_sitter_41 ?_
      refine va_get (D := D) (ci := 1) (v := .ref (a 7)) (C := RX2) (T := TX2) (N := 15) hx hb hts iwX2 hown hK hP 1 rfl rfl 9 (by decide) (hts _ wl_556) (fun _ h9 => h9) rfl dX6_sitter_44 ?_
      refine lv_iload_n hx hb dX6_sitter_47 rfl (lv_at hl 1 rfl) ?_
      obtain ⟨h5, hf⟩ := dq_g hf
      refine va_iald (cA := y 1) (n := 6) (f := g_n_seat) hx hb hK hP 7 1 rfl rfl h5 dX6_sitter_48 ?_
      obtain ⟨rfl, rfl⟩ := dq_r2 hf
      exact ct_iret hx hb hr hlocks hAe hP hK hD hS dX6_sitter_49
    have hf := dq_f hf c4
    by_cases c6 : n1 = (1 : Int32)
    · have hf := dq_t hf c6
      refine lv_tableIn (tgt := 50) (off := 35) hx hb dX6_sitter_15 (by rw [c6]; decide) (by rw [c6]; decide) (by rw [c6]; decide) (by decide) ?_
      clear c4 c6
      refine lv_aload_n hx hb dX6_sitter_50 rfl (lv_at hl 0 rfl) ?_
      refine va_get (D := D) (ci := 5) (v := .ref (a 1)) (C := RX6) (T := TX6) (N := 12) hx hb hts iwX6 hown hK hP 0 rfl rfl 0 (by decide) (hts _ wl_15) (fun _ h9 => h9) rfl dX6_sitter_51 ?_
      refine va_get (D := D) (ci := 1) (v := .ref (a 8)) (C := RX2) (T := TX2) (N := 15) hx hb hts iwX2 hown hK hP 1 rfl rfl 10 (by decide) (hts _ wl_557) (fun _ h9 => h9) rfl dX6_sitter_54 ?_
      refine lv_iload_n hx hb dX6_sitter_57 rfl (lv_at hl 1 rfl) ?_
      obtain ⟨h7, hf⟩ := dq_g hf
      refine va_iald (cA := y 1) (n := 6) (f := g_n_shawls) hx hb hK hP 8 1 rfl rfl h7 dX6_sitter_58 ?_
      obtain ⟨rfl, rfl⟩ := dq_r2 hf
      exact ct_iret hx hb hr hlocks hAe hP hK hD hS dX6_sitter_59
    have hf := dq_f hf c6
    by_cases c8 : n1 = (2 : Int32)
    · have hf := dq_t hf c8
      refine lv_tableIn (tgt := 60) (off := 45) hx hb dX6_sitter_15 (by rw [c8]; decide) (by rw [c8]; decide) (by rw [c8]; decide) (by decide) ?_
      clear c4 c6 c8
      refine lv_aload_n hx hb dX6_sitter_60 rfl (lv_at hl 0 rfl) ?_
      refine va_get (D := D) (ci := 5) (v := .ref (a 1)) (C := RX6) (T := TX6) (N := 12) hx hb hts iwX6 hown hK hP 0 rfl rfl 0 (by decide) (hts _ wl_15) (fun _ h9 => h9) rfl dX6_sitter_61 ?_
      refine lv_iload_n hx hb dX6_sitter_64 rfl (lv_at hl 1 rfl) ?_
      obtain ⟨x9, hy10, hf⟩ := dq_b hf
      refine ct_callVS (ci := 1) (q0 := 0) (own := RX6) (As := [.int n0]) (rest := []) (L' := (w_X6 y a g_hasImage g_toldCount g_n_shutBits g_n_airs g_n_crownedBits g_n_sitters g_n_onBits g_n_turn g_n_taken g_n_warmth g_n_kind g_n_figure g_n_airCell g_n_way g_n_seat g_n_shawls g_n_count g_n_steps g_n_numbers g_m_shutBits g_m_airs g_m_crownedBits g_m_sitters g_m_onBits g_m_turn g_m_taken g_m_warmth g_m_kind g_m_figure g_m_airCell g_m_way g_m_seat g_m_shawls g_m_count g_m_steps g_m_numbers g_i_shutBits g_i_airs g_i_crownedBits g_i_sitters g_i_onBits g_i_turn g_i_taken g_i_warmth g_i_kind g_i_figure g_i_airCell g_i_way g_i_seat g_i_shawls g_i_count g_i_steps g_i_numbers g_past_next g_past_count g_text_length g_text_letters g_coats_sorts g_coats_sizes g_places g_coats_carried g_told g_refused g_oneHas g_otherHas)) (B := (w_blob y (fun k => a (34 + (1 + k))) g_k_shutBits g_k_airs g_k_crownedBits g_k_sitters g_k_onBits g_k_turn g_k_taken g_k_warmth g_k_kind g_k_figure g_k_airCell g_k_way g_k_seat g_k_shawls g_k_count g_k_steps g_k_numbers)) ⟨hx, hb, hml, hown, hts⟩ (m_X2_isOn l D y (fun k => a (1 + k)) g_n_shutBits g_n_airs g_n_crownedBits g_n_sitters g_n_onBits g_n_turn g_n_taken g_n_warmth g_n_kind g_n_figure g_n_airCell g_n_way g_n_seat g_n_shawls g_n_count g_n_steps g_n_numbers n0 x9 hy10) (cwV 1 hts (gA_V wl_563 wl_345 wl_346 wl_14 wl_347) rfl rfl rfl (by decide +kernel) ⟨Nat.le_of_ble_eq_true rfl, Nat.le_of_ble_eq_true rfl⟩) rfl rfl rfl hl.1 rfl (Nat.le_of_ble_eq_true rfl) dX6_sitter_65 ⟨Nat.zero_le _, Nat.zero_le _⟩ hK hP hD hS hA (ct_tail 1 11) rfl rfl (by decide) rfl (sg1 1 11 rfl rfl) (fun H locs hP hD hS => ?_)
      refine lv_if_eq (tgt := 75) hx hb dX6_sitter_68 (by decide) (fun c11 => ?_) (fun c11 => ?_)
      · have hf := dq_t hf c11
        clear c11
        refine lv_iconst (v := 0) hx hb dX6_sitter_75 (by decide) ?_
        obtain ⟨rfl, rfl⟩ := dq_r2 hf
        exact ct_iret hx hb hr hlocks hAe hP hK hD hS dX6_sitter_76
      · have hf := dq_f hf c11
        clear c11
        refine lv_iconst (v := 1) hx hb dX6_sitter_71 (by decide) ?_
        refine lv_goto (tgt := 76) hx hb dX6_sitter_72 (by decide) ?_
        obtain ⟨rfl, rfl⟩ := dq_r2 hf
        exact ct_iret hx hb hr hlocks hAe hP hK hD hS dX6_sitter_76
    have hf := dq_f hf c8
    have c4 : n1.toInt ≠ 0 := fun q => c4 (Int32.toInt_inj.mp q)
    have c6 : n1.toInt ≠ 1 := fun q => c6 (Int32.toInt_inj.mp q)
    have c8 : n1.toInt ≠ 2 := fun q => c8 (Int32.toInt_inj.mp q)
    refine lv_tableOut (tgt := 77) hx hb dX6_sitter_15 (by omega) (by decide) ?_
    clear c4 c6 c8
    refine lv_aload_n hx hb dX6_sitter_77 rfl (lv_at hl 0 rfl) ?_
    refine lv_bipush (v := -2) hx hb dX6_sitter_78 (by decide) ?_
    obtain ⟨x12, g_refused_13, hy14, hf⟩ := dq_b2 hf
    refine ct_callV0 (ci := 5) (q0 := 0) (own := RX6) (As := [.int (-2 : Int32)]) (rest := []) (ws' := ((w_X6 y a g_hasImage g_toldCount g_n_shutBits g_n_airs g_n_crownedBits g_n_sitters g_n_onBits g_n_turn g_n_taken g_n_warmth g_n_kind g_n_figure g_n_airCell g_n_way g_n_seat g_n_shawls g_n_count g_n_steps g_n_numbers g_m_shutBits g_m_airs g_m_crownedBits g_m_sitters g_m_onBits g_m_turn g_m_taken g_m_warmth g_m_kind g_m_figure g_m_airCell g_m_way g_m_seat g_m_shawls g_m_count g_m_steps g_m_numbers g_i_shutBits g_i_airs g_i_crownedBits g_i_sitters g_i_onBits g_i_turn g_i_taken g_i_warmth g_i_kind g_i_figure g_i_airCell g_i_way g_i_seat g_i_shawls g_i_count g_i_steps g_i_numbers g_past_next g_past_count g_text_length g_text_letters g_coats_sorts g_coats_sizes g_places g_coats_carried g_told g_refused_13 g_oneHas g_otherHas) ++ (w_blob y (fun k => a (34 + (1 + k))) g_k_shutBits g_k_airs g_k_crownedBits g_k_sitters g_k_onBits g_k_turn g_k_taken g_k_warmth g_k_kind g_k_figure g_k_airCell g_k_way g_k_seat g_k_shawls g_k_count g_k_steps g_k_numbers))) ⟨hx, hb, hml, hown, hts⟩ (m_X6_refuse l D y a g_hasImage g_toldCount g_n_shutBits g_n_airs g_n_crownedBits g_n_sitters g_n_onBits g_n_turn g_n_taken g_n_warmth g_n_kind g_n_figure g_n_airCell g_n_way g_n_seat g_n_shawls g_n_count g_n_steps g_n_numbers g_m_shutBits g_m_airs g_m_crownedBits g_m_sitters g_m_onBits g_m_turn g_m_taken g_m_warmth g_m_kind g_m_figure g_m_airCell g_m_way g_m_seat g_m_shawls g_m_count g_m_steps g_m_numbers g_i_shutBits g_i_airs g_i_crownedBits g_i_sitters g_i_onBits g_i_turn g_i_taken g_i_warmth g_i_kind g_i_figure g_i_airCell g_i_way g_i_seat g_i_shawls g_i_count g_i_steps g_i_numbers g_past_next g_past_count g_text_length g_text_letters g_coats_sorts g_coats_sizes g_places g_coats_carried g_told g_refused g_oneHas g_otherHas g_k_shutBits g_k_airs g_k_crownedBits g_k_sitters g_k_onBits g_k_turn g_k_taken g_k_warmth g_k_kind g_k_figure g_k_airCell g_k_way g_k_seat g_k_shawls g_k_count g_k_steps g_k_numbers (-2 : Int32) x12 g_refused_13 hy14) (cwV 1 hts (gA_V wl_124 wl_125 wl_126 wl_2 wl_127) rfl rfl rfl (by decide +kernel) ⟨Nat.le_of_ble_eq_true rfl, Nat.le_of_ble_eq_true rfl⟩) rfl rfl rfl hl.1 rfl (Nat.le_of_ble_eq_true rfl) dX6_sitter_80 ⟨Nat.zero_le _, Nat.zero_le _⟩ hK hP hD hS hA (fun H locs hP hD hS => ?_)
    obtain ⟨rfl, rfl⟩ := dq_r2 hf
    exact ct_iret hx hb hr hlocks hAe hP hK hD hS dX6_sitter_83
  · have hf := dq_t hf c3
    clear c3
    refine lv_aload_n hx hb dX6_sitter_8 rfl (lv_at hl 0 rfl) ?_
    refine lv_iconst (v := -1) hx hb dX6_sitter_9 (by decide) ?_
    obtain ⟨x15, g_refused_16, hy17, hf⟩ := dq_b2 hf
    refine ct_callV0 (ci := 5) (q0 := 0) (own := RX6) (As := [.int (-1 : Int32)]) (rest := []) (ws' := ((w_X6 y a g_hasImage g_toldCount g_n_shutBits g_n_airs g_n_crownedBits g_n_sitters g_n_onBits g_n_turn g_n_taken g_n_warmth g_n_kind g_n_figure g_n_airCell g_n_way g_n_seat g_n_shawls g_n_count g_n_steps g_n_numbers g_m_shutBits g_m_airs g_m_crownedBits g_m_sitters g_m_onBits g_m_turn g_m_taken g_m_warmth g_m_kind g_m_figure g_m_airCell g_m_way g_m_seat g_m_shawls g_m_count g_m_steps g_m_numbers g_i_shutBits g_i_airs g_i_crownedBits g_i_sitters g_i_onBits g_i_turn g_i_taken g_i_warmth g_i_kind g_i_figure g_i_airCell g_i_way g_i_seat g_i_shawls g_i_count g_i_steps g_i_numbers g_past_next g_past_count g_text_length g_text_letters g_coats_sorts g_coats_sizes g_places g_coats_carried g_told g_refused_16 g_oneHas g_otherHas) ++ (w_blob y (fun k => a (34 + (1 + k))) g_k_shutBits g_k_airs g_k_crownedBits g_k_sitters g_k_onBits g_k_turn g_k_taken g_k_warmth g_k_kind g_k_figure g_k_airCell g_k_way g_k_seat g_k_shawls g_k_count g_k_steps g_k_numbers))) ⟨hx, hb, hml, hown, hts⟩ (m_X6_refuse l D y a g_hasImage g_toldCount g_n_shutBits g_n_airs g_n_crownedBits g_n_sitters g_n_onBits g_n_turn g_n_taken g_n_warmth g_n_kind g_n_figure g_n_airCell g_n_way g_n_seat g_n_shawls g_n_count g_n_steps g_n_numbers g_m_shutBits g_m_airs g_m_crownedBits g_m_sitters g_m_onBits g_m_turn g_m_taken g_m_warmth g_m_kind g_m_figure g_m_airCell g_m_way g_m_seat g_m_shawls g_m_count g_m_steps g_m_numbers g_i_shutBits g_i_airs g_i_crownedBits g_i_sitters g_i_onBits g_i_turn g_i_taken g_i_warmth g_i_kind g_i_figure g_i_airCell g_i_way g_i_seat g_i_shawls g_i_count g_i_steps g_i_numbers g_past_next g_past_count g_text_length g_text_letters g_coats_sorts g_coats_sizes g_places g_coats_carried g_told g_refused g_oneHas g_otherHas g_k_shutBits g_k_airs g_k_crownedBits g_k_sitters g_k_onBits g_k_turn g_k_taken g_k_warmth g_k_kind g_k_figure g_k_airCell g_k_way g_k_seat g_k_shawls g_k_count g_k_steps g_k_numbers (-1 : Int32) x15 g_refused_16 hy17) (cwV 1 hts (gA_V wl_124 wl_125 wl_126 wl_2 wl_127) rfl rfl rfl (by decide +kernel) ⟨Nat.le_of_ble_eq_true rfl, Nat.le_of_ble_eq_true rfl⟩) rfl rfl rfl hl.1 rfl (Nat.le_of_ble_eq_true rfl) dX6_sitter_10 ⟨Nat.zero_le _, Nat.zero_le _⟩ hK hP hD hS hA (fun H locs hP hD hS => ?_)
    obtain ⟨rfl, rfl⟩ := dq_r2 hf
    exact ct_iret hx hb hr hlocks hAe hP hK hD hS dX6_sitter_13
noncomputable def f_X6_isCell (n0 : Int32) : Option Int32 := dq_if (n0 < 0) (some (0 : Int32)) (dq_if ((36 : Int32) ≤ n0) (some (0 : Int32)) (some (1 : Int32)))
def wA_X6_isCell : List Cond := .code yX6_isCell cX6_isCell 1 (some .boolean) :: wsL_law
-- DraughtsTake.isCell(I)Z
set_option maxHeartbeats 4000000 in
set_option maxRecDepth 100000 in
theorem m_X6_isCell (l : Launch) (D : va_G) (y : Nat → ClassId) (n0 : Int32) (z0 : Int32) (hf : f_X6_isCell n0 = some z0) : Ct l D y yX6_isCell wA_X6_isCell 0 0 [.int n0] [] [] (some (.int z0)) := by
  refine ct_head (cc := cX6_isCell) (n := 1) (ret := (some .boolean)) (by decide) rfl (Nat.le_of_ble_eq_true rfl) ?_
  intro p e s m below meth c A ls hx hb hr hml hown hlocks hts hA hAe hP hK hD hl
  have hS : va_S A s.heap s.heap [] := va_S.rf
  have hl : lv_has ls 1 [(0, .int n0)] := hl
  have hown : s.vm.findClass RX6 = some m.cls := hown
  have hts : ∀ w ∈ wsL_law, w.before [.int n0].toArray s = true := fun w h => hts w (List.mem_cons_of_mem _ h)
  unfold f_X6_isCell at hf
  refine lv_iload_n hx hb dX6_isCell_0 rfl (lv_at hl 0 rfl) ?_
  refine lv_if_lt (tgt := 14) hx hb dX6_isCell_1 (by decide) (fun c1 => ?_) (fun c1 => ?_)
  · have hf := dq_t hf c1
    clear c1
    refine lv_iconst (v := 0) hx hb dX6_isCell_14 (by decide) ?_
    obtain rfl := dq_r1 hf
    exact ct_zret hx hb hr rfl hlocks hAe hP hK hD hS dX6_isCell_15
  · have hf := dq_f hf c1
    clear c1
    refine lv_iload_n hx hb dX6_isCell_4 rfl (lv_at hl 0 rfl) ?_
    refine lv_bipush (v := 36) hx hb dX6_isCell_5 (by decide) ?_
    refine lv_icmp_ge (tgt := 14) hx hb dX6_isCell_7 (by decide) (fun c2 => ?_) (fun c2 => ?_)
    · have hf := dq_t hf c2
      clear c2
      refine lv_iconst (v := 0) hx hb dX6_isCell_14 (by decide) ?_
      obtain rfl := dq_r1 hf
      exact ct_zret hx hb hr rfl hlocks hAe hP hK hD hS dX6_isCell_15
    · have hf := dq_f hf c2
      clear c2
      refine lv_iconst (v := 1) hx hb dX6_isCell_10 (by decide) ?_
      refine lv_goto (tgt := 15) hx hb dX6_isCell_11 (by decide) ?_
      obtain rfl := dq_r1 hf
      exact ct_zret hx hb hr rfl hlocks hAe hP hK hD hS dX6_isCell_15
