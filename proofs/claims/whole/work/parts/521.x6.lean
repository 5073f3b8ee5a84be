noncomputable def f_X6_coldest_b27 (n0 : Int32) (g_n_warmth : (Nat → UInt32)) (g_refused : (Nat → Int32))  : Nat → Int32 → Int32 → Option (Int32 × (Nat → Int32))
  | 0, _, _ => none
  | m27 + 1, x5, x6 => dq_if ((36 : Int32) ≤ x6) (some (x5, g_refused)) (dq_gd (vp_in x6 36) (dq_gd (vp_in n0 36) (dq_if (0 < (Op.cmpValue (FP.fcmp (g_n_warmth x6.toNatClampNeg) (g_n_warmth n0.toNatClampNeg)) .g)) (dq_let (x6 + (1 : Int32)) (fun (x11 : Int32) => (f_X6_coldest_b27 n0 g_n_warmth g_refused m27) x5 x11)) (dq_let (x5 + (1 : Int32)) (fun (x12 : Int32) => dq_let (x6 + (1 : Int32)) (fun (x13 : Int32) => (f_X6_coldest_b27 n0 g_n_warmth g_refused m27) x12 x13))))))
noncomputable def f_X6_coldest (g_n_warmth : (Nat → UInt32)) (g_refused : (Nat → Int32)) (n0 : Int32) : Option (Int32 × (Nat → Int32)) := dq_if (n0 = (-1 : Int32)) (dq_bd (f_X6_coldestCell g_n_warmth) (fun (x17 : Int32) => some (x17, g_refused))) (dq_bd (f_X6_isCell n0) (fun (x2 : Int32) => dq_if (x2 = 0) (dq_bd2 (f_X6_refuse g_refused (-1 : Int32)) (fun (x14 : Int32) (g_refused_15 : (Nat → Int32)) => some (x14, g_refused_15))) (f_X6_coldest_b27 n0 g_n_warmth g_refused 4096 (0 : Int32) (0 : Int32))))
def wA_X6_coldest : List Cond := .code yX6_coldest cX6_coldest 4 (some .int) :: wsL_law
-- DraughtsTake.coldest(I)I
set_option maxHeartbeats 4000000 in
set_option maxRecDepth 100000 in
theorem m_X6_coldest (l : Launch) (D : va_G) (y : Nat → ClassId) (a : (Nat → Nat)) (g_hasImage : Int32) (g_toldCount : Int32) (g_n_shutBits : Int64) (g_n_airs : Int32) (g_n_crownedBits : Int32) (g_n_sitters : Int32) (g_n_onBits : Int32) (g_n_turn : Int32) (g_n_taken : Int32) (g_n_warmth : (Nat → UInt32)) (g_n_kind : (Nat → Int32)) (g_n_figure : (Nat → Int32)) (g_n_airCell : (Nat → Int32)) (g_n_way : (Nat → Int32)) (g_n_seat : (Nat → Int32)) (g_n_shawls : (Nat → Int32)) (g_n_count : Int32) (g_n_steps : (Nat → Int32)) (g_n_numbers : (Nat → Int32)) (g_m_shutBits : Int64) (g_m_airs : Int32) (g_m_crownedBits : Int32) (g_m_sitters : Int32) (g_m_onBits : Int32) (g_m_turn : Int32) (g_m_taken : Int32) (g_m_warmth : (Nat → UInt32)) (g_m_kind : (Nat → Int32)) (g_m_figure : (Nat → Int32)) (g_m_airCell : (Nat → Int32)) (g_m_way : (Nat → Int32)) (g_m_seat : (Nat → Int32)) (g_m_shawls : (Nat → Int32)) (g_m_count : Int32) (g_m_steps : (Nat → Int32)) (g_m_numbers : (Nat → Int32)) (g_i_shutBits : Int64) (g_i_airs : Int32) (g_i_crownedBits : Int32) (g_i_sitters : Int32) (g_i_onBits : Int32) (g_i_turn : Int32) (g_i_taken : Int32) (g_i_warmth : (Nat → UInt32)) (g_i_kind : (Nat → Int32)) (g_i_figure : (Nat → Int32)) (g_i_airCell : (Nat → Int32)) (g_i_way : (Nat → Int32)) (g_i_seat : (Nat → Int32)) (g_i_shawls : (Nat → Int32)) (g_i_count : Int32) (g_i_steps : (Nat → Int32)) (g_i_numbers : (Nat → Int32)) (g_past_next : Int32) (g_past_count : Int32) (g_text_length : Int32) (g_text_letters : (Nat → Int32)) (g_coats_sorts : (Nat → Int32)) (g_coats_sizes : (Nat → Int32)) (g_places : (Nat → Nat → Int32)) (g_coats_carried : (Nat → Int32)) (g_told : (Nat → Int32)) (g_refused : (Nat → Int32)) (g_oneHas : (Nat → Int32)) (g_otherHas : (Nat → Int32)) (g_k_shutBits : (Nat → Int64)) (g_k_airs : (Nat → Int32)) (g_k_crownedBits : (Nat → Int32)) (g_k_sitters : (Nat → Int32)) (g_k_onBits : (Nat → Int32)) (g_k_turn : (Nat → Int32)) (g_k_taken : (Nat → Int32)) (g_k_warmth : (Nat → Nat → UInt32)) (g_k_kind : (Nat → Nat → Int32)) (g_k_figure : (Nat → Nat → Int32)) (g_k_airCell : (Nat → Nat → Int32)) (g_k_way : (Nat → Nat → Int32)) (g_k_seat : (Nat → Nat → Int32)) (g_k_shawls : (Nat → Nat → Int32)) (g_k_count : (Nat → Int32)) (g_k_steps : (Nat → Nat → Int32)) (g_k_numbers : (Nat → Nat → Int32)) (n0 : Int32) (z0 : Int32) (z1 : (Nat → Int32)) (hf : f_X6_coldest g_n_warmth g_refused n0 = some (z0, z1)) : Ct l D y yX6_coldest wA_X6_coldest 1 22 [.ref (a 0), .int n0] ((w_X6 y a g_hasImage g_toldCount g_n_shutBits g_n_airs g_n_crownedBits g_n_sitters g_n_onBits g_n_turn g_n_taken g_n_warmth g_n_kind g_n_figure g_n_airCell g_n_way g_n_seat g_n_shawls g_n_count g_n_steps g_n_numbers g_m_shutBits g_m_airs g_m_crownedBits g_m_sitters g_m_onBits g_m_turn g_m_taken g_m_warmth g_m_kind g_m_figure g_m_airCell g_m_way g_m_seat g_m_shawls g_m_count g_m_steps g_m_numbers g_i_shutBits g_i_airs g_i_crownedBits g_i_sitters g_i_onBits g_i_turn g_i_taken g_i_warmth g_i_kind g_i_figure g_i_airCell g_i_way g_i_seat g_i_shawls g_i_count g_i_steps g_i_numbers g_past_next g_past_count g_text_length g_text_letters g_coats_sorts g_coats_sizes g_places g_coats_carried g_told g_refused g_oneHas g_otherHas) ++ (w_blob y (fun k => a (34 + (1 + k))) g_k_shutBits g_k_airs g_k_crownedBits g_k_sitters g_k_onBits g_k_turn g_k_taken g_k_warmth g_k_kind g_k_figure g_k_airCell g_k_way g_k_seat g_k_shawls g_k_count g_k_steps g_k_numbers)) ((w_X6 y a g_hasImage g_toldCount g_n_shutBits g_n_airs g_n_crownedBits g_n_sitters g_n_onBits g_n_turn g_n_taken g_n_warmth g_n_kind g_n_figure g_n_airCell g_n_way g_n_seat g_n_shawls g_n_count g_n_steps g_n_numbers g_m_shutBits g_m_airs g_m_crownedBits g_m_sitters g_m_onBits g_m_turn g_m_taken g_m_warmth g_m_kind g_m_figure g_m_airCell g_m_way g_m_seat g_m_shawls g_m_count g_m_steps g_m_numbers g_i_shutBits g_i_airs g_i_crownedBits g_i_sitters g_i_onBits g_i_turn g_i_taken g_i_warmth g_i_kind g_i_figure g_i_airCell g_i_way g_i_seat g_i_shawls g_i_count g_i_steps g_i_numbers g_past_next g_past_count g_text_length g_text_letters g_coats_sorts g_coats_sizes g_places g_coats_carried g_told z1 g_oneHas g_otherHas) ++ (w_blob y (fun k => a (34 + (1 + k))) g_k_shutBits g_k_airs g_k_crownedBits g_k_sitters g_k_onBits g_k_turn g_k_taken g_k_warmth g_k_kind g_k_figure g_k_airCell g_k_way g_k_seat g_k_shawls g_k_count g_k_steps g_k_numbers)) (some (.int z0)) := by
  refine ct_head (cc := cX6_coldest) (n := 4) (ret := (some .int)) (by decide) rfl (Nat.le_of_ble_eq_true rfl) ?_
  intro p e s m below meth c A ls hx hb hr hml hown hlocks hts hA hAe hP hK hD hl
  have hS : va_S A s.heap s.heap [] := va_S.rf
  have hl : lv_has ls 4 [(0, .ref (a 0)), (1, .int n0)] := hl
  have hown : s.vm.findClass RX6 = some m.cls := hown
  have hts : ∀ w ∈ wsL_law, w.before [.ref (a 0), .int n0].toArray s = true := fun w h => hts w (List.mem_cons_of_mem _ h)
  unfold f_X6_coldest at hf
  refine lv_iload_n hx hb dX6_coldest_0 rfl (lv_at hl 1 rfl) ?_
  refine lv_iconst (v := -1) hx hb dX6_coldest_1 (by decide) ?_
  refine lv_icmp_ne (tgt := 10) hx hb dX6_coldest_2 (by decide) (fun c1 => ?_) (fun c1 => ?_)
  · have hf := dq_f hf c1
    clear c1
    refine lv_iload_n hx hb dX6_coldest_10 rfl (lv_at hl 1 rfl) ?_
    obtain ⟨x2, hy3, hf⟩ := dq_b hf
    refine ct_callS0 (own := RX6) (As := [.int n0]) (rest := []) ⟨hx, hb, hml, hown, hts⟩ (m_X6_isCell l D y n0 x2 hy3) (va_cwS 1 hts (gA_S wl_578 wl_579 wl_2 wl_580) rfl rfl rfl (by decide +kernel) ⟨Nat.le_of_ble_eq_true rfl, Nat.le_of_ble_eq_true rfl⟩) rfl hl.1 rfl (Nat.le_of_ble_eq_true rfl) dX6_coldest_11 ⟨Nat.zero_le _, Nat.zero_le _⟩ hK hP hD hS hA (fun H locs hP hD hS => ?_)
    refine lv_if_ne (tgt := 23) hx hb dX6_coldest_14 (by decide) (fun c4 => ?_) (fun c4 => ?_)
    · have hf := dq_f hf c4
      clear c4
      refine lv_iconst (v := 0) hx hb dX6_coldest_23 (by decide) ?_
      refine lv_istore_n (lv' := [(2, .int (0 : Int32)), (0, .ref (a 0)), (1, .int n0)]) hx hb dX6_coldest_24 rfl hl (by decide) rfl (fun ls hl => ?_)
      refine lv_iconst (v := 0) hx hb dX6_coldest_25 (by decide) ?_
      refine lv_istore_n (lv' := [(3, .int (0 : Int32)), (2, .int (0 : Int32)), (0, .ref (a 0)), (1, .int n0)]) hx hb dX6_coldest_26 rfl hl (by decide) rfl (fun ls hl => ?_)
      have J27 : ∀ (m27 : Nat) (x5 : Int32) (x6 : Int32), f_X6_coldest_b27 n0 g_n_warmth g_refused m27 x5 x6 = some (z0, z1) → ∀ (H : Heap) (locs : List Loc), va_P D vwCl ((w_X6 y a g_hasImage g_toldCount g_n_shutBits g_n_airs g_n_crownedBits g_n_sitters g_n_onBits g_n_turn g_n_taken g_n_warmth g_n_kind g_n_figure g_n_airCell g_n_way g_n_seat g_n_shawls g_n_count g_n_steps g_n_numbers g_m_shutBits g_m_airs g_m_crownedBits g_m_sitters g_m_onBits g_m_turn g_m_taken g_m_warmth g_m_kind g_m_figure g_m_airCell g_m_way g_m_seat g_m_shawls g_m_count g_m_steps g_m_numbers g_i_shutBits g_i_airs g_i_crownedBits g_i_sitters g_i_onBits g_i_turn g_i_taken g_i_warmth g_i_kind g_i_figure g_i_airCell g_i_way g_i_seat g_i_shawls g_i_count g_i_steps g_i_numbers g_past_next g_past_count g_text_length g_text_letters g_coats_sorts g_coats_sizes g_places g_coats_carried g_told g_refused g_oneHas g_otherHas) ++ (w_blob y (fun k => a (34 + (1 + k))) g_k_shutBits g_k_airs g_k_crownedBits g_k_sitters g_k_onBits g_k_turn g_k_taken g_k_warmth g_k_kind g_k_figure g_k_airCell g_k_way g_k_seat g_k_shawls g_k_count g_k_steps g_k_numbers)) H → va_D A ((w_X6 y a g_hasImage g_toldCount g_n_shutBits g_n_airs g_n_crownedBits g_n_sitters g_n_onBits g_n_turn g_n_taken g_n_warmth g_n_kind g_n_figure g_n_airCell g_n_way g_n_seat g_n_shawls g_n_count g_n_steps g_n_numbers g_m_shutBits g_m_airs g_m_crownedBits g_m_sitters g_m_onBits g_m_turn g_m_taken g_m_warmth g_m_kind g_m_figure g_m_airCell g_m_way g_m_seat g_m_shawls g_m_count g_m_steps g_m_numbers g_i_shutBits g_i_airs g_i_crownedBits g_i_sitters g_i_onBits g_i_turn g_i_taken g_i_warmth g_i_kind g_i_figure g_i_airCell g_i_way g_i_seat g_i_shawls g_i_count g_i_steps g_i_numbers g_past_next g_past_count g_text_length g_text_letters g_coats_sorts g_coats_sizes g_places g_coats_carried g_told g_refused g_oneHas g_otherHas) ++ (w_blob y (fun k => a (34 + (1 + k))) g_k_shutBits g_k_airs g_k_crownedBits g_k_sitters g_k_onBits g_k_turn g_k_taken g_k_warmth g_k_kind g_k_figure g_k_airCell g_k_way g_k_seat g_k_shawls g_k_count g_k_steps g_k_numbers)) → va_S A s.heap H locs → ∀ ls : Array Slot, lv_has ls 4 [(0, .ref (a 0)), (1, .int n0), (2, .int x5), (3, .int x6)] → W p l e ({ frames := 1, cells := 0, slots := 0, locals := 22 } : Room) s m [.ref (a 0), .int n0].toArray below meth c H locs 0 0 (MQ below (dQ D y (some (.int z0)) s.heap.size ((w_X6 y a g_hasImage g_toldCount g_n_shutBits g_n_airs g_n_crownedBits g_n_sitters g_n_onBits g_n_turn g_n_taken g_n_warmth g_n_kind g_n_figure g_n_airCell g_n_way g_n_seat g_n_shawls g_n_count g_n_steps g_n_numbers g_m_shutBits g_m_airs g_m_crownedBits g_m_sitters g_m_onBits g_m_turn g_m_taken g_m_warmth g_m_kind g_m_figure g_m_airCell g_m_way g_m_seat g_m_shawls g_m_count g_m_steps g_m_numbers g_i_shutBits g_i_airs g_i_crownedBits g_i_sitters g_i_onBits g_i_turn g_i_taken g_i_warmth g_i_kind g_i_figure g_i_airCell g_i_way g_i_seat g_i_shawls g_i_count g_i_steps g_i_numbers g_past_next g_past_count g_text_length g_text_letters g_coats_sorts g_coats_sizes g_places g_coats_carried g_told g_refused g_oneHas g_otherHas) ++ (w_blob y (fun k => a (34 + (1 + k))) g_k_shutBits g_k_airs g_k_crownedBits g_k_sitters g_k_onBits g_k_turn g_k_taken g_k_warmth g_k_kind g_k_figure g_k_airCell g_k_way g_k_seat g_k_shawls g_k_count g_k_steps g_k_numbers)) ((w_X6 y a g_hasImage g_toldCount g_n_shutBits g_n_airs g_n_crownedBits g_n_sitters g_n_onBits g_n_turn g_n_taken g_n_warmth g_n_kind g_n_figure g_n_airCell g_n_way g_n_seat g_n_shawls g_n_count g_n_steps g_n_numbers g_m_shutBits g_m_airs g_m_crownedBits g_m_sitters g_m_onBits g_m_turn g_m_taken g_m_warmth g_m_kind g_m_figure g_m_airCell g_m_way g_m_seat g_m_shawls g_m_count g_m_steps g_m_numbers g_i_shutBits g_i_airs g_i_crownedBits g_i_sitters g_i_onBits g_i_turn g_i_taken g_i_warmth g_i_kind g_i_figure g_i_airCell g_i_way g_i_seat g_i_shawls g_i_count g_i_steps g_i_numbers g_past_next g_past_count g_text_length g_text_letters g_coats_sorts g_coats_sizes g_places g_coats_carried g_told z1 g_oneHas g_otherHas) ++ (w_blob y (fun k => a (34 + (1 + k))) g_k_shutBits g_k_airs g_k_crownedBits g_k_sitters g_k_onBits g_k_turn g_k_taken g_k_warmth g_k_kind g_k_figure g_k_airCell g_k_way g_k_seat g_k_shawls g_k_count g_k_steps g_k_numbers))) [.ref (a 0), .int n0].toArray s 0 0 A) (F0 m 27 ls []) := by
        intro m27
        induction m27 with
        | zero => intro x5 x6 hf; exact absurd hf (by unfold f_X6_coldest_b27; exact fun h => by cases h)
        | succ m27 I27 =>
          intro x5 x6 hf H locs hP hD hS ls hl
          unfold f_X6_coldest_b27 at hf
          refine lv_iload_n hx hb dX6_coldest_27 rfl (lv_at hl 3 rfl) ?_
          refine lv_bipush (v := 36) hx hb dX6_coldest_28 (by decide) ?_
          refine lv_icmp_ge (tgt := 64) hx hb dX6_coldest_30 (by decide) (fun c7 => ?_) (fun c7 => ?_)
          · have hf := dq_t hf c7
            clear c7
            refine lv_iload_n hx hb dX6_coldest_64 rfl (lv_at hl 2 rfl) ?_
            obtain ⟨rfl, rfl⟩ := dq_r2 hf
            exact ct_iret hx hb hr hlocks hAe hP hK hD hS dX6_coldest_65
          · have hf := dq_f hf c7
            clear c7
            refine lv_aload_n hx hb dX6_coldest_33 rfl (lv_at hl 0 rfl) ?_
            refine va_get (D := D) (ci := 5) (v := .ref (a 1)) (C := RX6) (T := TX6) (N := 12) hx hb hts iwX6 hown hK hP 0 rfl rfl 0 (by decide) (hts _ wl_15) (fun _ h9 => h9) rfl dX6_coldest_34 ?_
            refine va_get (D := D) (ci := 1) (v := .ref (a 2)) (C := RX2) (T := TX2) (N := 15) hx hb hts iwX2 hown hK hP 1 rfl rfl 0 (by decide) (hts _ wl_577) (fun _ h9 => h9) rfl dX6_coldest_37 ?_
            refine lv_iload_n hx hb dX6_coldest_40 rfl (lv_at hl 3 rfl) ?_
            obtain ⟨h8, hf⟩ := dq_g hf
            refine va_fald (cA := y 0) (n := 36) (f := g_n_warmth) hx hb hK hP 2 0 rfl rfl h8 dX6_coldest_41 ?_
            refine lv_aload_n hx hb dX6_coldest_42 rfl (lv_at hl 0 rfl) ?_
            refine va_get (D := D) (ci := 5) (v := .ref (a 1)) (C := RX6) (T := TX6) (N := 12) hx hb hts iwX6 hown hK hP 0 rfl rfl 0 (by decide) (hts _ wl_15) (fun _ h9 => h9) rfl dX6_coldest_43 ?_
            refine va_get (D := D) (ci := 1) (v := .ref (a 2)) (C := RX2) (T := TX2) (N := 15) hx hb hts iwX2 hown hK hP 1 rfl rfl 0 (by decide) (hts _ wl_577) (fun _ h9 => h9) rfl dX6_coldest_46 ?_
            refine lv_iload_n hx hb dX6_coldest_49 rfl (lv_at hl 1 rfl) ?_
            obtain ⟨h9, hf⟩ := dq_g hf
            refine va_fald (cA := y 0) (n := 36) (f := g_n_warmth) hx hb hK hP 2 0 rfl rfl h9 dX6_coldest_50 ?_
            refine lv_fcmp hx hb dX6_coldest_51 ?_
            refine lv_if_gt (tgt := 58) hx hb dX6_coldest_52 (by decide) (fun c10 => ?_) (fun c10 => ?_)
            · have hf := dq_t hf c10
              clear c10
              obtain ⟨x11, ex11⟩ : ∃ z : Int32, z = (x6 + (1 : Int32)) := ⟨_, rfl⟩
              have hf := dq_l hf x11 ex11
              refine lv_iinc (v := x11) (lv' := [(3, .int x11), (0, .ref (a 0)), (1, .int n0), (2, .int x5)]) hx hb dX6_coldest_58 hl (k := 3) rfl (by rw [ex11]; rfl) (by decide) rfl (fun ls hl => ?_)
              clear ex11
              refine lv_goto (tgt := 27) hx hb dX6_coldest_61 (by decide) ?_
              exact I27 _ _ hf _ _ hP hD hS _ (lv_sub hl [1, 2, 3, 0] rfl)
            · have hf := dq_f hf c10
              clear c10
              obtain ⟨x12, ex12⟩ : ∃ z : Int32, z = (x5 + (1 : Int32)) := ⟨_, rfl⟩
              have hf := dq_l hf x12 ex12
              refine lv_iinc (v := x12) (lv' := [(2, .int x12), (0, .ref (a 0)), (1, .int n0), (3, .int x6)]) hx hb dX6_coldest_55 hl (k := 2) rfl (by rw [ex12]; rfl) (by decide) rfl (fun ls hl => ?_)
              clear ex12
              obtain ⟨x13, ex13⟩ : ∃ z : Int32, z = (x6 + (1 : Int32)) := ⟨_, rfl⟩
              have hf := dq_l hf x13 ex13
              refine lv_iinc (v := x13) (lv' := [(3, .int x13), (2, .int x12), (0, .ref (a 0)), (1, .int n0)]) hx hb dX6_coldest_58 hl (k := 3) rfl (by rw [ex13]; rfl) (by decide) rfl (fun ls hl => ?_)
              clear ex13
              refine lv_goto (tgt := 27) hx hb dX6_coldest_61 (by decide) ?_
              exact I27 _ _ hf _ _ hP hD hS _ (lv_sub hl [2, 3, 1, 0] rfl)
      exact J27 4096 _ _ hf _ _ hP hD hS _ (lv_sub hl [2, 3, 1, 0] rfl)
    · have hf := dq_t hf c4
      clear c4
      refine lv_aload_n hx hb dX6_coldest_17 rfl (lv_at hl 0 rfl) ?_
      refine lv_iconst (v := -1) hx hb dX6_coldest_18 (by decide) ?_
      obtain ⟨x14, g_refused_15, hy16, hf⟩ := dq_b2 hf
      refine ct_callV0 (ci := 5) (q0 := 0) (own := RX6) (As := [.int (-1 : Int32)]) (rest := []) (ws' := ((w_X6 y a g_hasImage g_toldCount g_n_shutBits g_n_airs g_n_crownedBits g_n_sitters g_n_onBits g_n_turn g_n_taken g_n_warmth g_n_kind g_n_figure g_n_airCell g_n_way g_n_seat g_n_shawls g_n_count g_n_steps g_n_numbers g_m_shutBits g_m_airs g_m_crownedBits g_m_sitters g_m_onBits g_m_turn g_m_taken g_m_warmth g_m_kind g_m_figure g_m_airCell g_m_way g_m_seat g_m_shawls g_m_count g_m_steps g_m_numbers g_i_shutBits g_i_airs g_i_crownedBits g_i_sitters g_i_onBits g_i_turn g_i_taken g_i_warmth g_i_kind g_i_figure g_i_airCell g_i_way g_i_seat g_i_shawls g_i_count g_i_steps g_i_numbers g_past_next g_past_count g_text_length g_text_letters g_coats_sorts g_coats_sizes g_places g_coats_carried g_told g_refused_15 g_oneHas g_otherHas) ++ (w_blob y (fun k => a (34 + (1 + k))) g_k_shutBits g_k_airs g_k_crownedBits g_k_sitters g_k_onBits g_k_turn g_k_taken g_k_warmth g_k_kind g_k_figure g_k_airCell g_k_way g_k_seat g_k_shawls g_k_count g_k_steps g_k_numbers))) ⟨hx, hb, hml, hown, hts⟩ (m_X6_refuse l D y a g_hasImage g_toldCount g_n_shutBits g_n_airs g_n_crownedBits g_n_sitters g_n_onBits g_n_turn g_n_taken g_n_warmth g_n_kind g_n_figure g_n_airCell g_n_way g_n_seat g_n_shawls g_n_count g_n_steps g_n_numbers g_m_shutBits g_m_airs g_m_crownedBits g_m_sitters g_m_onBits g_m_turn g_m_taken g_m_warmth g_m_kind g_m_figure g_m_airCell g_m_way g_m_seat g_m_shawls g_m_count g_m_steps g_m_numbers g_i_shutBits g_i_airs g_i_crownedBits g_i_sitters g_i_onBits g_i_turn g_i_taken g_i_warmth g_i_kind g_i_figure g_i_airCell g_i_way g_i_seat g_i_shawls g_i_count g_i_steps g_i_numbers g_past_next g_past_count g_text_length g_text_letters g_coats_sorts g_coats_sizes g_places g_coats_carried g_told g_refused g_oneHas g_otherHas g_k_shutBits g_k_airs g_k_crownedBits g_k_sitters g_k_onBits g_k_turn g_k_taken g_k_warmth g_k_kind g_k_figure g_k_airCell g_k_way g_k_seat g_k_shawls g_k_count g_k_steps g_k_numbers (-1 : Int32) x14 g_refused_15 hy16) (cwV 1 hts (gA_V wl_124 wl_125 wl_126 wl_2 wl_127) rfl rfl rfl (by decide +kernel) ⟨Nat.le_of_ble_eq_true rfl, Nat.le_of_ble_eq_true rfl⟩) rfl rfl rfl hl.1 rfl (Nat.le_of_ble_eq_true rfl) dX6_coldest_19 ⟨Nat.zero_le _, Nat.zero_le _⟩ hK hP hD hS hA (fun H locs hP hD hS => ?_)
      obtain ⟨rfl, rfl⟩ := dq_r2 hf
      exact ct_iret hx hb hr hlocks hAe hP hK hD hS dX6_coldest_22
  · have hf := dq_t hf c1
    clear c1
    refine lv_aload_n hx hb dX6_coldest_5 rfl (lv_at hl 0 rfl) ?_
    obtain ⟨x17, hy18, hf⟩ := dq_b hf
    refine ct_callV0 (ci := 5) (q0 := 0) (own := RX6) (As := []) (rest := []) (ws' := ((w_X6 y a g_hasImage g_toldCount g_n_shutBits g_n_airs g_n_crownedBits g_n_sitters g_n_onBits g_n_turn g_n_taken g_n_warmth g_n_kind g_n_figure g_n_airCell g_n_way g_n_seat g_n_shawls g_n_count g_n_steps g_n_numbers g_m_shutBits g_m_airs g_m_crownedBits g_m_sitters g_m_onBits g_m_turn g_m_taken g_m_warmth g_m_kind g_m_figure g_m_airCell g_m_way g_m_seat g_m_shawls g_m_count g_m_steps g_m_numbers g_i_shutBits g_i_airs g_i_crownedBits g_i_sitters g_i_onBits g_i_turn g_i_taken g_i_warmth g_i_kind g_i_figure g_i_airCell g_i_way g_i_seat g_i_shawls g_i_count g_i_steps g_i_numbers g_past_next g_past_count g_text_length g_text_letters g_coats_sorts g_coats_sizes g_places g_coats_carried g_told g_refused g_oneHas g_otherHas) ++ (w_blob y (fun k => a (34 + (1 + k))) g_k_shutBits g_k_airs g_k_crownedBits g_k_sitters g_k_onBits g_k_turn g_k_taken g_k_warmth g_k_kind g_k_figure g_k_airCell g_k_way g_k_seat g_k_shawls g_k_count g_k_steps g_k_numbers))) ⟨hx, hb, hml, hown, hts⟩ (m_X6_coldestCell l D y a g_hasImage g_toldCount g_n_shutBits g_n_airs g_n_crownedBits g_n_sitters g_n_onBits g_n_turn g_n_taken g_n_warmth g_n_kind g_n_figure g_n_airCell g_n_way g_n_seat g_n_shawls g_n_count g_n_steps g_n_numbers g_m_shutBits g_m_airs g_m_crownedBits g_m_sitters g_m_onBits g_m_turn g_m_taken g_m_warmth g_m_kind g_m_figure g_m_airCell g_m_way g_m_seat g_m_shawls g_m_count g_m_steps g_m_numbers g_i_shutBits g_i_airs g_i_crownedBits g_i_sitters g_i_onBits g_i_turn g_i_taken g_i_warmth g_i_kind g_i_figure g_i_airCell g_i_way g_i_seat g_i_shawls g_i_count g_i_steps g_i_numbers g_past_next g_past_count g_text_length g_text_letters g_coats_sorts g_coats_sizes g_places g_coats_carried g_told g_refused g_oneHas g_otherHas g_k_shutBits g_k_airs g_k_crownedBits g_k_sitters g_k_onBits g_k_turn g_k_taken g_k_warmth g_k_kind g_k_figure g_k_airCell g_k_way g_k_seat g_k_shawls g_k_count g_k_steps g_k_numbers x17 hy18) (cwV 0 hts (gA_V wl_928 wl_929 wl_930 wl_2 wl_931) rfl rfl rfl (by decide +kernel) ⟨Nat.le_of_ble_eq_true rfl, Nat.le_of_ble_eq_true rfl⟩) rfl rfl rfl hl.1 rfl (Nat.le_of_ble_eq_true rfl) dX6_coldest_6 ⟨Nat.zero_le _, Nat.zero_le _⟩ hK hP hD hS hA (fun H locs hP hD hS => ?_)
    obtain ⟨rfl, rfl⟩ := dq_r2 hf
    exact ct_iret hx hb hr hlocks hAe hP hK hD hS dX6_coldest_9
noncomputable def f_X6_sum_b20 (n0 : Int32) (g_n_warmth : (Nat → UInt32)) (g_refused : (Nat → Int32))  : Nat → UInt32 → Int32 → Option (Int32 × (Nat → Int32))
  | 0, _, _ => none
  | m20 + 1, x6, x7 => dq_if ((36 : Int32) ≤ x7) (dq_if (n0 = 0) (dq_bd (f_X6_bitsOf x6) (fun (x14 : Int32) => some (x14, g_refused))) (dq_gd (vf_n32 (FP.fdiv x6 (1108344832 : UInt32))) (dq_let (FP.fdiv x6 (1108344832 : UInt32)) (fun (x11 : UInt32) => dq_gd (vf_n32 (FP.fmul x11 (1120403456 : UInt32))) (dq_let (FP.fmul x11 (1120403456 : UInt32)) (fun (x13 : UInt32) => some ((FP.f2i x13), g_refused))))))) (dq_gd (vp_in x7 36) (dq_gd (vf_n32 (FP.fadd x6 (g_n_warmth x7.toNatClampNeg))) (dq_let (FP.fadd x6 (g_n_warmth x7.toNatClampNeg)) (fun (x18 : UInt32) => dq_let (x7 + (1 : Int32)) (fun (x19 : Int32) => (f_X6_sum_b20 n0 g_n_warmth g_refused m20) x18 x19)))))
noncomputable def f_X6_sum (g_n_warmth : (Nat → UInt32)) (g_refused : (Nat → Int32)) (n0 : Int32) : Option (Int32 × (Nat → Int32)) := dq_if (n0 < 0) (dq_bd2 (f_X6_refuse g_refused (-2 : Int32)) (fun (x2 : Int32) (g_refused_3 : (Nat → Int32)) => some (x2, g_refused_3))) (dq_if (n0 ≤ (1 : Int32)) (f_X6_sum_b20 n0 g_n_warmth g_refused 4096 FP.fconst0 (0 : Int32)) (dq_bd2 (f_X6_refuse g_refused (-2 : Int32)) (fun (x20 : Int32) (g_refused_21 : (Nat → Int32)) => some (x20, g_refused_21))))
def wA_X6_sum : List Cond := .code yX6_sum cX6_sum 4 (some .int) :: wsL_law
-- DraughtsTake.sum(I)I
set_option maxHeartbeats 4000000 in
set_option maxRecDepth 100000 in
theorem m_X6_sum (l : Launch) (D : va_G) (y : Nat → ClassId) (a : (Nat → Nat)) (g_hasImage : Int32) (g_toldCount : Int32) (g_n_shutBits : Int64) (g_n_airs : Int32) (g_n_crownedBits : Int32) (g_n_sitters : Int32) (g_n_onBits : Int32) (g_n_turn : Int32) (g_n_taken : Int32) (g_n_warmth : (Nat → UInt32)) (g_n_kind : (Nat → Int32)) (g_n_figure : (Nat → Int32)) (g_n_airCell : (Nat → Int32)) (g_n_way : (Nat → Int32)) (g_n_seat : (Nat → Int32)) (g_n_shawls : (Nat → Int32)) (g_n_count : Int32) (g_n_steps : (Nat → Int32)) (g_n_numbers : (Nat → Int32)) (g_m_shutBits : Int64) (g_m_airs : Int32) (g_m_crownedBits : Int32) (g_m_sitters : Int32) (g_m_onBits : Int32) (g_m_turn : Int32) (g_m_taken : Int32) (g_m_warmth : (Nat → UInt32)) (g_m_kind : (Nat → Int32)) (g_m_figure : (Nat → Int32)) (g_m_airCell : (Nat → Int32)) (g_m_way : (Nat → Int32)) (g_m_seat : (Nat → Int32)) (g_m_shawls : (Nat → Int32)) (g_m_count : Int32) (g_m_steps : (Nat → Int32)) (g_m_numbers : (Nat → Int32)) (g_i_shutBits : Int64) (g_i_airs : Int32) (g_i_crownedBits : Int32) (g_i_sitters : Int32) (g_i_onBits : Int32) (g_i_turn : Int32) (g_i_taken : Int32) (g_i_warmth : (Nat → UInt32)) (g_i_kind : (Nat → Int32)) (g_i_figure : (Nat → Int32)) (g_i_airCell : (Nat → Int32)) (g_i_way : (Nat → Int32)) (g_i_seat : (Nat → Int32)) (g_i_shawls : (Nat → Int32)) (g_i_count : Int32) (g_i_steps : (Nat → Int32)) (g_i_numbers : (Nat → Int32)) (g_past_next : Int32) (g_past_count : Int32) (g_text_length : Int32) (g_text_letters : (Nat → Int32)) (g_coats_sorts : (Nat → Int32)) (g_coats_sizes : (Nat → Int32)) (g_places : (Nat → Nat → Int32)) (g_coats_carried : (Nat → Int32)) (g_told : (Nat → Int32)) (g_refused : (Nat → Int32)) (g_oneHas : (Nat → Int32)) (g_otherHas : (Nat → Int32)) (g_k_shutBits : (Nat → Int64)) (g_k_airs : (Nat → Int32)) (g_k_crownedBits : (Nat → Int32)) (g_k_sitters : (Nat → Int32)) (g_k_onBits : (Nat → Int32)) (g_k_turn : (Nat → Int32)) (g_k_taken : (Nat → Int32)) (g_k_warmth : (Nat → Nat → UInt32)) (g_k_kind : (Nat → Nat → Int32)) (g_k_figure : (Nat → Nat → Int32)) (g_k_airCell : (Nat → Nat → Int32)) (g_k_way : (Nat → Nat → Int32)) (g_k_seat : (Nat → Nat → Int32)) (g_k_shawls : (Nat → Nat → Int32)) (g_k_count : (Nat → Int32)) (g_k_steps : (Nat → Nat → Int32)) (g_k_numbers : (Nat → Nat → Int32)) (n0 : Int32) (z0 : Int32) (z1 : (Nat → Int32)) (hf : f_X6_sum g_n_warmth g_refused n0 = some (z0, z1)) : Ct l D y yX6_sum wA_X6_sum 1 24 [.ref (a 0), .int n0] ((w_X6 y a g_hasImage g_toldCount g_n_shutBits g_n_airs g_n_crownedBits g_n_sitters g_n_onBits g_n_turn g_n_taken g_n_warmth g_n_kind g_n_figure g_n_airCell g_n_way g_n_seat g_n_shawls g_n_count g_n_steps g_n_numbers g_m_shutBits g_m_airs g_m_crownedBits g_m_sitters g_m_onBits g_m_turn g_m_taken g_m_warmth g_m_kind g_m_figure g_m_airCell g_m_way g_m_seat g_m_shawls g_m_count g_m_steps g_m_numbers g_i_shutBits g_i_airs g_i_crownedBits g_i_sitters g_i_onBits g_i_turn g_i_taken g_i_warmth g_i_kind g_i_figure g_i_airCell g_i_way g_i_seat g_i_shawls g_i_count g_i_steps g_i_numbers g_past_next g_past_count g_text_length g_text_letters g_coats_sorts g_coats_sizes g_places g_coats_carried g_told g_refused g_oneHas g_otherHas) ++ (w_blob y (fun k => a (34 + (1 + k))) g_k_shutBits g_k_airs g_k_crownedBits g_k_sitters g_k_onBits g_k_turn g_k_taken g_k_warmth g_k_kind g_k_figure g_k_airCell g_k_way g_k_seat g_k_shawls g_k_count g_k_steps g_k_numbers)) ((w_X6 y a g_hasImage g_toldCount g_n_shutBits g_n_airs g_n_crownedBits g_n_sitters g_n_onBits g_n_turn g_n_taken g_n_warmth g_n_kind g_n_figure g_n_airCell g_n_way g_n_seat g_n_shawls g_n_count g_n_steps g_n_numbers g_m_shutBits g_m_airs g_m_crownedBits g_m_sitters g_m_onBits g_m_turn g_m_taken g_m_warmth g_m_kind g_m_figure g_m_airCell g_m_way g_m_seat g_m_shawls g_m_count g_m_steps g_m_numbers g_i_shutBits g_i_airs g_i_crownedBits g_i_sitters g_i_onBits g_i_turn g_i_taken g_i_warmth g_i_kind g_i_figure g_i_airCell g_i_way g_i_seat g_i_shawls g_i_count g_i_steps g_i_numbers g_past_next g_past_count g_text_length g_text_letters g_coats_sorts g_coats_sizes g_places g_coats_carried g_told z1 g_oneHas g_otherHas) ++ (w_blob y (fun k => a (34 + (1 + k))) g_k_shutBits g_k_airs g_k_crownedBits g_k_sitters g_k_onBits g_k_turn g_k_taken g_k_warmth g_k_kind g_k_figure g_k_airCell g_k_way g_k_seat g_k_shawls g_k_count g_k_steps g_k_numbers)) (some (.int z0)) := by
  refine ct_head (cc := cX6_sum) (n := 4) (ret := (some .int)) (by decide) rfl (Nat.le_of_ble_eq_true rfl) ?_
  intro p e s m below meth c A ls hx hb hr hml hown hlocks hts hA hAe hP hK hD hl
  have hS : va_S A s.heap s.heap [] := va_S.rf
  have hl : lv_has ls 4 [(0, .ref (a 0)), (1, .int n0)] := hl
  have hown : s.vm.findClass RX6 = some m.cls := hown
  have hts : ∀ w ∈ wsL_law, w.before [.ref (a 0), .int n0].toArray s = true := fun w h => hts w (List.mem_cons_of_mem _ h)
  unfold f_X6_sum at hf
  refine lv_iload_n hx hb dX6_sum_0 rfl (lv_at hl 1 rfl) ?_
  refine lv_if_lt (tgt := 9) hx hb dX6_sum_1 (by decide) (fun c1 => ?_) (fun c1 => ?_)
  · have hf := dq_t hf c1
    clear c1
    refine lv_aload_n hx hb dX6_sum_9 rfl (lv_at hl 0 rfl) ?_
    refine lv_bipush (v := -2) hx hb dX6_sum_10 (by decide) ?_
    obtain ⟨x2, g_refused_3, hy4, hf⟩ := dq_b2 hf
    refine ct_callV0 (ci := 5) (q0 := 0) (own := RX6) (As := [.int (-2 : Int32)]) (rest := []) (ws' := ((w_X6 y a g_hasImage g_toldCount g_n_shutBits g_n_airs g_n_crownedBits g_n_sitters g_n_onBits g_n_turn g_n_taken g_n_warmth g_n_kind g_n_figure g_n_airCell g_n_way g_n_seat g_n_shawls g_n_count g_n_steps g_n_numbers g_m_shutBits g_m_airs g_m_crownedBits g_m_sitters g_m_onBits g_m_turn g_m_taken g_m_warmth g_m_kind g_m_figure g_m_airCell g_m_way g_m_seat g_m_shawls g_m_count g_m_steps g_m_numbers g_i_shutBits g_i_airs g_i_crownedBits g_i_sitters g_i_onBits g_i_turn g_i_taken g_i_warmth g_i_kind g_i_figure g_i_airCell g_i_way g_i_seat g_i_shawls g_i_count g_i_steps g_i_numbers g_past_next g_past_count g_text_length g_text_letters g_coats_sorts g_coats_sizes g_places g_coats_carried g_told g_refused_3 g_oneHas g_otherHas) ++ (w_blob y (fun k => a (34 + (1 + k))) g_k_shutBits g_k_airs g_k_crownedBits g_k_sitters g_k_onBits g_k_turn g_k_taken g_k_warmth g_k_kind g_k_figure g_k_airCell g_k_way g_k_seat g_k_shawls g_k_count g_k_steps g_k_numbers))) ⟨hx, hb, hml, hown, hts⟩ (m_X6_refuse l D y a g_hasImage g_toldCount g_n_shutBits g_n_airs g_n_crownedBits g_n_sitters g_n_onBits g_n_turn g_n_taken g_n_warmth g_n_kind g_n_figure g_n_airCell g_n_way g_n_seat g_n_shawls g_n_count g_n_steps g_n_numbers g_m_shutBits g_m_airs g_m_crownedBits g_m_sitters g_m_onBits g_m_turn g_m_taken g_m_warmth g_m_kind g_m_figure g_m_airCell g_m_way g_m_seat g_m_shawls g_m_count g_m_steps g_m_numbers g_i_shutBits g_i_airs g_i_crownedBits g_i_sitters g_i_onBits g_i_turn g_i_taken g_i_warmth g_i_kind g_i_figure g_i_airCell g_i_way g_i_seat g_i_shawls g_i_count g_i_steps g_i_numbers g_past_next g_past_count g_text_length g_text_letters g_coats_sorts g_coats_sizes g_places g_coats_carried g_told g_refused g_oneHas g_otherHas g_k_shutBits g_k_airs g_k_crownedBits g_k_sitters g_k_onBits g_k_turn g_k_taken g_k_warmth g_k_kind g_k_figure g_k_airCell g_k_way g_k_seat g_k_shawls g_k_count g_k_steps g_k_numbers (-2 : Int32) x2 g_refused_3 hy4) (cwV 1 hts (gA_V wl_124 wl_125 wl_126 wl_2 wl_127) rfl rfl rfl (by decide +kernel) ⟨Nat.le_of_ble_eq_true rfl, Nat.le_of_ble_eq_true rfl⟩) rfl rfl rfl hl.1 rfl (Nat.le_of_ble_eq_true rfl) dX6_sum_12 ⟨Nat.zero_le _, Nat.zero_le _⟩ hK hP hD hS hA (fun H locs hP hD hS => ?_)
    obtain ⟨rfl, rfl⟩ := dq_r2 hf
    exact ct_iret hx hb hr hlocks hAe hP hK hD hS dX6_sum_15
  · have hf := dq_f hf c1
    clear c1
    refine lv_iload_n hx hb dX6_sum_4 rfl (lv_at hl 1 rfl) ?_
    refine lv_iconst (v := 1) hx hb dX6_sum_5 (by decide) ?_
    refine lv_icmp_le (tgt := 16) hx hb dX6_sum_6 (by decide) (fun c5 => ?_) (fun c5 => ?_)
    · have hf := dq_t hf c5
      clear c5
      refine lv_fconst0 hx hb dX6_sum_16 ?_
      refine lv_fstore_n (lv' := [(2, .float FP.fconst0), (0, .ref (a 0)), (1, .int n0)]) hx hb dX6_sum_17 rfl hl (by decide) rfl (fun ls hl => ?_)
      refine lv_iconst (v := 0) hx hb dX6_sum_18 (by decide) ?_
      refine lv_istore_n (lv' := [(3, .int (0 : Int32)), (2, .float FP.fconst0), (0, .ref (a 0)), (1, .int n0)]) hx hb dX6_sum_19 rfl hl (by decide) rfl (fun ls hl => ?_)
      have J20 : ∀ (m20 : Nat) (x6 : UInt32) (x7 : Int32), f_X6_sum_b20 n0 g_n_warmth g_refused m20 x6 x7 = some (z0, z1) → ∀ (H : Heap) (locs : List Loc), va_P D vwCl ((w_X6 y a g_hasImage g_toldCount g_n_shutBits g_n_airs g_n_crownedBits g_n_sitters g_n_onBits g_n_turn g_n_taken g_n_warmth g_n_kind g_n_figure g_n_airCell g_n_way g_n_seat g_n_shawls g_n_count g_n_steps g_n_numbers g_m_shutBits g_m_airs g_m_crownedBits g_m_sitters g_m_onBits g_m_turn g_m_taken g_m_warmth g_m_kind g_m_figure g_m_airCell g_m_way g_m_seat g_m_shawls g_m_count g_m_steps g_m_numbers g_i_shutBits g_i_airs g_i_crownedBits g_i_sitters g_i_onBits g_i_turn g_i_taken g_i_warmth g_i_kind g_i_figure g_i_airCell g_i_way g_i_seat g_i_shawls g_i_count g_i_steps g_i_numbers g_past_next g_past_count g_text_length g_text_letters g_coats_sorts g_coats_sizes g_places g_coats_carried g_told g_refused g_oneHas g_otherHas) ++ (w_blob y (fun k => a (34 + (1 + k))) g_k_shutBits g_k_airs g_k_crownedBits g_k_sitters g_k_onBits g_k_turn g_k_taken g_k_warmth g_k_kind g_k_figure g_k_airCell g_k_way g_k_seat g_k_shawls g_k_count g_k_steps g_k_numbers)) H → va_D A ((w_X6 y a g_hasImage g_toldCount g_n_shutBits g_n_airs g_n_crownedBits g_n_sitters g_n_onBits g_n_turn g_n_taken g_n_warmth g_n_kind g_n_figure g_n_airCell g_n_way g_n_seat g_n_shawls g_n_count g_n_steps g_n_numbers g_m_shutBits g_m_airs g_m_crownedBits g_m_sitters g_m_onBits g_m_turn g_m_taken g_m_warmth g_m_kind g_m_figure g_m_airCell g_m_way g_m_seat g_m_shawls g_m_count g_m_steps g_m_numbers g_i_shutBits g_i_airs g_i_crownedBits g_i_sitters g_i_onBits g_i_turn g_i_taken g_i_warmth g_i_kind g_i_figure g_i_airCell g_i_way g_i_seat g_i_shawls g_i_count g_i_steps g_i_numbers g_past_next g_past_count g_text_length g_text_letters g_coats_sorts g_coats_sizes g_places g_coats_carried g_told g_refused g_oneHas g_otherHas) ++ (w_blob y (fun k => a (34 + (1 + k))) g_k_shutBits g_k_airs g_k_crownedBits g_k_sitters g_k_onBits g_k_turn g_k_taken g_k_warmth g_k_kind g_k_figure g_k_airCell g_k_way g_k_seat g_k_shawls g_k_count g_k_steps g_k_numbers)) → va_S A s.heap H locs → ∀ ls : Array Slot, lv_has ls 4 [(0, .ref (a 0)), (1, .int n0), (2, .float x6), (3, .int x7)] → W p l e ({ frames := 1, cells := 0, slots := 0, locals := 24 } : Room) s m [.ref (a 0), .int n0].toArray below meth c H locs 0 0 (MQ below (dQ D y (some (.int z0)) s.heap.size ((w_X6 y a g_hasImage g_toldCount g_n_shutBits g_n_airs g_n_crownedBits g_n_sitters g_n_onBits g_n_turn g_n_taken g_n_warmth g_n_kind g_n_figure g_n_airCell g_n_way g_n_seat g_n_shawls g_n_count g_n_steps g_n_numbers g_m_shutBits g_m_airs g_m_crownedBits g_m_sitters g_m_onBits g_m_turn g_m_taken g_m_warmth g_m_kind g_m_figure g_m_airCell g_m_way g_m_seat g_m_shawls g_m_count g_m_steps g_m_numbers g_i_shutBits g_i_airs g_i_crownedBits g_i_sitters g_i_onBits g_i_turn g_i_taken g_i_warmth g_i_kind g_i_figure g_i_airCell g_i_way g_i_seat g_i_shawls g_i_count g_i_steps g_i_numbers g_past_next g_past_count g_text_length g_text_letters g_coats_sorts g_coats_sizes g_places g_coats_carried g_told g_refused g_oneHas g_otherHas) ++ (w_blob y (fun k => a (34 + (1 + k))) g_k_shutBits g_k_airs g_k_crownedBits g_k_sitters g_k_onBits g_k_turn g_k_taken g_k_warmth g_k_kind g_k_figure g_k_airCell g_k_way g_k_seat g_k_shawls g_k_count g_k_steps g_k_numbers)) ((w_X6 y a g_hasImage g_toldCount g_n_shutBits g_n_airs g_n_crownedBits g_n_sitters g_n_onBits g_n_turn g_n_taken g_n_warmth g_n_kind g_n_figure g_n_airCell g_n_way g_n_seat g_n_shawls g_n_count g_n_steps g_n_numbers g_m_shutBits g_m_airs g_m_crownedBits g_m_sitters g_m_onBits g_m_turn g_m_taken g_m_warmth g_m_kind g_m_figure g_m_airCell g_m_way g_m_seat g_m_shawls g_m_count g_m_steps g_m_numbers g_i_shutBits g_i_airs g_i_crownedBits g_i_sitters g_i_onBits g_i_turn g_i_taken g_i_warmth g_i_kind g_i_figure g_i_airCell g_i_way g_i_seat g_i_shawls g_i_count g_i_steps g_i_numbers g_past_next g_past_count g_text_length g_text_letters g_coats_sorts g_coats_sizes g_places g_coats_carried g_told z1 g_oneHas g_otherHas) ++ (w_blob y (fun k => a (34 + (1 + k))) g_k_shutBits g_k_airs g_k_crownedBits g_k_sitters g_k_onBits g_k_turn g_k_taken g_k_warmth g_k_kind g_k_figure g_k_airCell g_k_way g_k_seat g_k_shawls g_k_count g_k_steps g_k_numbers))) [.ref (a 0), .int n0].toArray s 0 0 A) (F0 m 20 ls []) := by
        intro m20
        induction m20 with
        | zero => intro x6 x7 hf; exact absurd hf (by unfold f_X6_sum_b20; exact fun h => by cases h)
        | succ m20 I20 =>
          intro x6 x7 hf H locs hP hD hS ls hl
          unfold f_X6_sum_b20 at hf
          refine lv_iload_n hx hb dX6_sum_20 rfl (lv_at hl 3 rfl) ?_
          refine lv_bipush (v := 36) hx hb dX6_sum_21 (by decide) ?_
          refine lv_icmp_ge (tgt := 44) hx hb dX6_sum_23 (by decide) (fun c8 => ?_) (fun c8 => ?_)
          · have hf := dq_t hf c8
            clear c8
            refine lv_iload_n hx hb dX6_sum_44 rfl (lv_at hl 1 rfl) ?_
            refine lv_if_ne (tgt := 55) hx hb dX6_sum_45 (by decide) (fun c9 => ?_) (fun c9 => ?_)
            · have hf := dq_f hf c9
              clear c9
              refine lv_fload_n hx hb dX6_sum_55 rfl (lv_at hl 2 rfl) ?_
              refine lv_ldcf hx hb hown (hts _ wl_940) dX6_sum_56 ?_
              obtain ⟨h10, hf⟩ := dq_g hf
              refine lv_fdiv hx hb dX6_sum_58 h10 ?_
              refine lv_topf (fun x11 ex11 => ?_)
              have hf := dq_l hf x11 ex11
              clear ex11
              refine lv_ldcwf hx hb hown (hts _ wl_941) dX6_sum_59 ?_
              obtain ⟨h12, hf⟩ := dq_g hf
              refine lv_fmul hx hb dX6_sum_62 h12 ?_
              refine lv_topf (fun x13 ex13 => ?_)
              have hf := dq_l hf x13 ex13
              clear ex13
              refine lv_f2i hx hb dX6_sum_63 ?_
              obtain ⟨rfl, rfl⟩ := dq_r2 hf
              exact ct_iret hx hb hr hlocks hAe hP hK hD hS dX6_sum_64
            · have hf := dq_t hf c9
              clear c9
              refine lv_fload_n hx hb dX6_sum_48 rfl (lv_at hl 2 rfl) ?_
              obtain ⟨x14, hy15, hf⟩ := dq_b hf
              refine ct_callS0 (own := RX6) (As := [.float x6]) (rest := []) ⟨hx, hb, hml, hown, hts⟩ (m_X6_bitsOf l D y x6 x14 hy15) (va_cwS 1 hts (gA_S wl_594 wl_595 wl_2 wl_596) rfl rfl rfl (by decide +kernel) ⟨Nat.le_of_ble_eq_true rfl, Nat.le_of_ble_eq_true rfl⟩) rfl hl.1 rfl (Nat.le_of_ble_eq_true rfl) dX6_sum_49 ⟨Nat.zero_le _, Nat.zero_le _⟩ hK hP hD hS hA (fun H locs hP hD hS => ?_)
              refine lv_goto (tgt := 64) hx hb dX6_sum_52 (by decide) ?_
              obtain ⟨rfl, rfl⟩ := dq_r2 hf
              exact ct_iret hx hb hr hlocks hAe hP hK hD hS dX6_sum_64
          · have hf := dq_f hf c8
            clear c8
            refine lv_fload_n hx hb dX6_sum_26 rfl (lv_at hl 2 rfl) ?_
            refine lv_aload_n hx hb dX6_sum_27 rfl (lv_at hl 0 rfl) ?_
            refine va_get (D := D) (ci := 5) (v := .ref (a 1)) (C := RX6) (T := TX6) (N := 12) hx hb hts iwX6 hown hK hP 0 rfl rfl 0 (by decide) (hts _ wl_15) (fun _ h9 => h9) rfl dX6_sum_28 ?_
            refine va_get (D := D) (ci := 1) (v := .ref (a 2)) (C := RX2) (T := TX2) (N := 15) hx hb hts iwX2 hown hK hP 1 rfl rfl 0 (by decide) (hts _ wl_577) (fun _ h9 => h9) rfl dX6_sum_31 ?_
            refine lv_iload_n hx hb dX6_sum_34 rfl (lv_at hl 3 rfl) ?_
            obtain ⟨h16, hf⟩ := dq_g hf
            refine va_fald (cA := y 0) (n := 36) (f := g_n_warmth) hx hb hK hP 2 0 rfl rfl h16 dX6_sum_35 ?_
            obtain ⟨h17, hf⟩ := dq_g hf
            refine lv_fadd hx hb dX6_sum_36 h17 ?_
            refine lv_topf (fun x18 ex18 => ?_)
            have hf := dq_l hf x18 ex18
            clear ex18
            refine lv_fstore_n (lv' := [(2, .float x18), (0, .ref (a 0)), (1, .int n0), (3, .int x7)]) hx hb dX6_sum_37 rfl hl (by decide) rfl (fun ls hl => ?_)
            obtain ⟨x19, ex19⟩ : ∃ z : Int32, z = (x7 + (1 : Int32)) := ⟨_, rfl⟩
            have hf := dq_l hf x19 ex19
            refine lv_iinc (v := x19) (lv' := [(3, .int x19), (2, .float x18), (0, .ref (a 0)), (1, .int n0)]) hx hb dX6_sum_38 hl (k := 3) rfl (by rw [ex19]; rfl) (by decide) rfl (fun ls hl => ?_)
            clear ex19
            refine lv_goto (tgt := 20) hx hb dX6_sum_41 (by decide) ?_
            exact I20 _ _ hf _ _ hP hD hS _ (lv_sub hl [2, 3, 1, 0] rfl)
      exact J20 4096 _ _ hf _ _ hP hD hS _ (lv_sub hl [2, 3, 1, 0] rfl)
    · have hf := dq_f hf c5
      clear c5
      refine lv_aload_n hx hb dX6_sum_9 rfl (lv_at hl 0 rfl) ?_
      refine lv_bipush (v := -2) hx hb dX6_sum_10 (by decide) ?_
      obtain ⟨x20, g_refused_21, hy22, hf⟩ := dq_b2 hf
      refine ct_callV0 (ci := 5) (q0 := 0) (own := RX6) (As := [.int (-2 : Int32)]) (rest := []) (ws' := ((w_X6 y a g_hasImage g_toldCount g_n_shutBits g_n_airs g_n_crownedBits g_n_sitters g_n_onBits g_n_turn g_n_taken g_n_warmth g_n_kind g_n_figure g_n_airCell g_n_way g_n_seat g_n_shawls g_n_count g_n_steps g_n_numbers g_m_shutBits g_m_airs g_m_crownedBits g_m_sitters g_m_onBits g_m_turn g_m_taken g_m_warmth g_m_kind g_m_figure g_m_airCell g_m_way g_m_seat g_m_shawls g_m_count g_m_steps g_m_numbers g_i_shutBits g_i_airs g_i_crownedBits g_i_sitters g_i_onBits g_i_turn g_i_taken g_i_warmth g_i_kind g_i_figure g_i_airCell g_i_way g_i_seat g_i_shawls g_i_count g_i_steps g_i_numbers g_past_next g_past_count g_text_length g_text_letters g_coats_sorts g_coats_sizes g_places g_coats_carried g_told g_refused_21 g_oneHas g_otherHas) ++ (w_blob y (fun k => a (34 + (1 + k))) g_k_shutBits g_k_airs g_k_crownedBits g_k_sitters g_k_onBits g_k_turn g_k_taken g_k_warmth g_k_kind g_k_figure g_k_airCell g_k_way g_k_seat g_k_shawls g_k_count g_k_steps g_k_numbers))) ⟨hx, hb, hml, hown, hts⟩ (m_X6_refuse l D y a g_hasImage g_toldCount g_n_shutBits g_n_airs g_n_crownedBits g_n_sitters g_n_onBits g_n_turn g_n_taken g_n_warmth g_n_kind g_n_figure g_n_airCell g_n_way g_n_seat g_n_shawls g_n_count g_n_steps g_n_numbers g_m_shutBits g_m_airs g_m_crownedBits g_m_sitters g_m_onBits g_m_turn g_m_taken g_m_warmth g_m_kind g_m_figure g_m_airCell g_m_way g_m_seat g_m_shawls g_m_count g_m_steps g_m_numbers g_i_shutBits g_i_airs g_i_crownedBits g_i_sitters g_i_onBits g_i_turn g_i_taken g_i_warmth g_i_kind g_i_figure g_i_airCell g_i_way g_i_seat g_i_shawls g_i_count g_i_steps g_i_numbers g_past_next g_past_count g_text_length g_text_letters g_coats_sorts g_coats_sizes g_places g_coats_carried g_told g_refused g_oneHas g_otherHas g_k_shutBits g_k_airs g_k_crownedBits g_k_sitters g_k_onBits g_k_turn g_k_taken g_k_warmth g_k_kind g_k_figure g_k_airCell g_k_way g_k_seat g_k_shawls g_k_count g_k_steps g_k_numbers (-2 : Int32) x20 g_refused_21 hy22) (cwV 1 hts (gA_V wl_124 wl_125 wl_126 wl_2 wl_127) rfl rfl rfl (by decide +kernel) ⟨Nat.le_of_ble_eq_true rfl, Nat.le_of_ble_eq_true rfl⟩) rfl rfl rfl hl.1 rfl (Nat.le_of_ble_eq_true rfl) dX6_sum_12 ⟨Nat.zero_le _, Nat.zero_le _⟩ hK hP hD hS hA (fun H locs hP hD hS => ?_)
      obtain ⟨rfl, rfl⟩ := dq_r2 hf
      exact ct_iret hx hb hr hlocks hAe hP hK hD hS dX6_sum_15
noncomputable def f_X6_distance (n0 : Int32) (n1 : Int32) : Option Int32 := dq_let (if 0 ≤ ((n0 / (6 : Int32)) - (n1 / (6 : Int32))) then ((n0 / (6 : Int32)) - (n1 / (6 : Int32))) else 0 - ((n0 / (6 : Int32)) - (n1 / (6 : Int32)))) (fun (x1 : Int32) => dq_let (if 0 ≤ ((n0 - n0 / (6 : Int32) * (6 : Int32)) - (n1 - n1 / (6 : Int32) * (6 : Int32))) then ((n0 - n0 / (6 : Int32) * (6 : Int32)) - (n1 - n1 / (6 : Int32) * (6 : Int32))) else 0 - ((n0 - n0 / (6 : Int32) * (6 : Int32)) - (n1 - n1 / (6 : Int32) * (6 : Int32)))) (fun (x2 : Int32) => some (x1 + x2)))
def wA_X6_distance : List Cond := .code yX6_distance cX6_distance 2 (some .int) :: wsL_law
-- DraughtsTake.distance(II)I
set_option maxHeartbeats 4000000 in
set_option maxRecDepth 100000 in
theorem m_X6_distance (l : Launch) (D : va_G) (y : Nat → ClassId) (n0 : Int32) (n1 : Int32) (z0 : Int32) (hf : f_X6_distance n0 n1 = some z0) : Ct l D y yX6_distance wA_X6_distance 1 21 [.int n0, .int n1] [] [] (some (.int z0)) := by
  refine ct_head (cc := cX6_distance) (n := 2) (ret := (some .int)) (by decide) rfl (Nat.le_of_ble_eq_true rfl) ?_
  intro p e s m below meth c A ls hx hb hr hml hown hlocks hts hA hAe hP hK hD hl
  have hS : va_S A s.heap s.heap [] := va_S.rf
  have hl : lv_has ls 2 [(0, .int n0), (1, .int n1)] := hl
  have hown : s.vm.findClass RX6 = some m.cls := hown
  have hts : ∀ w ∈ wsL_law, w.before [.int n0, .int n1].toArray s = true := fun w h => hts w (List.mem_cons_of_mem _ h)
  unfold f_X6_distance at hf
  refine lv_iload_n hx hb dX6_distance_0 rfl (lv_at hl 0 rfl) ?_
  refine lv_bipush (v := 6) hx hb dX6_distance_1 (by decide) ?_
  refine lv_idiv hx hb dX6_distance_3 (by decide) ?_
  refine lv_iload_n hx hb dX6_distance_4 rfl (lv_at hl 1 rfl) ?_
  refine lv_bipush (v := 6) hx hb dX6_distance_5 (by decide) ?_
  refine lv_idiv hx hb dX6_distance_7 (by decide) ?_
  refine lv_isub hx hb dX6_distance_8 ?_
  refine va_mabs hx hb (hml.trans hl.1.symm) hown (hts _ wl_954) (hts _ wl_955) (hts _ wl_293) (hts _ wl_956) (Nat.le_of_ble_eq_true rfl) (Nat.le_of_ble_eq_true rfl) (Nat.zero_le _) (Nat.zero_le _) dX6_distance_9 ?_
  refine lv_topi (fun x1 ex1 => ?_)
  have hf := dq_l hf x1 ex1
  clear ex1
  refine lv_iload_n hx hb dX6_distance_12 rfl (lv_at hl 0 rfl) ?_
  refine lv_bipush (v := 6) hx hb dX6_distance_13 (by decide) ?_
  refine lv_irem hx hb dX6_distance_15 (by decide) ?_
  refine lv_iload_n hx hb dX6_distance_16 rfl (lv_at hl 1 rfl) ?_
  refine lv_bipush (v := 6) hx hb dX6_distance_17 (by decide) ?_
  refine lv_irem hx hb dX6_distance_19 (by decide) ?_
  refine lv_isub hx hb dX6_distance_20 ?_
  refine va_mabs hx hb (hml.trans hl.1.symm) hown (hts _ wl_954) (hts _ wl_955) (hts _ wl_293) (hts _ wl_956) (Nat.le_of_ble_eq_true rfl) (Nat.le_of_ble_eq_true rfl) (Nat.zero_le _) (Nat.zero_le _) dX6_distance_21 ?_
  refine lv_topi (fun x2 ex2 => ?_)
  have hf := dq_l hf x2 ex2
  clear ex2
  refine lv_iadd hx hb dX6_distance_24 ?_
  obtain rfl := dq_r1 hf
  exact ct_iret hx hb hr hlocks hAe hP hK hD hS dX6_distance_25
