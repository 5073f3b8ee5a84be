def w_X6_refuse (y : Nat → ClassId) (a : Nat → Nat) (g_hasImage : Int32) (g_toldCount : Int32) (g_refused : (Nat → Int32)) : va_W := [((a 0), .inr (5, [.ref (a 1), .ref (a 12), .ref (a 23), .int g_hasImage, .ref (a 34), .ref (a 124), .ref (a 126), .ref (a 134), .int g_toldCount, .ref (a 135), .ref (a 136), .ref (a 137)])), ((a 135), .inl (y 1, 7, .inl g_refused))]
noncomputable def f_X6_refuse (g_refused : (Nat → Int32)) (n0 : Int32) : Option (Int32 × (Nat → Int32)) := dq_if ((-1 : Int32) < n0) (some (n0, g_refused)) (dq_if (n0 < (-6 : Int32)) (some (n0, g_refused)) (dq_let (-n0) (fun (x3 : Int32) => dq_gd (vp_in x3 7) (dq_gd (vp_in x3 7) (dq_let (upd g_refused x3.toNatClampNeg ((g_refused x3.toNatClampNeg) + (1 : Int32))) (fun (g_refused_6 : (Nat → Int32)) => some (n0, g_refused_6)))))))
-- DraughtsTake.refuse(I)I
set_option maxHeartbeats 4000000 in
set_option maxRecDepth 100000 in
theorem m_X6_refuse (l : Launch) (D : va_G) (y : Nat → ClassId) (a : (Nat → Nat)) (g_hasImage : Int32) (g_toldCount : Int32) (g_refused : (Nat → Int32)) (n0 : Int32) (z0 : Int32) (z1 : (Nat → Int32)) (hf : f_X6_refuse g_refused n0 = some (z0, z1)) : Ct l D y yX6_refuse wsX6_refuse 0 0 [.ref (a 0), .int n0] (w_X6_refuse y a g_hasImage g_toldCount g_refused) (w_X6_refuse y a g_hasImage g_toldCount z1) (some (.int z0)) := by
  refine ct_head (cc := cX6_refuse) (n := 2) (ret := (some .int)) (by decide) rfl (Nat.le_of_ble_eq_true rfl) ?_
  intro p e s m below meth c A ls hx hb hr hml hown hlocks hts hA hAe hP hK hD hl
  have hS : va_S A s.heap s.heap [] := va_S.rf
  have hl : lv_has ls 2 [(0, .ref (a 0)), (1, .int n0)] := hl
  have hown : s.vm.findClass RX6 = some m.cls := hown
  have hw1 := hts (.fieldLink RX6 47 "DraughtsTake" "refused" "[I") (List.mem_of_getElem? (i := 1) rfl)
  have hiX6 : ∀ w ∈ wsX60, w ∈ wsX6_refuse := fun w h => List.mem_cons_of_mem _ (List.mem_append_right _ (h))
  unfold f_X6_refuse at hf
  refine lv_iload_n hx hb dX6_refuse_0 rfl (lv_at hl 1 rfl) ?_
  refine lv_iconst (v := -1) hx hb dX6_refuse_1 (by decide) ?_
  refine lv_icmp_gt (tgt := 22) hx hb dX6_refuse_2 (by decide) (fun c1 => ?_) (fun c1 => ?_)
  · have hf := dq_t hf c1
    clear c1
    refine lv_iload_n hx hb dX6_refuse_22 rfl (lv_at hl 1 rfl) ?_
    obtain ⟨rfl, rfl⟩ := dq_r2 hf
    exact ct_iret hx hb hr hlocks hAe hP hK hD hS dX6_refuse_23
  · have hf := dq_f hf c1
    clear c1
    refine lv_iload_n hx hb dX6_refuse_5 rfl (lv_at hl 1 rfl) ?_
    refine lv_bipush (v := -6) hx hb dX6_refuse_6 (by decide) ?_
    refine lv_icmp_lt (tgt := 22) hx hb dX6_refuse_8 (by decide) (fun c2 => ?_) (fun c2 => ?_)
    · have hf := dq_t hf c2
      clear c2
      refine lv_iload_n hx hb dX6_refuse_22 rfl (lv_at hl 1 rfl) ?_
      obtain ⟨rfl, rfl⟩ := dq_r2 hf
      exact ct_iret hx hb hr hlocks hAe hP hK hD hS dX6_refuse_23
    · have hf := dq_f hf c2
      clear c2
      refine lv_aload_n hx hb dX6_refuse_11 rfl (lv_at hl 0 rfl) ?_
      refine va_get (D := D) (ci := 5) (v := .ref (a 135)) (C := RX6) (T := TX6) (N := 12) hx hb hts hiX6 hown hK hP 0 rfl rfl 9 (by decide) hw1 (fun _ h9 => h9) rfl dX6_refuse_12 ?_
      refine lv_iload_n hx hb dX6_refuse_15 rfl (lv_at hl 1 rfl) ?_
      refine lv_ineg hx hb dX6_refuse_16 ?_
      refine lv_topi (fun x3 ex3 => ?_)
      have hf := dq_l hf x3 ex3
      clear ex3
      refine lv_dup2_11 hx hb dX6_refuse_17 rfl rfl ?_
      obtain ⟨h4, hf⟩ := dq_g hf
      refine va_iald (cA := y 1) (n := 7) (f := g_refused) hx hb hK hP 1 1 rfl rfl h4 dX6_refuse_18 ?_
      refine lv_iconst (v := 1) hx hb dX6_refuse_19 (by decide) ?_
      refine lv_iadd hx hb dX6_refuse_20 ?_
      obtain ⟨h5, hf⟩ := dq_g hf
      refine dq_iast (cA := y 1) (n := 7) (f := g_refused) hx hb hK hP hD hS 1 1 rfl rfl h5 dX6_refuse_21 (fun g_refused_6 eg_refused_6 H locs hP hD hS => ?_)
      have hf := dq_l hf g_refused_6 eg_refused_6
      clear eg_refused_6
      have hP : va_P D vwCl (w_X6_refuse y a g_hasImage g_toldCount g_refused_6) H := hP
      have hD : va_D A (w_X6_refuse y a g_hasImage g_toldCount g_refused_6) := hD
      refine lv_iload_n hx hb dX6_refuse_22 rfl (lv_at hl 1 rfl) ?_
      obtain ⟨rfl, rfl⟩ := dq_r2 hf
      exact ct_iret hx hb hr hlocks hAe hP hK hD hS dX6_refuse_23
def w_X6_feed (y : Nat → ClassId) (a : Nat → Nat) (g_hasImage : Int32) (g_toldCount : Int32) (g_text_length : Int32) (g_text_letters : (Nat → Int32)) (g_refused : (Nat → Int32)) : va_W := [((a 0), .inr (5, [.ref (a 1), .ref (a 12), .ref (a 23), .int g_hasImage, .ref (a 34), .ref (a 124), .ref (a 126), .ref (a 134), .int g_toldCount, .ref (a 135), .ref (a 136), .ref (a 137)])), ((a 124), .inr (4, [.ref (a 125), .int g_text_length])), ((a 125), .inl (y 1, 96, .inl g_text_letters)), ((a 135), .inl (y 1, 7, .inl g_refused))]
noncomputable def f_X6_feed (g_text_length : Int32) (g_text_letters : (Nat → Int32)) (g_refused : (Nat → Int32)) (n0 : Int32) : Option (Int32 × Int32 × (Nat → Int32) × (Nat → Int32)) := dq_if (0 ≤ n0) (dq_if ((255 : Int32) < n0) (dq_bd2 (f_X6_refuse g_refused (-6 : Int32)) (fun (x3 : Int32) (g_refused_4 : (Nat → Int32)) => some (x3, g_text_length, g_text_letters, g_refused_4))) (dq_if (g_text_length < (96 : Int32)) (dq_gd (vp_in g_text_length 96) (dq_let (upd g_text_letters g_text_length.toNatClampNeg n0) (fun (g_text_letters_8 : (Nat → Int32)) => dq_let (g_text_length + (1 : Int32)) (fun (x9 : Int32) => some (x9, x9, g_text_letters_8, g_refused))))) (dq_bd2 (f_X6_refuse g_refused (-6 : Int32)) (fun (x10 : Int32) (g_refused_11 : (Nat → Int32)) => some (x10, g_text_length, g_text_letters, g_refused_11))))) (dq_bd2 (f_X6_refuse g_refused (-4 : Int32)) (fun (x13 : Int32) (g_refused_14 : (Nat → Int32)) => some (x13, g_text_length, g_text_letters, g_refused_14)))
-- DraughtsTake.feed(I)I
set_option maxHeartbeats 4000000 in
set_option maxRecDepth 100000 in
theorem m_X6_feed (l : Launch) (D : va_G) (y : Nat → ClassId) (a : (Nat → Nat)) (g_hasImage : Int32) (g_toldCount : Int32) (g_text_length : Int32) (g_text_letters : (Nat → Int32)) (g_refused : (Nat → Int32)) (n0 : Int32) (z0 : Int32) (z1 : Int32) (z2 : (Nat → Int32)) (z3 : (Nat → Int32)) (hf : f_X6_feed g_text_length g_text_letters g_refused n0 = some (z0, z1, z2, z3)) : Ct l D y yX6_feed wsX6_feed 1 21 [.ref (a 0), .int n0] (w_X6_feed y a g_hasImage g_toldCount g_text_length g_text_letters g_refused) (w_X6_feed y a g_hasImage g_toldCount z1 z2 z3) (some (.int z0)) := by
  refine ct_head (cc := cX6_feed) (n := 2) (ret := (some .int)) (by decide) rfl (Nat.le_of_ble_eq_true rfl) ?_
  intro p e s m below meth c A ls hx hb hr hml hown hlocks hts hA hAe hP hK hD hl
  have hS : va_S A s.heap s.heap [] := va_S.rf
  have hl : lv_has ls 2 [(0, .ref (a 0)), (1, .int n0)] := hl
  have hown : s.vm.findClass RX6 = some m.cls := hown
  have hw1 := hts (.fieldLink RX6 32 "DraughtsTake" "text" "LDraughtsTake$Text;") (List.mem_of_getElem? (i := 1) rfl)
  have hw2 := hts (.fieldLink RX6 60 "DraughtsTake$Text" "length" "I") (List.mem_of_getElem? (i := 2) rfl)
  have hw3 := hts (.fieldLink RX6 64 "DraughtsTake$Text" "letters" "[I") (List.mem_of_getElem? (i := 3) rfl)
  have hiX6 : ∀ w ∈ wsX60, w ∈ wsX6_feed := fun w h => List.mem_cons_of_mem _ (List.mem_append_left _ (List.mem_append_right _ (h)))
  have hiX5 : ∀ w ∈ wsX50, w ∈ wsX6_feed := fun w h => List.mem_cons_of_mem _ (List.mem_append_right _ (h))
  unfold f_X6_feed at hf
  refine lv_iload_n hx hb dX6_feed_0 rfl (lv_at hl 1 rfl) ?_
  refine lv_if_ge (tgt := 11) hx hb dX6_feed_1 (by decide) (fun c1 => ?_) (fun c1 => ?_)
  · have hf := dq_t hf c1
    clear c1
    refine lv_iload_n hx hb dX6_feed_11 rfl (lv_at hl 1 rfl) ?_
    refine lv_sipush (v := 255) hx hb dX6_feed_12 (by decide) ?_
    refine lv_icmp_gt (tgt := 30) hx hb dX6_feed_15 (by decide) (fun c2 => ?_) (fun c2 => ?_)
    · have hf := dq_t hf c2
      clear c2
      refine lv_aload_n hx hb dX6_feed_30 rfl (lv_at hl 0 rfl) ?_
      refine lv_bipush (v := -6) hx hb dX6_feed_31 (by decide) ?_
      obtain ⟨x3, g_refused_4, hy5, hf⟩ := dq_b2 hf
      refine ct_callV (ci := 5) (q0 := 0) (own := RX6) (As := [.int (-6 : Int32)]) (rest := []) (ws' := (w_X6_feed y a g_hasImage g_toldCount g_text_length g_text_letters g_refused_4)) ⟨hx, hb, hml, hown, hts⟩ (m_X6_refuse l D y a g_hasImage g_toldCount g_refused (-6 : Int32) x3 g_refused_4 hy5) (cwV 1 hts gX6_feed_X6_refuse rfl rfl rfl (by decide +kernel) ⟨Nat.le_of_ble_eq_true rfl, Nat.le_of_ble_eq_true rfl⟩) rfl rfl rfl hl.1 rfl (Nat.le_of_ble_eq_true rfl) dX6_feed_33 ⟨Nat.zero_le _, Nat.zero_le _⟩ hK hP hD hS hA [0, 3] [1, 2] rfl rfl rfl (by decide) (by decide) 4 rfl (by decide +kernel) (fun H locs hP hD hS => ?_)
      obtain ⟨rfl, rfl, rfl, rfl⟩ := dq_r4 hf
      exact ct_iret hx hb hr hlocks hAe hP hK hD hS dX6_feed_36
    · have hf := dq_f hf c2
      clear c2
      refine lv_aload_n hx hb dX6_feed_18 rfl (lv_at hl 0 rfl) ?_
      refine va_get (D := D) (ci := 5) (v := .ref (a 124)) (C := RX6) (T := TX6) (N := 12) hx hb hts hiX6 hown hK hP 0 rfl rfl 5 (by decide) hw1 (fun _ h9 => h9) rfl dX6_feed_19 ?_
      refine va_get (D := D) (ci := 4) (v := .int g_text_length) (C := RX5) (T := TX5) (N := 2) hx hb hts hiX5 hown hK hP 1 rfl rfl 1 (by decide) hw2 (fun _ h9 => h9) rfl dX6_feed_22 ?_
      refine lv_bipush (v := 96) hx hb dX6_feed_25 (by decide) ?_
      refine lv_icmp_lt (tgt := 37) hx hb dX6_feed_27 (by decide) (fun c6 => ?_) (fun c6 => ?_)
      · have hf := dq_t hf c6
        clear c6
        refine lv_aload_n hx hb dX6_feed_37 rfl (lv_at hl 0 rfl) ?_
        refine va_get (D := D) (ci := 5) (v := .ref (a 124)) (C := RX6) (T := TX6) (N := 12) hx hb hts hiX6 hown hK hP 0 rfl rfl 5 (by decide) hw1 (fun _ h9 => h9) rfl dX6_feed_38 ?_
        refine va_get (D := D) (ci := 4) (v := .ref (a 125)) (C := RX5) (T := TX5) (N := 2) hx hb hts hiX5 hown hK hP 1 rfl rfl 0 (by decide) hw3 (fun _ h9 => h9) rfl dX6_feed_41 ?_
        refine lv_aload_n hx hb dX6_feed_44 rfl (lv_at hl 0 rfl) ?_
        refine va_get (D := D) (ci := 5) (v := .ref (a 124)) (C := RX6) (T := TX6) (N := 12) hx hb hts hiX6 hown hK hP 0 rfl rfl 5 (by decide) hw1 (fun _ h9 => h9) rfl dX6_feed_45 ?_
        refine va_get (D := D) (ci := 4) (v := .int g_text_length) (C := RX5) (T := TX5) (N := 2) hx hb hts hiX5 hown hK hP 1 rfl rfl 1 (by decide) hw2 (fun _ h9 => h9) rfl dX6_feed_48 ?_
        refine lv_iload_n hx hb dX6_feed_51 rfl (lv_at hl 1 rfl) ?_
        obtain ⟨h7, hf⟩ := dq_g hf
        refine dq_iast (cA := y 1) (n := 96) (f := g_text_letters) hx hb hK hP hD hS 2 1 rfl rfl h7 dX6_feed_52 (fun g_text_letters_8 eg_text_letters_8 H locs hP hD hS => ?_)
        have hf := dq_l hf g_text_letters_8 eg_text_letters_8
        clear eg_text_letters_8
        have hP : va_P D vwCl (w_X6_feed y a g_hasImage g_toldCount g_text_length g_text_letters_8 g_refused) H := hP
        have hD : va_D A (w_X6_feed y a g_hasImage g_toldCount g_text_length g_text_letters_8 g_refused) := hD
        refine lv_aload_n hx hb dX6_feed_53 rfl (lv_at hl 0 rfl) ?_
        refine va_get (D := D) (ci := 5) (v := .ref (a 124)) (C := RX6) (T := TX6) (N := 12) hx hb hts hiX6 hown hK hP 0 rfl rfl 5 (by decide) hw1 (fun _ h9 => h9) rfl dX6_feed_54 ?_
        refine lv_dup hx hb dX6_feed_57 rfl ?_
        refine va_get (D := D) (ci := 4) (v := .int g_text_length) (C := RX5) (T := TX5) (N := 2) hx hb hts hiX5 hown hK hP 1 rfl rfl 1 (by decide) hw2 (fun _ h9 => h9) rfl dX6_feed_58 ?_
        refine lv_iconst (v := 1) hx hb dX6_feed_61 (by decide) ?_
        refine lv_iadd hx hb dX6_feed_62 ?_
        refine lv_topi (fun x9 ex9 => ?_)
        have hf := dq_l hf x9 ex9
        clear ex9
        refine va_put (D := D) (ci := 4) (v := .int x9) (ty := .int) (C := RX5) (T := TX5) (N := 2) hx hb hts hiX5 tyX5 tyX5_ok nmX5 hown hK hP hD hS 1 rfl rfl 1 (by decide) hw2 (fun _ h9 => h9) rfl (tyX5_ok 1 (by decide)) rfl rfl (Nat.le_of_ble_eq_true rfl) dX6_feed_63 (fun H locs hP hD hS => ?_)
        have hP : va_P D vwCl (w_X6_feed y a g_hasImage g_toldCount x9 g_text_letters_8 g_refused) H := hP
        have hD : va_D A (w_X6_feed y a g_hasImage g_toldCount x9 g_text_letters_8 g_refused) := hD
        refine lv_aload_n hx hb dX6_feed_66 rfl (lv_at hl 0 rfl) ?_
        refine va_get (D := D) (ci := 5) (v := .ref (a 124)) (C := RX6) (T := TX6) (N := 12) hx hb hts hiX6 hown hK hP 0 rfl rfl 5 (by decide) hw1 (fun _ h9 => h9) rfl dX6_feed_67 ?_
        refine va_get (D := D) (ci := 4) (v := .int x9) (C := RX5) (T := TX5) (N := 2) hx hb hts hiX5 hown hK hP 1 rfl rfl 1 (by decide) hw2 (fun _ h9 => h9) rfl dX6_feed_70 ?_
        obtain ⟨rfl, rfl, rfl, rfl⟩ := dq_r4 hf
        exact ct_iret hx hb hr hlocks hAe hP hK hD hS dX6_feed_73
      · have hf := dq_f hf c6
        clear c6
        refine lv_aload_n hx hb dX6_feed_30 rfl (lv_at hl 0 rfl) ?_
        refine lv_bipush (v := -6) hx hb dX6_feed_31 (by decide) ?_
        obtain ⟨x10, g_refused_11, hy12, hf⟩ := dq_b2 hf
        refine ct_callV (ci := 5) (q0 := 0) (own := RX6) (As := [.int (-6 : Int32)]) (rest := []) (ws' := (w_X6_feed y a g_hasImage g_toldCount g_text_length g_text_letters g_refused_11)) ⟨hx, hb, hml, hown, hts⟩ (m_X6_refuse l D y a g_hasImage g_toldCount g_refused (-6 : Int32) x10 g_refused_11 hy12) (cwV 1 hts gX6_feed_X6_refuse rfl rfl rfl (by decide +kernel) ⟨Nat.le_of_ble_eq_true rfl, Nat.le_of_ble_eq_true rfl⟩) rfl rfl rfl hl.1 rfl (Nat.le_of_ble_eq_true rfl) dX6_feed_33 ⟨Nat.zero_le _, Nat.zero_le _⟩ hK hP hD hS hA [0, 3] [1, 2] rfl rfl rfl (by decide) (by decide) 4 rfl (by decide +kernel) (fun H locs hP hD hS => ?_)
        obtain ⟨rfl, rfl, rfl, rfl⟩ := dq_r4 hf
        exact ct_iret hx hb hr hlocks hAe hP hK hD hS dX6_feed_36
  · have hf := dq_f hf c1
    clear c1
    refine lv_aload_n hx hb dX6_feed_4 rfl (lv_at hl 0 rfl) ?_
    refine lv_bipush (v := -4) hx hb dX6_feed_5 (by decide) ?_
    obtain ⟨x13, g_refused_14, hy15, hf⟩ := dq_b2 hf
    refine ct_callV (ci := 5) (q0 := 0) (own := RX6) (As := [.int (-4 : Int32)]) (rest := []) (ws' := (w_X6_feed y a g_hasImage g_toldCount g_text_length g_text_letters g_refused_14)) ⟨hx, hb, hml, hown, hts⟩ (m_X6_refuse l D y a g_hasImage g_toldCount g_refused (-4 : Int32) x13 g_refused_14 hy15) (cwV 1 hts gX6_feed_X6_refuse rfl rfl rfl (by decide +kernel) ⟨Nat.le_of_ble_eq_true rfl, Nat.le_of_ble_eq_true rfl⟩) rfl rfl rfl hl.1 rfl (Nat.le_of_ble_eq_true rfl) dX6_feed_7 ⟨Nat.zero_le _, Nat.zero_le _⟩ hK hP hD hS hA [0, 3] [1, 2] rfl rfl rfl (by decide) (by decide) 4 rfl (by decide +kernel) (fun H locs hP hD hS => ?_)
    obtain ⟨rfl, rfl, rfl, rfl⟩ := dq_r4 hf
    exact ct_iret hx hb hr hlocks hAe hP hK hD hS dX6_feed_10
def w_X6_house (y : Nat → ClassId) (a : Nat → Nat) (g_hasImage : Int32) (g_toldCount : Int32) (g_n_shutBits : Int64) (g_n_airs : Int32) (g_n_crownedBits : Int32) (g_n_sitters : Int32) (g_n_onBits : Int32) (g_n_turn : Int32) (g_n_taken : Int32) (g_n_warmth : (Nat → UInt32)) (g_n_kind : (Nat → Int32)) (g_n_figure : (Nat → Int32)) (g_n_airCell : (Nat → Int32)) (g_n_way : (Nat → Int32)) (g_n_seat : (Nat → Int32)) (g_n_shawls : (Nat → Int32)) (g_n_count : Int32) (g_n_steps : (Nat → Int32)) (g_n_numbers : (Nat → Int32)) (g_m_shutBits : Int64) (g_m_airs : Int32) (g_m_crownedBits : Int32) (g_m_sitters : Int32) (g_m_onBits : Int32) (g_m_turn : Int32) (g_m_taken : Int32) (g_m_warmth : (Nat → UInt32)) (g_m_kind : (Nat → Int32)) (g_m_figure : (Nat → Int32)) (g_m_airCell : (Nat → Int32)) (g_m_way : (Nat → Int32)) (g_m_seat : (Nat → Int32)) (g_m_shawls : (Nat → Int32)) (g_m_count : Int32) (g_m_steps : (Nat → Int32)) (g_m_numbers : (Nat → Int32)) (g_past_next : Int32) (g_past_count : Int32) (g_text_length : Int32) (g_text_letters : (Nat → Int32)) : va_W := [((a 0), .inr (5, [.ref (a 1), .ref (a 12), .ref (a 23), .int g_hasImage, .ref (a 34), .ref (a 124), .ref (a 126), .ref (a 134), .int g_toldCount, .ref (a 135), .ref (a 136), .ref (a 137)])), ((a 1), .inr (1, [.ref (a 2), .long g_n_shutBits, .int g_n_airs, .ref (a 3), .ref (a 4), .ref (a 5), .ref (a 6), .int g_n_crownedBits, .int g_n_sitters, .ref (a 7), .ref (a 8), .int g_n_onBits, .int g_n_turn, .int g_n_taken, .ref (a 9)])), ((a 2), .inl (y 0, 36, .inr (.inr (.inl g_n_warmth)))), ((a 3), .inl (y 1, 5, .inl g_n_kind)), ((a 4), .inl (y 1, 5, .inl g_n_figure)), ((a 5), .inl (y 1, 5, .inl g_n_airCell)), ((a 6), .inl (y 1, 5, .inl g_n_way)), ((a 7), .inl (y 1, 6, .inl g_n_seat)), ((a 8), .inl (y 1, 6, .inl g_n_shawls)), ((a 9), .inr (0, [.ref (a 10), .ref (a 11), .int g_n_count])), ((a 10), .inl (y 1, 6, .inl g_n_steps)), ((a 11), .inl (y 1, 6, .inl g_n_numbers)), ((a 12), .inr (1, [.ref (a 13), .long g_m_shutBits, .int g_m_airs, .ref (a 14), .ref (a 15), .ref (a 16), .ref (a 17), .int g_m_crownedBits, .int g_m_sitters, .ref (a 18), .ref (a 19), .int g_m_onBits, .int g_m_turn, .int g_m_taken, .ref (a 20)])), ((a 13), .inl (y 0, 36, .inr (.inr (.inl g_m_warmth)))), ((a 14), .inl (y 1, 5, .inl g_m_kind)), ((a 15), .inl (y 1, 5, .inl g_m_figure)), ((a 16), .inl (y 1, 5, .inl g_m_airCell)), ((a 17), .inl (y 1, 5, .inl g_m_way)), ((a 18), .inl (y 1, 6, .inl g_m_seat)), ((a 19), .inl (y 1, 6, .inl g_m_shawls)), ((a 20), .inr (0, [.ref (a 21), .ref (a 22), .int g_m_count])), ((a 21), .inl (y 1, 6, .inl g_m_steps)), ((a 22), .inl (y 1, 6, .inl g_m_numbers)), ((a 34), .inr (2, [.ref (a 35), .int g_past_next, .int g_past_count])), ((a 124), .inr (4, [.ref (a 125), .int g_text_length])), ((a 125), .inl (y 1, 96, .inl g_text_letters))]
noncomputable def f_X6_house_b90 (g_n_shutBits : Int64) (g_n_airs : Int32) (g_n_crownedBits : Int32) (g_n_sitters : Int32) (g_n_onBits : Int32) (g_n_turn : Int32) (g_n_taken : Int32) (g_n_warmth : (Nat → UInt32)) (g_n_kind : (Nat → Int32)) (g_n_figure : (Nat → Int32)) (g_n_airCell : (Nat → Int32)) (g_n_way : (Nat → Int32)) (g_n_seat : (Nat → Int32)) (g_n_shawls : (Nat → Int32)) (g_n_count : Int32) (g_n_steps : (Nat → Int32)) (g_n_numbers : (Nat → Int32)) (g_past_count : Int32) (x22 : Int32) (g_m_shutBits_25 : Int64) (g_m_airs_26 : Int32) (g_m_crownedBits_27 : Int32) (g_m_sitters_28 : Int32) (g_m_onBits_29 : Int32) (g_m_turn_30 : Int32) (g_m_taken_31 : Int32) (g_m_warmth_32 : (Nat → UInt32)) (g_m_kind_33 : (Nat → Int32)) (g_m_figure_34 : (Nat → Int32)) (g_m_airCell_35 : (Nat → Int32)) (g_m_way_36 : (Nat → Int32)) (g_m_seat_37 : (Nat → Int32)) (g_m_shawls_38 : (Nat → Int32)) (g_m_count_39 : Int32) (g_m_steps_40 : (Nat → Int32)) (g_m_numbers_41 : (Nat → Int32))   : Option (Int32 × Int64 × Int32 × Int32 × Int32 × Int32 × Int32 × Int32 × (Nat → UInt32) × (Nat → Int32) × (Nat → Int32) × (Nat → Int32) × (Nat → Int32) × (Nat → Int32) × (Nat → Int32) × Int32 × (Nat → Int32) × (Nat → Int32) × Int64 × Int32 × Int32 × Int32 × Int32 × Int32 × Int32 × (Nat → UInt32) × (Nat → Int32) × (Nat → Int32) × (Nat → Int32) × (Nat → Int32) × (Nat → Int32) × (Nat → Int32) × Int32 × (Nat → Int32) × (Nat → Int32) × Int32 × Int32) := dq_if (x22 < 0) (some (x22, g_n_shutBits, g_n_airs, g_n_crownedBits, g_n_sitters, g_n_onBits, g_n_turn, g_n_taken, g_n_warmth, g_n_kind, g_n_figure, g_n_airCell, g_n_way, g_n_seat, g_n_shawls, g_n_count, g_n_steps, g_n_numbers, g_m_shutBits_25, g_m_airs_26, g_m_crownedBits_27, g_m_sitters_28, g_m_onBits_29, g_m_turn_30, g_m_taken_31, g_m_warmth_32, g_m_kind_33, g_m_figure_34, g_m_airCell_35, g_m_way_36, g_m_seat_37, g_m_shawls_38, g_m_count_39, g_m_steps_40, g_m_numbers_41, g_past_count, (0 : Int32))) (dq_bd17 (f_X2_take g_n_warmth g_n_kind g_n_figure g_n_airCell g_n_way g_n_seat g_n_shawls g_n_steps g_n_numbers g_m_shutBits_25 g_m_airs_26 g_m_crownedBits_27 g_m_sitters_28 g_m_onBits_29 g_m_turn_30 g_m_taken_31 g_m_warmth_32 g_m_kind_33 g_m_figure_34 g_m_airCell_35 g_m_way_36 g_m_seat_37 g_m_shawls_38 g_m_count_39 g_m_steps_40 g_m_numbers_41) (fun (g_n_shutBits_43 : Int64) (g_n_airs_44 : Int32) (g_n_crownedBits_45 : Int32) (g_n_sitters_46 : Int32) (g_n_onBits_47 : Int32) (g_n_turn_48 : Int32) (g_n_taken_49 : Int32) (g_n_warmth_50 : (Nat → UInt32)) (g_n_kind_51 : (Nat → Int32)) (g_n_figure_52 : (Nat → Int32)) (g_n_airCell_53 : (Nat → Int32)) (g_n_way_54 : (Nat → Int32)) (g_n_seat_55 : (Nat → Int32)) (g_n_shawls_56 : (Nat → Int32)) (g_n_count_57 : Int32) (g_n_steps_58 : (Nat → Int32)) (g_n_numbers_59 : (Nat → Int32)) => dq_bd (f_X3_forget) (fun (g_past_count_61 : Int32) => some (x22, g_n_shutBits_43, g_n_airs_44, g_n_crownedBits_45, g_n_sitters_46, g_n_onBits_47, g_n_turn_48, g_n_taken_49, g_n_warmth_50, g_n_kind_51, g_n_figure_52, g_n_airCell_53, g_n_way_54, g_n_seat_55, g_n_shawls_56, g_n_count_57, g_n_steps_58, g_n_numbers_59, g_m_shutBits_25, g_m_airs_26, g_m_crownedBits_27, g_m_sitters_28, g_m_onBits_29, g_m_turn_30, g_m_taken_31, g_m_warmth_32, g_m_kind_33, g_m_figure_34, g_m_airCell_35, g_m_way_36, g_m_seat_37, g_m_shawls_38, g_m_count_39, g_m_steps_40, g_m_numbers_41, g_past_count_61, (0 : Int32)))))
noncomputable def f_X6_house_b41 (g_n_shutBits : Int64) (g_n_airs : Int32) (g_n_crownedBits : Int32) (g_n_sitters : Int32) (g_n_onBits : Int32) (g_n_turn : Int32) (g_n_taken : Int32) (g_n_warmth : (Nat → UInt32)) (g_n_kind : (Nat → Int32)) (g_n_figure : (Nat → Int32)) (g_n_airCell : (Nat → Int32)) (g_n_way : (Nat → Int32)) (g_n_seat : (Nat → Int32)) (g_n_shawls : (Nat → Int32)) (g_n_count : Int32) (g_n_steps : (Nat → Int32)) (g_n_numbers : (Nat → Int32)) (g_past_count : Int32) (g_text_length : Int32) (g_text_letters : (Nat → Int32)) (x1 : Int32)  : Nat → Int32 → Int32 → Int32 → Int64 → Int32 → Int32 → Int32 → Int32 → Int32 → Int32 → (Nat → UInt32) → (Nat → Int32) → (Nat → Int32) → (Nat → Int32) → (Nat → Int32) → (Nat → Int32) → (Nat → Int32) → Int32 → (Nat → Int32) → (Nat → Int32) → Option (Int32 × Int64 × Int32 × Int32 × Int32 × Int32 × Int32 × Int32 × (Nat → UInt32) × (Nat → Int32) × (Nat → Int32) × (Nat → Int32) × (Nat → Int32) × (Nat → Int32) × (Nat → Int32) × Int32 × (Nat → Int32) × (Nat → Int32) × Int64 × Int32 × Int32 × Int32 × Int32 × Int32 × Int32 × (Nat → UInt32) × (Nat → Int32) × (Nat → Int32) × (Nat → Int32) × (Nat → Int32) × (Nat → Int32) × (Nat → Int32) × Int32 × (Nat → Int32) × (Nat → Int32) × Int32 × Int32)
  | 0, _, _, _, _, _, _, _, _, _, _, _, _, _, _, _, _, _, _, _, _ => none
  | m41 + 1, x22, x23, x24, g_m_shutBits_25, g_m_airs_26, g_m_crownedBits_27, g_m_sitters_28, g_m_onBits_29, g_m_turn_30, g_m_taken_31, g_m_warmth_32, g_m_kind_33, g_m_figure_34, g_m_airCell_35, g_m_way_36, g_m_seat_37, g_m_shawls_38, g_m_count_39, g_m_steps_40, g_m_numbers_41 => dq_if (x1 ≤ x24) (f_X6_house_b90 g_n_shutBits g_n_airs g_n_crownedBits g_n_sitters g_n_onBits g_n_turn g_n_taken g_n_warmth g_n_kind g_n_figure g_n_airCell g_n_way g_n_seat g_n_shawls g_n_count g_n_steps g_n_numbers g_past_count x22 g_m_shutBits_25 g_m_airs_26 g_m_crownedBits_27 g_m_sitters_28 g_m_onBits_29 g_m_turn_30 g_m_taken_31 g_m_warmth_32 g_m_kind_33 g_m_figure_34 g_m_airCell_35 g_m_way_36 g_m_seat_37 g_m_shawls_38 g_m_count_39 g_m_steps_40 g_m_numbers_41) (dq_if (x22 < 0) (f_X6_house_b90 g_n_shutBits g_n_airs g_n_crownedBits g_n_sitters g_n_onBits g_n_turn g_n_taken g_n_warmth g_n_kind g_n_figure g_n_airCell g_n_way g_n_seat g_n_shawls g_n_count g_n_steps g_n_numbers g_past_count x22 g_m_shutBits_25 g_m_airs_26 g_m_crownedBits_27 g_m_sitters_28 g_m_onBits_29 g_m_turn_30 g_m_taken_31 g_m_warmth_32 g_m_kind_33 g_m_figure_34 g_m_airCell_35 g_m_way_36 g_m_seat_37 g_m_shawls_38 g_m_count_39 g_m_steps_40 g_m_numbers_41) (dq_bd18 (f_X5_tell g_text_length g_text_letters g_m_shutBits_25 g_m_airs_26 g_m_crownedBits_27 g_m_sitters_28 g_m_onBits_29 g_m_turn_30 g_m_taken_31 g_m_warmth_32 g_m_kind_33 g_m_figure_34 g_m_airCell_35 g_m_way_36 g_m_seat_37 g_m_shawls_38 g_m_count_39 g_m_steps_40 g_m_numbers_41 x23) (fun (x65 : Int32) (g_m_shutBits_66 : Int64) (g_m_airs_67 : Int32) (g_m_crownedBits_68 : Int32) (g_m_sitters_69 : Int32) (g_m_onBits_70 : Int32) (g_m_turn_71 : Int32) (g_m_taken_72 : Int32) (g_m_warmth_73 : (Nat → UInt32)) (g_m_kind_74 : (Nat → Int32)) (g_m_figure_75 : (Nat → Int32)) (g_m_airCell_76 : (Nat → Int32)) (g_m_way_77 : (Nat → Int32)) (g_m_seat_78 : (Nat → Int32)) (g_m_shawls_79 : (Nat → Int32)) (g_m_count_80 : Int32) (g_m_steps_81 : (Nat → Int32)) (g_m_numbers_82 : (Nat → Int32)) => dq_if (x65 = 0) (dq_let ((-2000 : Int32) - x23) (fun (x85 : Int32) => dq_let (x24 + (1 : Int32)) (fun (x86 : Int32) => (f_X6_house_b41 g_n_shutBits g_n_airs g_n_crownedBits g_n_sitters g_n_onBits g_n_turn g_n_taken g_n_warmth g_n_kind g_n_figure g_n_airCell g_n_way g_n_seat g_n_shawls g_n_count g_n_steps g_n_numbers g_past_count g_text_length g_text_letters x1 m41) x85 x23 x86 g_m_shutBits_66 g_m_airs_67 g_m_crownedBits_68 g_m_sitters_69 g_m_onBits_70 g_m_turn_71 g_m_taken_72 g_m_warmth_73 g_m_kind_74 g_m_figure_75 g_m_airCell_76 g_m_way_77 g_m_seat_78 g_m_shawls_79 g_m_count_80 g_m_steps_81 g_m_numbers_82))) (dq_bd (f_X5_statementEnd g_text_length g_text_letters x23) (fun (x87 : Int32) => dq_let (x24 + (1 : Int32)) (fun (x89 : Int32) => (f_X6_house_b41 g_n_shutBits g_n_airs g_n_crownedBits g_n_sitters g_n_onBits g_n_turn g_n_taken g_n_warmth g_n_kind g_n_figure g_n_airCell g_n_way g_n_seat g_n_shawls g_n_count g_n_steps g_n_numbers g_past_count g_text_length g_text_letters x1 m41) x22 x87 x89 g_m_shutBits_66 g_m_airs_67 g_m_crownedBits_68 g_m_sitters_69 g_m_onBits_70 g_m_turn_71 g_m_taken_72 g_m_warmth_73 g_m_kind_74 g_m_figure_75 g_m_airCell_76 g_m_way_77 g_m_seat_78 g_m_shawls_79 g_m_count_80 g_m_steps_81 g_m_numbers_82))))))
noncomputable def f_X6_house_b24 (g_n_shutBits : Int64) (g_n_airs : Int32) (g_n_crownedBits : Int32) (g_n_sitters : Int32) (g_n_onBits : Int32) (g_n_turn : Int32) (g_n_taken : Int32) (g_n_warmth : (Nat → UInt32)) (g_n_kind : (Nat → Int32)) (g_n_figure : (Nat → Int32)) (g_n_airCell : (Nat → Int32)) (g_n_way : (Nat → Int32)) (g_n_seat : (Nat → Int32)) (g_n_shawls : (Nat → Int32)) (g_n_count : Int32) (g_n_steps : (Nat → Int32)) (g_n_numbers : (Nat → Int32)) (g_m_warmth : (Nat → UInt32)) (g_m_kind : (Nat → Int32)) (g_m_figure : (Nat → Int32)) (g_m_airCell : (Nat → Int32)) (g_m_way : (Nat → Int32)) (g_m_seat : (Nat → Int32)) (g_m_shawls : (Nat → Int32)) (g_m_steps : (Nat → Int32)) (g_m_numbers : (Nat → Int32)) (g_past_count : Int32) (g_text_length : Int32) (g_text_letters : (Nat → Int32)) (x1 : Int32)  (x3 : Int32) : Option (Int32 × Int64 × Int32 × Int32 × Int32 × Int32 × Int32 × Int32 × (Nat → UInt32) × (Nat → Int32) × (Nat → Int32) × (Nat → Int32) × (Nat → Int32) × (Nat → Int32) × (Nat → Int32) × Int32 × (Nat → Int32) × (Nat → Int32) × Int64 × Int32 × Int32 × Int32 × Int32 × Int32 × Int32 × (Nat → UInt32) × (Nat → Int32) × (Nat → Int32) × (Nat → Int32) × (Nat → Int32) × (Nat → Int32) × (Nat → Int32) × Int32 × (Nat → Int32) × (Nat → Int32) × Int32 × Int32) := dq_bd17 (f_X2_take g_m_warmth g_m_kind g_m_figure g_m_airCell g_m_way g_m_seat g_m_shawls g_m_steps g_m_numbers g_n_shutBits g_n_airs g_n_crownedBits g_n_sitters g_n_onBits g_n_turn g_n_taken g_n_warmth g_n_kind g_n_figure g_n_airCell g_n_way g_n_seat g_n_shawls g_n_count g_n_steps g_n_numbers) (fun (g_m_shutBits_4 : Int64) (g_m_airs_5 : Int32) (g_m_crownedBits_6 : Int32) (g_m_sitters_7 : Int32) (g_m_onBits_8 : Int32) (g_m_turn_9 : Int32) (g_m_taken_10 : Int32) (g_m_warmth_11 : (Nat → UInt32)) (g_m_kind_12 : (Nat → Int32)) (g_m_figure_13 : (Nat → Int32)) (g_m_airCell_14 : (Nat → Int32)) (g_m_way_15 : (Nat → Int32)) (g_m_seat_16 : (Nat → Int32)) (g_m_shawls_17 : (Nat → Int32)) (g_m_count_18 : Int32) (g_m_steps_19 : (Nat → Int32)) (g_m_numbers_20 : (Nat → Int32)) => f_X6_house_b41 g_n_shutBits g_n_airs g_n_crownedBits g_n_sitters g_n_onBits g_n_turn g_n_taken g_n_warmth g_n_kind g_n_figure g_n_airCell g_n_way g_n_seat g_n_shawls g_n_count g_n_steps g_n_numbers g_past_count g_text_length g_text_letters x1 4096 x3 (0 : Int32) (0 : Int32) g_m_shutBits_4 g_m_airs_5 g_m_crownedBits_6 g_m_sitters_7 g_m_onBits_8 g_m_turn_9 g_m_taken_10 g_m_warmth_11 g_m_kind_12 g_m_figure_13 g_m_airCell_14 g_m_way_15 g_m_seat_16 g_m_shawls_17 g_m_count_18 g_m_steps_19 g_m_numbers_20)
noncomputable def f_X6_house (g_n_shutBits : Int64) (g_n_airs : Int32) (g_n_crownedBits : Int32) (g_n_sitters : Int32) (g_n_onBits : Int32) (g_n_turn : Int32) (g_n_taken : Int32) (g_n_warmth : (Nat → UInt32)) (g_n_kind : (Nat → Int32)) (g_n_figure : (Nat → Int32)) (g_n_airCell : (Nat → Int32)) (g_n_way : (Nat → Int32)) (g_n_seat : (Nat → Int32)) (g_n_shawls : (Nat → Int32)) (g_n_count : Int32) (g_n_steps : (Nat → Int32)) (g_n_numbers : (Nat → Int32)) (g_m_warmth : (Nat → UInt32)) (g_m_kind : (Nat → Int32)) (g_m_figure : (Nat → Int32)) (g_m_airCell : (Nat → Int32)) (g_m_way : (Nat → Int32)) (g_m_seat : (Nat → Int32)) (g_m_shawls : (Nat → Int32)) (g_m_steps : (Nat → Int32)) (g_m_numbers : (Nat → Int32)) (g_past_count : Int32) (g_text_length : Int32) (g_text_letters : (Nat → Int32)) : Option (Int32 × Int64 × Int32 × Int32 × Int32 × Int32 × Int32 × Int32 × (Nat → UInt32) × (Nat → Int32) × (Nat → Int32) × (Nat → Int32) × (Nat → Int32) × (Nat → Int32) × (Nat → Int32) × Int32 × (Nat → Int32) × (Nat → Int32) × Int64 × Int32 × Int32 × Int32 × Int32 × Int32 × Int32 × (Nat → UInt32) × (Nat → Int32) × (Nat → Int32) × (Nat → Int32) × (Nat → Int32) × (Nat → Int32) × (Nat → Int32) × Int32 × (Nat → Int32) × (Nat → Int32) × Int32 × Int32) := dq_bd (f_X5_statements g_text_length g_text_letters) (fun (x1 : Int32) => dq_if (0 ≤ x1) (f_X6_house_b24 g_n_shutBits g_n_airs g_n_crownedBits g_n_sitters g_n_onBits g_n_turn g_n_taken g_n_warmth g_n_kind g_n_figure g_n_airCell g_n_way g_n_seat g_n_shawls g_n_count g_n_steps g_n_numbers g_m_warmth g_m_kind g_m_figure g_m_airCell g_m_way g_m_seat g_m_shawls g_m_steps g_m_numbers g_past_count g_text_length g_text_letters x1 x1) (dq_bd (f_X5_placeOf x1) (fun (x91 : Int32) => f_X6_house_b24 g_n_shutBits g_n_airs g_n_crownedBits g_n_sitters g_n_onBits g_n_turn g_n_taken g_n_warmth g_n_kind g_n_figure g_n_airCell g_n_way g_n_seat g_n_shawls g_n_count g_n_steps g_n_numbers g_m_warmth g_m_kind g_m_figure g_m_airCell g_m_way g_m_seat g_m_shawls g_m_steps g_m_numbers g_past_count g_text_length g_text_letters x1 ((-1000 : Int32) - x91))))
-- DraughtsTake.house()I
set_option maxHeartbeats 4000000 in
set_option maxRecDepth 100000 in
theorem m_X6_house (l : Launch) (D : va_G) (y : Nat → ClassId) (a : (Nat → Nat)) (g_hasImage : Int32) (g_toldCount : Int32) (g_n_shutBits : Int64) (g_n_airs : Int32) (g_n_crownedBits : Int32) (g_n_sitters : Int32) (g_n_onBits : Int32) (g_n_turn : Int32) (g_n_taken : Int32) (g_n_warmth : (Nat → UInt32)) (g_n_kind : (Nat → Int32)) (g_n_figure : (Nat → Int32)) (g_n_airCell : (Nat → Int32)) (g_n_way : (Nat → Int32)) (g_n_seat : (Nat → Int32)) (g_n_shawls : (Nat → Int32)) (g_n_count : Int32) (g_n_steps : (Nat → Int32)) (g_n_numbers : (Nat → Int32)) (g_m_shutBits : Int64) (g_m_airs : Int32) (g_m_crownedBits : Int32) (g_m_sitters : Int32) (g_m_onBits : Int32) (g_m_turn : Int32) (g_m_taken : Int32) (g_m_warmth : (Nat → UInt32)) (g_m_kind : (Nat → Int32)) (g_m_figure : (Nat → Int32)) (g_m_airCell : (Nat → Int32)) (g_m_way : (Nat → Int32)) (g_m_seat : (Nat → Int32)) (g_m_shawls : (Nat → Int32)) (g_m_count : Int32) (g_m_steps : (Nat → Int32)) (g_m_numbers : (Nat → Int32)) (g_past_next : Int32) (g_past_count : Int32) (g_text_length : Int32) (g_text_letters : (Nat → Int32)) (z0 : Int32) (z1 : Int64) (z2 : Int32) (z3 : Int32) (z4 : Int32) (z5 : Int32) (z6 : Int32) (z7 : Int32) (z8 : (Nat → UInt32)) (z9 : (Nat → Int32)) (z10 : (Nat → Int32)) (z11 : (Nat → Int32)) (z12 : (Nat → Int32)) (z13 : (Nat → Int32)) (z14 : (Nat → Int32)) (z15 : Int32) (z16 : (Nat → Int32)) (z17 : (Nat → Int32)) (z18 : Int64) (z19 : Int32) (z20 : Int32) (z21 : Int32) (z22 : Int32) (z23 : Int32) (z24 : Int32) (z25 : (Nat → UInt32)) (z26 : (Nat → Int32)) (z27 : (Nat → Int32)) (z28 : (Nat → Int32)) (z29 : (Nat → Int32)) (z30 : (Nat → Int32)) (z31 : (Nat → Int32)) (z32 : Int32) (z33 : (Nat → Int32)) (z34 : (Nat → Int32)) (z35 : Int32) (z36 : Int32) (hf : f_X6_house g_n_shutBits g_n_airs g_n_crownedBits g_n_sitters g_n_onBits g_n_turn g_n_taken g_n_warmth g_n_kind g_n_figure g_n_airCell g_n_way g_n_seat g_n_shawls g_n_count g_n_steps g_n_numbers g_m_warmth g_m_kind g_m_figure g_m_airCell g_m_way g_m_seat g_m_shawls g_m_steps g_m_numbers g_past_count g_text_length g_text_letters = some (z0, z1, z2, z3, z4, z5, z6, z7, z8, z9, z10, z11, z12, z13, z14, z15, z16, z17, z18, z19, z20, z21, z22, z23, z24, z25, z26, z27, z28, z29, z30, z31, z32, z33, z34, z35, z36)) : Ct l D y yX6_house wsX6_house 6 141 [.ref (a 0)] (w_X6_house y a g_hasImage g_toldCount g_n_shutBits g_n_airs g_n_crownedBits g_n_sitters g_n_onBits g_n_turn g_n_taken g_n_warmth g_n_kind g_n_figure g_n_airCell g_n_way g_n_seat g_n_shawls g_n_count g_n_steps g_n_numbers g_m_shutBits g_m_airs g_m_crownedBits g_m_sitters g_m_onBits g_m_turn g_m_taken g_m_warmth g_m_kind g_m_figure g_m_airCell g_m_way g_m_seat g_m_shawls g_m_count g_m_steps g_m_numbers g_past_next g_past_count g_text_length g_text_letters) (w_X6_house y a g_hasImage g_toldCount z1 z2 z3 z4 z5 z6 z7 z8 z9 z10 z11 z12 z13 z14 z15 z16 z17 z18 z19 z20 z21 z22 z23 z24 z25 z26 z27 z28 z29 z30 z31 z32 z33 z34 g_past_next z35 z36 g_text_letters) (some (.int z0)) := by
  refine ct_head (cc := cX6_house) (n := 5) (ret := (some .int)) (by decide) rfl (Nat.le_of_ble_eq_true rfl) ?_
  intro p e s m below meth c A ls hx hb hr hml hown hlocks hts hA hAe hP hK hD hl
  have hS : va_S A s.heap s.heap [] := va_S.rf
  have hl : lv_has ls 5 [(0, .ref (a 0))] := hl
  have hown : s.vm.findClass RX6 = some m.cls := hown
  have hw1 := hts (.fieldLink RX6 32 "DraughtsTake" "text" "LDraughtsTake$Text;") (List.mem_of_getElem? (i := 1) rfl)
  have hw2 := hts (.fieldLink RX6 16 "DraughtsTake" "mind" "LDraughtsTake$House;") (List.mem_of_getElem? (i := 2) rfl)
  have hw3 := hts (.fieldLink RX6 10 "DraughtsTake" "now" "LDraughtsTake$House;") (List.mem_of_getElem? (i := 3) rfl)
  have hw4 := hts (.fieldLink RX6 25 "DraughtsTake" "past" "LDraughtsTake$Past;") (List.mem_of_getElem? (i := 4) rfl)
  have hw5 := hts (.fieldLink RX6 60 "DraughtsTake$Text" "length" "I") (List.mem_of_getElem? (i := 5) rfl)
  have hiX6 : ∀ w ∈ wsX60, w ∈ wsX6_house := fun w h => List.mem_cons_of_mem _ (List.mem_append_left _ (List.mem_append_left _ (List.mem_append_left _ (List.mem_append_left _ (List.mem_append_right _ (h))))))
  have hiX5 : ∀ w ∈ wsX50, w ∈ wsX6_house := fun w h => List.mem_cons_of_mem _ (List.mem_append_left _ (List.mem_append_left _ (List.mem_append_left _ (List.mem_append_right _ (h)))))
  unfold f_X6_house at hf
  refine lv_aload_n hx hb dX6_house_0 rfl (lv_at hl 0 rfl) ?_
  refine va_get (D := D) (ci := 5) (v := .ref (a 124)) (C := RX6) (T := TX6) (N := 12) hx hb hts hiX6 hown hK hP 0 rfl rfl 5 (by decide) hw1 (fun _ h9 => h9) rfl dX6_house_1 ?_
  obtain ⟨x1, hy2, hf⟩ := dq_b hf
  refine ct_callV (ci := 4) (q0 := 0) (own := RX6) (As := []) (rest := []) (ws' := (w_X6_house y a g_hasImage g_toldCount g_n_shutBits g_n_airs g_n_crownedBits g_n_sitters g_n_onBits g_n_turn g_n_taken g_n_warmth g_n_kind g_n_figure g_n_airCell g_n_way g_n_seat g_n_shawls g_n_count g_n_steps g_n_numbers g_m_shutBits g_m_airs g_m_crownedBits g_m_sitters g_m_onBits g_m_turn g_m_taken g_m_warmth g_m_kind g_m_figure g_m_airCell g_m_way g_m_seat g_m_shawls g_m_count g_m_steps g_m_numbers g_past_next g_past_count g_text_length g_text_letters)) ⟨hx, hb, hml, hown, hts⟩ (m_X5_statements l D y (fun k => a (124 + k)) g_text_length g_text_letters x1 hy2) (cwV 0 hts gX6_house_X5_statements rfl rfl rfl (by decide +kernel) ⟨Nat.le_of_ble_eq_true rfl, Nat.le_of_ble_eq_true rfl⟩) rfl rfl rfl hl.1 rfl (Nat.le_of_ble_eq_true rfl) dX6_house_4 ⟨Nat.zero_le _, Nat.zero_le _⟩ hK hP hD hS hA [24, 25] [0, 1, 2, 3, 4, 5, 6, 7, 8, 9, 10, 11, 12, 13, 14, 15, 16, 17, 18, 19, 20, 21, 22, 23] rfl rfl rfl (by decide) (by decide) 26 rfl (by decide +kernel) (fun H locs hP hD hS => ?_)
  refine lv_istore_n (lv' := [(1, .int x1), (0, .ref (a 0))]) hx hb dX6_house_7 rfl hl (by decide) rfl (fun ls hl => ?_)
  refine lv_iload_n hx hb dX6_house_8 rfl (lv_at hl 0 rfl) ?_
  have J24 : ∀ (x3 : Int32), f_X6_house_b24 g_n_shutBits g_n_airs g_n_crownedBits g_n_sitters g_n_onBits g_n_turn g_n_taken g_n_warmth g_n_kind g_n_figure g_n_airCell g_n_way g_n_seat g_n_shawls g_n_count g_n_steps g_n_numbers g_m_warmth g_m_kind g_m_figure g_m_airCell g_m_way g_m_seat g_m_shawls g_m_steps g_m_numbers g_past_count g_text_length g_text_letters x1 x3 = some (z0, z1, z2, z3, z4, z5, z6, z7, z8, z9, z10, z11, z12, z13, z14, z15, z16, z17, z18, z19, z20, z21, z22, z23, z24, z25, z26, z27, z28, z29, z30, z31, z32, z33, z34, z35, z36) → ∀ (H : Heap) (locs : List Loc), va_P D vwCl (w_X6_house y a g_hasImage g_toldCount g_n_shutBits g_n_airs g_n_crownedBits g_n_sitters g_n_onBits g_n_turn g_n_taken g_n_warmth g_n_kind g_n_figure g_n_airCell g_n_way g_n_seat g_n_shawls g_n_count g_n_steps g_n_numbers g_m_shutBits g_m_airs g_m_crownedBits g_m_sitters g_m_onBits g_m_turn g_m_taken g_m_warmth g_m_kind g_m_figure g_m_airCell g_m_way g_m_seat g_m_shawls g_m_count g_m_steps g_m_numbers g_past_next g_past_count g_text_length g_text_letters) H → va_D A (w_X6_house y a g_hasImage g_toldCount g_n_shutBits g_n_airs g_n_crownedBits g_n_sitters g_n_onBits g_n_turn g_n_taken g_n_warmth g_n_kind g_n_figure g_n_airCell g_n_way g_n_seat g_n_shawls g_n_count g_n_steps g_n_numbers g_m_shutBits g_m_airs g_m_crownedBits g_m_sitters g_m_onBits g_m_turn g_m_taken g_m_warmth g_m_kind g_m_figure g_m_airCell g_m_way g_m_seat g_m_shawls g_m_count g_m_steps g_m_numbers g_past_next g_past_count g_text_length g_text_letters) → va_S A s.heap H locs → ∀ ls : Array Slot, lv_has ls 5 [(0, .ref (a 0)), (1, .int x1)] → W p l e ({ frames := 6, cells := 0, slots := 0, locals := 141 } : Room) s m [.ref (a 0)].toArray below meth c H locs 0 0 (MQ below (dQ D y (some (.int z0)) s.heap.size (w_X6_house y a g_hasImage g_toldCount g_n_shutBits g_n_airs g_n_crownedBits g_n_sitters g_n_onBits g_n_turn g_n_taken g_n_warmth g_n_kind g_n_figure g_n_airCell g_n_way g_n_seat g_n_shawls g_n_count g_n_steps g_n_numbers g_m_shutBits g_m_airs g_m_crownedBits g_m_sitters g_m_onBits g_m_turn g_m_taken g_m_warmth g_m_kind g_m_figure g_m_airCell g_m_way g_m_seat g_m_shawls g_m_count g_m_steps g_m_numbers g_past_next g_past_count g_text_length g_text_letters) (w_X6_house y a g_hasImage g_toldCount z1 z2 z3 z4 z5 z6 z7 z8 z9 z10 z11 z12 z13 z14 z15 z16 z17 z18 z19 z20 z21 z22 z23 z24 z25 z26 z27 z28 z29 z30 z31 z32 z33 z34 g_past_next z35 z36 g_text_letters)) [.ref (a 0)].toArray s 0 0 A) (F0 m 24 ls [.int x3]) := by
    intro x3 hf H locs hP hD hS ls hl
    unfold f_X6_house_b24 at hf
    refine lv_istore_n (lv' := [(2, .int x3), (0, .ref (a 0)), (1, .int x1)]) hx hb dX6_house_24 rfl hl (by decide) rfl (fun ls hl => ?_)
    refine lv_iconst (v := 0) hx hb dX6_house_25 (by decide) ?_
    refine lv_istore_n (lv' := [(3, .int (0 : Int32)), (2, .int x3), (0, .ref (a 0)), (1, .int x1)]) hx hb dX6_house_26 rfl hl (by decide) rfl (fun ls hl => ?_)
    refine lv_aload_n hx hb dX6_house_27 rfl (lv_at hl 2 rfl) ?_
    refine va_get (D := D) (ci := 5) (v := .ref (a 12)) (C := RX6) (T := TX6) (N := 12) hx hb hts hiX6 hown hK hP 0 rfl rfl 1 (by decide) hw2 (fun _ h9 => h9) rfl dX6_house_28 ?_
    refine lv_aload_n hx hb dX6_house_31 rfl (lv_at hl 2 rfl) ?_
    refine va_get (D := D) (ci := 5) (v := .ref (a 1)) (C := RX6) (T := TX6) (N := 12) hx hb hts hiX6 hown hK hP 0 rfl rfl 0 (by decide) hw3 (fun _ h9 => h9) rfl dX6_house_32 ?_
    obtain ⟨g_m_shutBits_4, g_m_airs_5, g_m_crownedBits_6, g_m_sitters_7, g_m_onBits_8, g_m_turn_9, g_m_taken_10, g_m_warmth_11, g_m_kind_12, g_m_figure_13, g_m_airCell_14, g_m_way_15, g_m_seat_16, g_m_shawls_17, g_m_count_18, g_m_steps_19, g_m_numbers_20, hy21, hf⟩ := dq_b17 hf
    refine ct_callV (ci := 1) (q0 := 0) (own := RX6) (As := [.ref (a 1)]) (rest := []) (ws' := (w_X6_house y a g_hasImage g_toldCount g_n_shutBits g_n_airs g_n_crownedBits g_n_sitters g_n_onBits g_n_turn g_n_taken g_n_warmth g_n_kind g_n_figure g_n_airCell g_n_way g_n_seat g_n_shawls g_n_count g_n_steps g_n_numbers g_m_shutBits_4 g_m_airs_5 g_m_crownedBits_6 g_m_sitters_7 g_m_onBits_8 g_m_turn_9 g_m_taken_10 g_m_warmth_11 g_m_kind_12 g_m_figure_13 g_m_airCell_14 g_m_way_15 g_m_seat_16 g_m_shawls_17 g_m_count_18 g_m_steps_19 g_m_numbers_20 g_past_next g_past_count g_text_length g_text_letters)) ⟨hx, hb, hml, hown, hts⟩ (m_X2_take l D y (fun k => a (12 + k)) (fun k => a (1 + k)) g_m_shutBits g_m_airs g_m_crownedBits g_m_sitters g_m_onBits g_m_turn g_m_taken g_m_warmth g_m_kind g_m_figure g_m_airCell g_m_way g_m_seat g_m_shawls g_m_count g_m_steps g_m_numbers g_n_shutBits g_n_airs g_n_crownedBits g_n_sitters g_n_onBits g_n_turn g_n_taken g_n_warmth g_n_kind g_n_figure g_n_airCell g_n_way g_n_seat g_n_shawls g_n_count g_n_steps g_n_numbers g_m_shutBits_4 g_m_airs_5 g_m_crownedBits_6 g_m_sitters_7 g_m_onBits_8 g_m_turn_9 g_m_taken_10 g_m_warmth_11 g_m_kind_12 g_m_figure_13 g_m_airCell_14 g_m_way_15 g_m_seat_16 g_m_shawls_17 g_m_count_18 g_m_steps_19 g_m_numbers_20 hy21) (cwV 1 hts gX6_house_X2_take rfl rfl rfl (by decide +kernel) ⟨Nat.le_of_ble_eq_true rfl, Nat.le_of_ble_eq_true rfl⟩) rfl rfl rfl hl.1 rfl (Nat.le_of_ble_eq_true rfl) dX6_house_35 ⟨Nat.zero_le _, Nat.zero_le _⟩ hK hP hD hS hA [12, 13, 14, 15, 16, 17, 18, 19, 20, 21, 22, 1, 2, 3, 4, 5, 6, 7, 8, 9, 10, 11] [0, 23, 24, 25] rfl rfl rfl (by decide) (by decide) 26 rfl (by decide +kernel) (fun H locs hP hD hS => ?_)
    refine lv_iconst (v := 0) hx hb dX6_house_38 (by decide) ?_
    refine lv_istore (lv' := [(4, .int (0 : Int32)), (3, .int (0 : Int32)), (2, .int x3), (0, .ref (a 0)), (1, .int x1)]) hx hb dX6_house_39 hl (by decide) rfl (fun ls hl => ?_)
    have J41 : ∀ (m41 : Nat) (x22 : Int32) (x23 : Int32) (x24 : Int32) (g_m_shutBits_25 : Int64) (g_m_airs_26 : Int32) (g_m_crownedBits_27 : Int32) (g_m_sitters_28 : Int32) (g_m_onBits_29 : Int32) (g_m_turn_30 : Int32) (g_m_taken_31 : Int32) (g_m_warmth_32 : (Nat → UInt32)) (g_m_kind_33 : (Nat → Int32)) (g_m_figure_34 : (Nat → Int32)) (g_m_airCell_35 : (Nat → Int32)) (g_m_way_36 : (Nat → Int32)) (g_m_seat_37 : (Nat → Int32)) (g_m_shawls_38 : (Nat → Int32)) (g_m_count_39 : Int32) (g_m_steps_40 : (Nat → Int32)) (g_m_numbers_41 : (Nat → Int32)), f_X6_house_b41 g_n_shutBits g_n_airs g_n_crownedBits g_n_sitters g_n_onBits g_n_turn g_n_taken g_n_warmth g_n_kind g_n_figure g_n_airCell g_n_way g_n_seat g_n_shawls g_n_count g_n_steps g_n_numbers g_past_count g_text_length g_text_letters x1 m41 x22 x23 x24 g_m_shutBits_25 g_m_airs_26 g_m_crownedBits_27 g_m_sitters_28 g_m_onBits_29 g_m_turn_30 g_m_taken_31 g_m_warmth_32 g_m_kind_33 g_m_figure_34 g_m_airCell_35 g_m_way_36 g_m_seat_37 g_m_shawls_38 g_m_count_39 g_m_steps_40 g_m_numbers_41 = some (z0, z1, z2, z3, z4, z5, z6, z7, z8, z9, z10, z11, z12, z13, z14, z15, z16, z17, z18, z19, z20, z21, z22, z23, z24, z25, z26, z27, z28, z29, z30, z31, z32, z33, z34, z35, z36) → ∀ (H : Heap) (locs : List Loc), va_P D vwCl (w_X6_house y a g_hasImage g_toldCount g_n_shutBits g_n_airs g_n_crownedBits g_n_sitters g_n_onBits g_n_turn g_n_taken g_n_warmth g_n_kind g_n_figure g_n_airCell g_n_way g_n_seat g_n_shawls g_n_count g_n_steps g_n_numbers g_m_shutBits_25 g_m_airs_26 g_m_crownedBits_27 g_m_sitters_28 g_m_onBits_29 g_m_turn_30 g_m_taken_31 g_m_warmth_32 g_m_kind_33 g_m_figure_34 g_m_airCell_35 g_m_way_36 g_m_seat_37 g_m_shawls_38 g_m_count_39 g_m_steps_40 g_m_numbers_41 g_past_next g_past_count g_text_length g_text_letters) H → va_D A (w_X6_house y a g_hasImage g_toldCount g_n_shutBits g_n_airs g_n_crownedBits g_n_sitters g_n_onBits g_n_turn g_n_taken g_n_warmth g_n_kind g_n_figure g_n_airCell g_n_way g_n_seat g_n_shawls g_n_count g_n_steps g_n_numbers g_m_shutBits_25 g_m_airs_26 g_m_crownedBits_27 g_m_sitters_28 g_m_onBits_29 g_m_turn_30 g_m_taken_31 g_m_warmth_32 g_m_kind_33 g_m_figure_34 g_m_airCell_35 g_m_way_36 g_m_seat_37 g_m_shawls_38 g_m_count_39 g_m_steps_40 g_m_numbers_41 g_past_next g_past_count g_text_length g_text_letters) → va_S A s.heap H locs → ∀ ls : Array Slot, lv_has ls 5 [(0, .ref (a 0)), (1, .int x1), (2, .int x22), (3, .int x23), (4, .int x24)] → W p l e ({ frames := 6, cells := 0, slots := 0, locals := 141 } : Room) s m [.ref (a 0)].toArray below meth c H locs 0 0 (MQ below (dQ D y (some (.int z0)) s.heap.size (w_X6_house y a g_hasImage g_toldCount g_n_shutBits g_n_airs g_n_crownedBits g_n_sitters g_n_onBits g_n_turn g_n_taken g_n_warmth g_n_kind g_n_figure g_n_airCell g_n_way g_n_seat g_n_shawls g_n_count g_n_steps g_n_numbers g_m_shutBits g_m_airs g_m_crownedBits g_m_sitters g_m_onBits g_m_turn g_m_taken g_m_warmth g_m_kind g_m_figure g_m_airCell g_m_way g_m_seat g_m_shawls g_m_count g_m_steps g_m_numbers g_past_next g_past_count g_text_length g_text_letters) (w_X6_house y a g_hasImage g_toldCount z1 z2 z3 z4 z5 z6 z7 z8 z9 z10 z11 z12 z13 z14 z15 z16 z17 z18 z19 z20 z21 z22 z23 z24 z25 z26 z27 z28 z29 z30 z31 z32 z33 z34 g_past_next z35 z36 g_text_letters)) [.ref (a 0)].toArray s 0 0 A) (F0 m 41 ls []) := by
      intro m41
      induction m41 with
      | zero => intro x22 x23 x24 g_m_shutBits_25 g_m_airs_26 g_m_crownedBits_27 g_m_sitters_28 g_m_onBits_29 g_m_turn_30 g_m_taken_31 g_m_warmth_32 g_m_kind_33 g_m_figure_34 g_m_airCell_35 g_m_way_36 g_m_seat_37 g_m_shawls_38 g_m_count_39 g_m_steps_40 g_m_numbers_41 hf; exact absurd hf (by unfold f_X6_house_b41; exact fun h => by cases h)
      | succ m41 I41 =>
        intro x22 x23 x24 g_m_shutBits_25 g_m_airs_26 g_m_crownedBits_27 g_m_sitters_28 g_m_onBits_29 g_m_turn_30 g_m_taken_31 g_m_warmth_32 g_m_kind_33 g_m_figure_34 g_m_airCell_35 g_m_way_36 g_m_seat_37 g_m_shawls_38 g_m_count_39 g_m_steps_40 g_m_numbers_41 hf H locs hP hD hS ls hl
        unfold f_X6_house_b41 at hf
        refine lv_iload hx hb dX6_house_41 (lv_at hl 4 rfl) ?_
        refine lv_iload_n hx hb dX6_house_43 rfl (lv_at hl 1 rfl) ?_
        have J90 : f_X6_house_b90 g_n_shutBits g_n_airs g_n_crownedBits g_n_sitters g_n_onBits g_n_turn g_n_taken g_n_warmth g_n_kind g_n_figure g_n_airCell g_n_way g_n_seat g_n_shawls g_n_count g_n_steps g_n_numbers g_past_count x22 g_m_shutBits_25 g_m_airs_26 g_m_crownedBits_27 g_m_sitters_28 g_m_onBits_29 g_m_turn_30 g_m_taken_31 g_m_warmth_32 g_m_kind_33 g_m_figure_34 g_m_airCell_35 g_m_way_36 g_m_seat_37 g_m_shawls_38 g_m_count_39 g_m_steps_40 g_m_numbers_41 = some (z0, z1, z2, z3, z4, z5, z6, z7, z8, z9, z10, z11, z12, z13, z14, z15, z16, z17, z18, z19, z20, z21, z22, z23, z24, z25, z26, z27, z28, z29, z30, z31, z32, z33, z34, z35, z36) → ∀ (H : Heap) (locs : List Loc), va_P D vwCl (w_X6_house y a g_hasImage g_toldCount g_n_shutBits g_n_airs g_n_crownedBits g_n_sitters g_n_onBits g_n_turn g_n_taken g_n_warmth g_n_kind g_n_figure g_n_airCell g_n_way g_n_seat g_n_shawls g_n_count g_n_steps g_n_numbers g_m_shutBits_25 g_m_airs_26 g_m_crownedBits_27 g_m_sitters_28 g_m_onBits_29 g_m_turn_30 g_m_taken_31 g_m_warmth_32 g_m_kind_33 g_m_figure_34 g_m_airCell_35 g_m_way_36 g_m_seat_37 g_m_shawls_38 g_m_count_39 g_m_steps_40 g_m_numbers_41 g_past_next g_past_count g_text_length g_text_letters) H → va_D A (w_X6_house y a g_hasImage g_toldCount g_n_shutBits g_n_airs g_n_crownedBits g_n_sitters g_n_onBits g_n_turn g_n_taken g_n_warmth g_n_kind g_n_figure g_n_airCell g_n_way g_n_seat g_n_shawls g_n_count g_n_steps g_n_numbers g_m_shutBits_25 g_m_airs_26 g_m_crownedBits_27 g_m_sitters_28 g_m_onBits_29 g_m_turn_30 g_m_taken_31 g_m_warmth_32 g_m_kind_33 g_m_figure_34 g_m_airCell_35 g_m_way_36 g_m_seat_37 g_m_shawls_38 g_m_count_39 g_m_steps_40 g_m_numbers_41 g_past_next g_past_count g_text_length g_text_letters) → va_S A s.heap H locs → ∀ ls : Array Slot, lv_has ls 5 [(0, .ref (a 0)), (2, .int x22)] → W p l e ({ frames := 6, cells := 0, slots := 0, locals := 141 } : Room) s m [.ref (a 0)].toArray below meth c H locs 0 0 (MQ below (dQ D y (some (.int z0)) s.heap.size (w_X6_house y a g_hasImage g_toldCount g_n_shutBits g_n_airs g_n_crownedBits g_n_sitters g_n_onBits g_n_turn g_n_taken g_n_warmth g_n_kind g_n_figure g_n_airCell g_n_way g_n_seat g_n_shawls g_n_count g_n_steps g_n_numbers g_m_shutBits g_m_airs g_m_crownedBits g_m_sitters g_m_onBits g_m_turn g_m_taken g_m_warmth g_m_kind g_m_figure g_m_airCell g_m_way g_m_seat g_m_shawls g_m_count g_m_steps g_m_numbers g_past_next g_past_count g_text_length g_text_letters) (w_X6_house y a g_hasImage g_toldCount z1 z2 z3 z4 z5 z6 z7 z8 z9 z10 z11 z12 z13 z14 z15 z16 z17 z18 z19 z20 z21 z22 z23 z24 z25 z26 z27 z28 z29 z30 z31 z32 z33 z34 g_past_next z35 z36 g_text_letters)) [.ref (a 0)].toArray s 0 0 A) (F0 m 90 ls []) := by
          intro  hf H locs hP hD hS ls hl
          unfold f_X6_house_b90 at hf
          refine lv_iload_n hx hb dX6_house_90 rfl (lv_at hl 1 rfl) ?_
          refine lv_if_lt (tgt := 112) hx hb dX6_house_91 (by decide) (fun c42 => ?_) (fun c42 => ?_)
          · have hf := dq_t hf c42
            clear c42
            refine lv_aload_n hx hb dX6_house_112 rfl (lv_at hl 0 rfl) ?_
            refine va_get (D := D) (ci := 5) (v := .ref (a 124)) (C := RX6) (T := TX6) (N := 12) hx hb hts hiX6 hown hK hP 0 rfl rfl 5 (by decide) hw1 (fun _ h9 => h9) rfl dX6_house_113 ?_
            refine lv_iconst (v := 0) hx hb dX6_house_116 (by decide) ?_
            refine va_put (D := D) (ci := 4) (v := .int (0 : Int32)) (ty := .int) (C := RX5) (T := TX5) (N := 2) hx hb hts hiX5 tyX5 tyX5_ok nmX5 hown hK hP hD hS 24 rfl rfl 1 (by decide) hw5 (fun _ h9 => h9) rfl (tyX5_ok 1 (by decide)) rfl rfl (Nat.le_of_ble_eq_true rfl) dX6_house_117 (fun H locs hP hD hS => ?_)
            have hP : va_P D vwCl (w_X6_house y a g_hasImage g_toldCount g_n_shutBits g_n_airs g_n_crownedBits g_n_sitters g_n_onBits g_n_turn g_n_taken g_n_warmth g_n_kind g_n_figure g_n_airCell g_n_way g_n_seat g_n_shawls g_n_count g_n_steps g_n_numbers g_m_shutBits_25 g_m_airs_26 g_m_crownedBits_27 g_m_sitters_28 g_m_onBits_29 g_m_turn_30 g_m_taken_31 g_m_warmth_32 g_m_kind_33 g_m_figure_34 g_m_airCell_35 g_m_way_36 g_m_seat_37 g_m_shawls_38 g_m_count_39 g_m_steps_40 g_m_numbers_41 g_past_next g_past_count (0 : Int32) g_text_letters) H := hP
            have hD : va_D A (w_X6_house y a g_hasImage g_toldCount g_n_shutBits g_n_airs g_n_crownedBits g_n_sitters g_n_onBits g_n_turn g_n_taken g_n_warmth g_n_kind g_n_figure g_n_airCell g_n_way g_n_seat g_n_shawls g_n_count g_n_steps g_n_numbers g_m_shutBits_25 g_m_airs_26 g_m_crownedBits_27 g_m_sitters_28 g_m_onBits_29 g_m_turn_30 g_m_taken_31 g_m_warmth_32 g_m_kind_33 g_m_figure_34 g_m_airCell_35 g_m_way_36 g_m_seat_37 g_m_shawls_38 g_m_count_39 g_m_steps_40 g_m_numbers_41 g_past_next g_past_count (0 : Int32) g_text_letters) := hD
            refine lv_iload_n hx hb dX6_house_120 rfl (lv_at hl 1 rfl) ?_
            obtain ⟨rfl, rfl, rfl, rfl, rfl, rfl, rfl, rfl, rfl, rfl, rfl, rfl, rfl, rfl, rfl, rfl, rfl, rfl, rfl, rfl, rfl, rfl, rfl, rfl, rfl, rfl, rfl, rfl, rfl, rfl, rfl, rfl, rfl, rfl, rfl, rfl, rfl⟩ := dq_r37 hf
            exact ct_iret hx hb hr hlocks hAe hP hK hD hS dX6_house_121
          · have hf := dq_f hf c42
            clear c42
            refine lv_aload_n hx hb dX6_house_94 rfl (lv_at hl 0 rfl) ?_
            refine va_get (D := D) (ci := 5) (v := .ref (a 1)) (C := RX6) (T := TX6) (N := 12) hx hb hts hiX6 hown hK hP 0 rfl rfl 0 (by decide) hw3 (fun _ h9 => h9) rfl dX6_house_95 ?_
            refine lv_aload_n hx hb dX6_house_98 rfl (lv_at hl 0 rfl) ?_
            refine va_get (D := D) (ci := 5) (v := .ref (a 12)) (C := RX6) (T := TX6) (N := 12) hx hb hts hiX6 hown hK hP 0 rfl rfl 1 (by decide) hw2 (fun _ h9 => h9) rfl dX6_house_99 ?_
            obtain ⟨g_n_shutBits_43, g_n_airs_44, g_n_crownedBits_45, g_n_sitters_46, g_n_onBits_47, g_n_turn_48, g_n_taken_49, g_n_warmth_50, g_n_kind_51, g_n_figure_52, g_n_airCell_53, g_n_way_54, g_n_seat_55, g_n_shawls_56, g_n_count_57, g_n_steps_58, g_n_numbers_59, hy60, hf⟩ := dq_b17 hf
            refine ct_callV (ci := 1) (q0 := 0) (own := RX6) (As := [.ref (a 12)]) (rest := []) (ws' := (w_X6_house y a g_hasImage g_toldCount g_n_shutBits_43 g_n_airs_44 g_n_crownedBits_45 g_n_sitters_46 g_n_onBits_47 g_n_turn_48 g_n_taken_49 g_n_warmth_50 g_n_kind_51 g_n_figure_52 g_n_airCell_53 g_n_way_54 g_n_seat_55 g_n_shawls_56 g_n_count_57 g_n_steps_58 g_n_numbers_59 g_m_shutBits_25 g_m_airs_26 g_m_crownedBits_27 g_m_sitters_28 g_m_onBits_29 g_m_turn_30 g_m_taken_31 g_m_warmth_32 g_m_kind_33 g_m_figure_34 g_m_airCell_35 g_m_way_36 g_m_seat_37 g_m_shawls_38 g_m_count_39 g_m_steps_40 g_m_numbers_41 g_past_next g_past_count g_text_length g_text_letters)) ⟨hx, hb, hml, hown, hts⟩ (m_X2_take l D y (fun k => a (1 + k)) (fun k => a (12 + k)) g_n_shutBits g_n_airs g_n_crownedBits g_n_sitters g_n_onBits g_n_turn g_n_taken g_n_warmth g_n_kind g_n_figure g_n_airCell g_n_way g_n_seat g_n_shawls g_n_count g_n_steps g_n_numbers g_m_shutBits_25 g_m_airs_26 g_m_crownedBits_27 g_m_sitters_28 g_m_onBits_29 g_m_turn_30 g_m_taken_31 g_m_warmth_32 g_m_kind_33 g_m_figure_34 g_m_airCell_35 g_m_way_36 g_m_seat_37 g_m_shawls_38 g_m_count_39 g_m_steps_40 g_m_numbers_41 g_n_shutBits_43 g_n_airs_44 g_n_crownedBits_45 g_n_sitters_46 g_n_onBits_47 g_n_turn_48 g_n_taken_49 g_n_warmth_50 g_n_kind_51 g_n_figure_52 g_n_airCell_53 g_n_way_54 g_n_seat_55 g_n_shawls_56 g_n_count_57 g_n_steps_58 g_n_numbers_59 hy60) (cwV 1 hts gX6_house_X2_take rfl rfl rfl (by decide +kernel) ⟨Nat.le_of_ble_eq_true rfl, Nat.le_of_ble_eq_true rfl⟩) rfl rfl rfl hl.1 rfl (Nat.le_of_ble_eq_true rfl) dX6_house_102 ⟨Nat.zero_le _, Nat.zero_le _⟩ hK hP hD hS hA [1, 2, 3, 4, 5, 6, 7, 8, 9, 10, 11, 12, 13, 14, 15, 16, 17, 18, 19, 20, 21, 22] [0, 23, 24, 25] rfl rfl rfl (by decide) (by decide) 26 rfl (by decide +kernel) (fun H locs hP hD hS => ?_)
            refine lv_aload_n hx hb dX6_house_105 rfl (lv_at hl 0 rfl) ?_
            refine va_get (D := D) (ci := 5) (v := .ref (a 34)) (C := RX6) (T := TX6) (N := 12) hx hb hts hiX6 hown hK hP 0 rfl rfl 4 (by decide) hw4 (fun _ h9 => h9) rfl dX6_house_106 ?_
            obtain ⟨g_past_count_61, hy62, hf⟩ := dq_b hf
            refine ct_callV (ci := 2) (q0 := 0) (own := RX6) (As := []) (rest := []) (ws' := (w_X6_house y a g_hasImage g_toldCount g_n_shutBits_43 g_n_airs_44 g_n_crownedBits_45 g_n_sitters_46 g_n_onBits_47 g_n_turn_48 g_n_taken_49 g_n_warmth_50 g_n_kind_51 g_n_figure_52 g_n_airCell_53 g_n_way_54 g_n_seat_55 g_n_shawls_56 g_n_count_57 g_n_steps_58 g_n_numbers_59 g_m_shutBits_25 g_m_airs_26 g_m_crownedBits_27 g_m_sitters_28 g_m_onBits_29 g_m_turn_30 g_m_taken_31 g_m_warmth_32 g_m_kind_33 g_m_figure_34 g_m_airCell_35 g_m_way_36 g_m_seat_37 g_m_shawls_38 g_m_count_39 g_m_steps_40 g_m_numbers_41 g_past_next g_past_count_61 g_text_length g_text_letters)) ⟨hx, hb, hml, hown, hts⟩ (m_X3_forget l D y (fun k => a (34 + k)) g_past_next g_past_count g_past_count_61 hy62) (cwV 0 hts gX6_house_X3_forget rfl rfl rfl (by decide +kernel) ⟨Nat.le_of_ble_eq_true rfl, Nat.le_of_ble_eq_true rfl⟩) rfl rfl rfl hl.1 rfl (Nat.le_of_ble_eq_true rfl) dX6_house_109 ⟨Nat.zero_le _, Nat.zero_le _⟩ hK hP hD hS hA [23] [0, 1, 2, 3, 4, 5, 6, 7, 8, 9, 10, 11, 12, 13, 14, 15, 16, 17, 18, 19, 20, 21, 22, 24, 25] rfl rfl rfl (by decide) (by decide) 26 rfl (by decide +kernel) (fun H locs hP hD hS => ?_)
            refine lv_aload_n hx hb dX6_house_112 rfl (lv_at hl 0 rfl) ?_
            refine va_get (D := D) (ci := 5) (v := .ref (a 124)) (C := RX6) (T := TX6) (N := 12) hx hb hts hiX6 hown hK hP 0 rfl rfl 5 (by decide) hw1 (fun _ h9 => h9) rfl dX6_house_113 ?_
            refine lv_iconst (v := 0) hx hb dX6_house_116 (by decide) ?_
            refine va_put (D := D) (ci := 4) (v := .int (0 : Int32)) (ty := .int) (C := RX5) (T := TX5) (N := 2) hx hb hts hiX5 tyX5 tyX5_ok nmX5 hown hK hP hD hS 24 rfl rfl 1 (by decide) hw5 (fun _ h9 => h9) rfl (tyX5_ok 1 (by decide)) rfl rfl (Nat.le_of_ble_eq_true rfl) dX6_house_117 (fun H locs hP hD hS => ?_)
            have hP : va_P D vwCl (w_X6_house y a g_hasImage g_toldCount g_n_shutBits_43 g_n_airs_44 g_n_crownedBits_45 g_n_sitters_46 g_n_onBits_47 g_n_turn_48 g_n_taken_49 g_n_warmth_50 g_n_kind_51 g_n_figure_52 g_n_airCell_53 g_n_way_54 g_n_seat_55 g_n_shawls_56 g_n_count_57 g_n_steps_58 g_n_numbers_59 g_m_shutBits_25 g_m_airs_26 g_m_crownedBits_27 g_m_sitters_28 g_m_onBits_29 g_m_turn_30 g_m_taken_31 g_m_warmth_32 g_m_kind_33 g_m_figure_34 g_m_airCell_35 g_m_way_36 g_m_seat_37 g_m_shawls_38 g_m_count_39 g_m_steps_40 g_m_numbers_41 g_past_next g_past_count_61 (0 : Int32) g_text_letters) H := hP
            have hD : va_D A (w_X6_house y a g_hasImage g_toldCount g_n_shutBits_43 g_n_airs_44 g_n_crownedBits_45 g_n_sitters_46 g_n_onBits_47 g_n_turn_48 g_n_taken_49 g_n_warmth_50 g_n_kind_51 g_n_figure_52 g_n_airCell_53 g_n_way_54 g_n_seat_55 g_n_shawls_56 g_n_count_57 g_n_steps_58 g_n_numbers_59 g_m_shutBits_25 g_m_airs_26 g_m_crownedBits_27 g_m_sitters_28 g_m_onBits_29 g_m_turn_30 g_m_taken_31 g_m_warmth_32 g_m_kind_33 g_m_figure_34 g_m_airCell_35 g_m_way_36 g_m_seat_37 g_m_shawls_38 g_m_count_39 g_m_steps_40 g_m_numbers_41 g_past_next g_past_count_61 (0 : Int32) g_text_letters) := hD
            refine lv_iload_n hx hb dX6_house_120 rfl (lv_at hl 1 rfl) ?_
            obtain ⟨rfl, rfl, rfl, rfl, rfl, rfl, rfl, rfl, rfl, rfl, rfl, rfl, rfl, rfl, rfl, rfl, rfl, rfl, rfl, rfl, rfl, rfl, rfl, rfl, rfl, rfl, rfl, rfl, rfl, rfl, rfl, rfl, rfl, rfl, rfl, rfl, rfl⟩ := dq_r37 hf
            exact ct_iret hx hb hr hlocks hAe hP hK hD hS dX6_house_121
        refine lv_icmp_ge (tgt := 90) hx hb dX6_house_44 (by decide) (fun c63 => ?_) (fun c63 => ?_)
        · have hf := dq_t hf c63
          clear c63
          exact J90  hf _ _ hP hD hS _ (lv_sub hl [0, 2] rfl)
        · have hf := dq_f hf c63
          clear c63
          refine lv_iload_n hx hb dX6_house_47 rfl (lv_at hl 2 rfl) ?_
          refine lv_if_lt (tgt := 90) hx hb dX6_house_48 (by decide) (fun c64 => ?_) (fun c64 => ?_)
          · have hf := dq_t hf c64
            clear c64
            exact J90  hf _ _ hP hD hS _ (lv_sub hl [0, 2] rfl)
          · have hf := dq_f hf c64
            clear c64
            refine lv_aload_n hx hb dX6_house_51 rfl (lv_at hl 0 rfl) ?_
            refine va_get (D := D) (ci := 5) (v := .ref (a 124)) (C := RX6) (T := TX6) (N := 12) hx hb hts hiX6 hown hK hP 0 rfl rfl 5 (by decide) hw1 (fun _ h9 => h9) rfl dX6_house_52 ?_
            refine lv_iload_n hx hb dX6_house_55 rfl (lv_at hl 3 rfl) ?_
            refine lv_aload_n hx hb dX6_house_56 rfl (lv_at hl 0 rfl) ?_
            refine va_get (D := D) (ci := 5) (v := .ref (a 12)) (C := RX6) (T := TX6) (N := 12) hx hb hts hiX6 hown hK hP 0 rfl rfl 1 (by decide) hw2 (fun _ h9 => h9) rfl dX6_house_57 ?_
            obtain ⟨x65, g_m_shutBits_66, g_m_airs_67, g_m_crownedBits_68, g_m_sitters_69, g_m_onBits_70, g_m_turn_71, g_m_taken_72, g_m_warmth_73, g_m_kind_74, g_m_figure_75, g_m_airCell_76, g_m_way_77, g_m_seat_78, g_m_shawls_79, g_m_count_80, g_m_steps_81, g_m_numbers_82, hy83, hf⟩ := dq_b18 hf
            refine ct_callV (ci := 4) (q0 := 0) (own := RX6) (As := [.int x23, .ref (a 12)]) (rest := []) (ws' := (w_X6_house y a g_hasImage g_toldCount g_n_shutBits g_n_airs g_n_crownedBits g_n_sitters g_n_onBits g_n_turn g_n_taken g_n_warmth g_n_kind g_n_figure g_n_airCell g_n_way g_n_seat g_n_shawls g_n_count g_n_steps g_n_numbers g_m_shutBits_66 g_m_airs_67 g_m_crownedBits_68 g_m_sitters_69 g_m_onBits_70 g_m_turn_71 g_m_taken_72 g_m_warmth_73 g_m_kind_74 g_m_figure_75 g_m_airCell_76 g_m_way_77 g_m_seat_78 g_m_shawls_79 g_m_count_80 g_m_steps_81 g_m_numbers_82 g_past_next g_past_count g_text_length g_text_letters)) ⟨hx, hb, hml, hown, hts⟩ (m_X5_tell l D y (fun k => a (124 + k)) (fun k => a (12 + k)) g_text_length g_text_letters g_m_shutBits_25 g_m_airs_26 g_m_crownedBits_27 g_m_sitters_28 g_m_onBits_29 g_m_turn_30 g_m_taken_31 g_m_warmth_32 g_m_kind_33 g_m_figure_34 g_m_airCell_35 g_m_way_36 g_m_seat_37 g_m_shawls_38 g_m_count_39 g_m_steps_40 g_m_numbers_41 x23 x65 g_m_shutBits_66 g_m_airs_67 g_m_crownedBits_68 g_m_sitters_69 g_m_onBits_70 g_m_turn_71 g_m_taken_72 g_m_warmth_73 g_m_kind_74 g_m_figure_75 g_m_airCell_76 g_m_way_77 g_m_seat_78 g_m_shawls_79 g_m_count_80 g_m_steps_81 g_m_numbers_82 hy83) (cwV 2 hts gX6_house_X5_tell rfl rfl rfl (by decide +kernel) ⟨Nat.le_of_ble_eq_true rfl, Nat.le_of_ble_eq_true rfl⟩) rfl rfl rfl hl.1 rfl (Nat.le_of_ble_eq_true rfl) dX6_house_60 ⟨Nat.zero_le _, Nat.zero_le _⟩ hK hP hD hS hA [24, 25, 12, 13, 14, 15, 16, 17, 18, 19, 20, 21, 22] [0, 1, 2, 3, 4, 5, 6, 7, 8, 9, 10, 11, 23] rfl rfl rfl (by decide) (by decide) 26 rfl (by decide +kernel) (fun H locs hP hD hS => ?_)
            refine lv_if_eq (tgt := 78) hx hb dX6_house_63 (by decide) (fun c84 => ?_) (fun c84 => ?_)
            · have hf := dq_t hf c84
              clear c84
              refine lv_sipush (v := -2000) hx hb dX6_house_78 (by decide) ?_
              refine lv_iload_n hx hb dX6_house_81 rfl (lv_at hl 3 rfl) ?_
              refine lv_isub hx hb dX6_house_82 ?_
              refine lv_topi (fun x85 ex85 => ?_)
              have hf := dq_l hf x85 ex85
              clear ex85
              refine lv_istore_n (lv' := [(2, .int x85), (0, .ref (a 0)), (1, .int x1), (3, .int x23), (4, .int x24)]) hx hb dX6_house_83 rfl hl (by decide) rfl (fun ls hl => ?_)
              obtain ⟨x86, ex86⟩ : ∃ z : Int32, z = (x24 + (1 : Int32)) := ⟨_, rfl⟩
              have hf := dq_l hf x86 ex86
              refine lv_iinc (v := x86) (lv' := [(4, .int x86), (2, .int x85), (0, .ref (a 0)), (1, .int x1), (3, .int x23)]) hx hb dX6_house_84 hl (k := 4) rfl (by rw [ex86]; rfl) (by decide) rfl (fun ls hl => ?_)
              clear ex86
              refine lv_goto (tgt := 41) hx hb dX6_house_87 (by decide) ?_
              exact I41 _ _ _ _ _ _ _ _ _ _ _ _ _ _ _ _ _ _ _ _ hf _ _ hP hD hS _ (lv_sub hl [2, 3, 1, 4, 0] rfl)
            · have hf := dq_f hf c84
              clear c84
              refine lv_aload_n hx hb dX6_house_66 rfl (lv_at hl 0 rfl) ?_
              refine va_get (D := D) (ci := 5) (v := .ref (a 124)) (C := RX6) (T := TX6) (N := 12) hx hb hts hiX6 hown hK hP 0 rfl rfl 5 (by decide) hw1 (fun _ h9 => h9) rfl dX6_house_67 ?_
              refine lv_iload_n hx hb dX6_house_70 rfl (lv_at hl 3 rfl) ?_
              obtain ⟨x87, hy88, hf⟩ := dq_b hf
              refine ct_callV (ci := 4) (q0 := 0) (own := RX6) (As := [.int x23]) (rest := []) (ws' := (w_X6_house y a g_hasImage g_toldCount g_n_shutBits g_n_airs g_n_crownedBits g_n_sitters g_n_onBits g_n_turn g_n_taken g_n_warmth g_n_kind g_n_figure g_n_airCell g_n_way g_n_seat g_n_shawls g_n_count g_n_steps g_n_numbers g_m_shutBits_66 g_m_airs_67 g_m_crownedBits_68 g_m_sitters_69 g_m_onBits_70 g_m_turn_71 g_m_taken_72 g_m_warmth_73 g_m_kind_74 g_m_figure_75 g_m_airCell_76 g_m_way_77 g_m_seat_78 g_m_shawls_79 g_m_count_80 g_m_steps_81 g_m_numbers_82 g_past_next g_past_count g_text_length g_text_letters)) ⟨hx, hb, hml, hown, hts⟩ (m_X5_statementEnd l D y (fun k => a (124 + k)) g_text_length g_text_letters x23 x87 hy88) (cwV 1 hts gX6_house_X5_statementEnd rfl rfl rfl (by decide +kernel) ⟨Nat.le_of_ble_eq_true rfl, Nat.le_of_ble_eq_true rfl⟩) rfl rfl rfl hl.1 rfl (Nat.le_of_ble_eq_true rfl) dX6_house_71 ⟨Nat.zero_le _, Nat.zero_le _⟩ hK hP hD hS hA [24, 25] [0, 1, 2, 3, 4, 5, 6, 7, 8, 9, 10, 11, 12, 13, 14, 15, 16, 17, 18, 19, 20, 21, 22, 23] rfl rfl rfl (by decide) (by decide) 26 rfl (by decide +kernel) (fun H locs hP hD hS => ?_)
              refine lv_istore_n (lv' := [(3, .int x87), (0, .ref (a 0)), (1, .int x1), (2, .int x22), (4, .int x24)]) hx hb dX6_house_74 rfl hl (by decide) rfl (fun ls hl => ?_)
              refine lv_goto (tgt := 84) hx hb dX6_house_75 (by decide) ?_
              obtain ⟨x89, ex89⟩ : ∃ z : Int32, z = (x24 + (1 : Int32)) := ⟨_, rfl⟩
              have hf := dq_l hf x89 ex89
              refine lv_iinc (v := x89) (lv' := [(4, .int x89), (3, .int x87), (0, .ref (a 0)), (1, .int x1), (2, .int x22)]) hx hb dX6_house_84 hl (k := 4) rfl (by rw [ex89]; rfl) (by decide) rfl (fun ls hl => ?_)
              clear ex89
              refine lv_goto (tgt := 41) hx hb dX6_house_87 (by decide) ?_
              exact I41 _ _ _ _ _ _ _ _ _ _ _ _ _ _ _ _ _ _ _ _ hf _ _ hP hD hS _ (lv_sub hl [2, 3, 4, 1, 0] rfl)
    exact J41 4096 _ _ _ _ _ _ _ _ _ _ _ _ _ _ _ _ _ _ _ _ hf _ _ hP hD hS _ (lv_sub hl [3, 4, 2, 1, 0] rfl)
  refine lv_if_ge (tgt := 23) hx hb dX6_house_9 (by decide) (fun c90 => ?_) (fun c90 => ?_)
  · have hf := dq_t hf c90
    clear c90
    refine lv_iload_n hx hb dX6_house_23 rfl (lv_at hl 0 rfl) ?_
    exact J24 _ hf _ _ hP hD hS _ (lv_sub hl [1, 0] rfl)
  · have hf := dq_f hf c90
    clear c90
    refine lv_sipush (v := -1000) hx hb dX6_house_12 (by decide) ?_
    refine lv_iload_n hx hb dX6_house_15 rfl (lv_at hl 0 rfl) ?_
    obtain ⟨x91, hy92, hf⟩ := dq_b hf
    refine ct_callS0 (own := RX6) (As := [.int x1]) (rest := [.int (-1000 : Int32)]) ⟨hx, hb, hml, hown, hts⟩ (m_X5_placeOf l D y x1 x91 hy92) (va_cwS 1 hts gX6_house_X5_placeOf rfl rfl rfl (by decide +kernel) ⟨Nat.le_of_ble_eq_true rfl, Nat.le_of_ble_eq_true rfl⟩) rfl hl.1 rfl (Nat.le_of_ble_eq_true rfl) dX6_house_16 ⟨Nat.zero_le _, Nat.zero_le _⟩ hK hP hD hS hA (fun H locs hP hD hS => ?_)
    refine lv_isub hx hb dX6_house_19 ?_
    refine lv_goto (tgt := 24) hx hb dX6_house_20 (by decide) ?_
    exact J24 _ hf _ _ hP hD hS _ (lv_sub hl [1, 0] rfl)
def w_X6_isAir (y : Nat → ClassId) (a : Nat → Nat) (g_hasImage : Int32) (g_toldCount : Int32) (g_n_shutBits : Int64) (g_n_airs : Int32) (g_n_crownedBits : Int32) (g_n_sitters : Int32) (g_n_onBits : Int32) (g_n_turn : Int32) (g_n_taken : Int32) (g_n_warmth : (Nat → UInt32)) (g_n_kind : (Nat → Int32)) (g_n_figure : (Nat → Int32)) (g_n_airCell : (Nat → Int32)) (g_n_way : (Nat → Int32)) (g_n_seat : (Nat → Int32)) (g_n_shawls : (Nat → Int32)) (g_n_count : Int32) (g_n_steps : (Nat → Int32)) (g_n_numbers : (Nat → Int32)) : va_W := [((a 0), .inr (5, [.ref (a 1), .ref (a 12), .ref (a 23), .int g_hasImage, .ref (a 34), .ref (a 124), .ref (a 126), .ref (a 134), .int g_toldCount, .ref (a 135), .ref (a 136), .ref (a 137)])), ((a 1), .inr (1, [.ref (a 2), .long g_n_shutBits, .int g_n_airs, .ref (a 3), .ref (a 4), .ref (a 5), .ref (a 6), .int g_n_crownedBits, .int g_n_sitters, .ref (a 7), .ref (a 8), .int g_n_onBits, .int g_n_turn, .int g_n_taken, .ref (a 9)])), ((a 2), .inl (y 0, 36, .inr (.inr (.inl g_n_warmth)))), ((a 3), .inl (y 1, 5, .inl g_n_kind)), ((a 4), .inl (y 1, 5, .inl g_n_figure)), ((a 5), .inl (y 1, 5, .inl g_n_airCell)), ((a 6), .inl (y 1, 5, .inl g_n_way)), ((a 7), .inl (y 1, 6, .inl g_n_seat)), ((a 8), .inl (y 1, 6, .inl g_n_shawls)), ((a 9), .inr (0, [.ref (a 10), .ref (a 11), .int g_n_count])), ((a 10), .inl (y 1, 6, .inl g_n_steps)), ((a 11), .inl (y 1, 6, .inl g_n_numbers))]
noncomputable def f_X6_isAir (g_n_airs : Int32) (n0 : Int32) : Option Int32 := dq_if (n0 < 0) (some (0 : Int32)) (dq_if (g_n_airs ≤ n0) (some (0 : Int32)) (some (1 : Int32)))
-- DraughtsTake.isAir(I)Z
set_option maxHeartbeats 4000000 in
set_option maxRecDepth 100000 in
theorem m_X6_isAir (l : Launch) (D : va_G) (y : Nat → ClassId) (a : (Nat → Nat)) (g_hasImage : Int32) (g_toldCount : Int32) (g_n_shutBits : Int64) (g_n_airs : Int32) (g_n_crownedBits : Int32) (g_n_sitters : Int32) (g_n_onBits : Int32) (g_n_turn : Int32) (g_n_taken : Int32) (g_n_warmth : (Nat → UInt32)) (g_n_kind : (Nat → Int32)) (g_n_figure : (Nat → Int32)) (g_n_airCell : (Nat → Int32)) (g_n_way : (Nat → Int32)) (g_n_seat : (Nat → Int32)) (g_n_shawls : (Nat → Int32)) (g_n_count : Int32) (g_n_steps : (Nat → Int32)) (g_n_numbers : (Nat → Int32)) (n0 : Int32) (z0 : Int32) (hf : f_X6_isAir g_n_airs n0 = some z0) : Ct l D y yX6_isAir wsX6_isAir 0 0 [.ref (a 0), .int n0] (w_X6_isAir y a g_hasImage g_toldCount g_n_shutBits g_n_airs g_n_crownedBits g_n_sitters g_n_onBits g_n_turn g_n_taken g_n_warmth g_n_kind g_n_figure g_n_airCell g_n_way g_n_seat g_n_shawls g_n_count g_n_steps g_n_numbers) (w_X6_isAir y a g_hasImage g_toldCount g_n_shutBits g_n_airs g_n_crownedBits g_n_sitters g_n_onBits g_n_turn g_n_taken g_n_warmth g_n_kind g_n_figure g_n_airCell g_n_way g_n_seat g_n_shawls g_n_count g_n_steps g_n_numbers) (some (.int z0)) := by
  refine ct_head (cc := cX6_isAir) (n := 2) (ret := (some .boolean)) (by decide) rfl (Nat.le_of_ble_eq_true rfl) ?_
  intro p e s m below meth c A ls hx hb hr hml hown hlocks hts hA hAe hP hK hD hl
  have hS : va_S A s.heap s.heap [] := va_S.rf
  have hl : lv_has ls 2 [(0, .ref (a 0)), (1, .int n0)] := hl
  have hown : s.vm.findClass RX6 = some m.cls := hown
  have hw1 := hts (.fieldLink RX6 10 "DraughtsTake" "now" "LDraughtsTake$House;") (List.mem_of_getElem? (i := 1) rfl)
  have hw2 := hts (.fieldLink RX6 148 "DraughtsTake$House" "airs" "I") (List.mem_of_getElem? (i := 2) rfl)
  have hiX6 : ∀ w ∈ wsX60, w ∈ wsX6_isAir := fun w h => List.mem_cons_of_mem _ (List.mem_append_left _ (List.mem_append_right _ (h)))
  have hiX2 : ∀ w ∈ wsX20, w ∈ wsX6_isAir := fun w h => List.mem_cons_of_mem _ (List.mem_append_right _ (h))
  unfold f_X6_isAir at hf
  refine lv_iload_n hx hb dX6_isAir_0 rfl (lv_at hl 1 rfl) ?_
  refine lv_if_lt (tgt := 19) hx hb dX6_isAir_1 (by decide) (fun c1 => ?_) (fun c1 => ?_)
  · have hf := dq_t hf c1
    clear c1
    refine lv_iconst (v := 0) hx hb dX6_isAir_19 (by decide) ?_
    obtain rfl := dq_r1 hf
    exact ct_zret hx hb hr rfl hlocks hAe hP hK hD hS dX6_isAir_20
  · have hf := dq_f hf c1
    clear c1
    refine lv_iload_n hx hb dX6_isAir_4 rfl (lv_at hl 1 rfl) ?_
    refine lv_aload_n hx hb dX6_isAir_5 rfl (lv_at hl 0 rfl) ?_
    refine va_get (D := D) (ci := 5) (v := .ref (a 1)) (C := RX6) (T := TX6) (N := 12) hx hb hts hiX6 hown hK hP 0 rfl rfl 0 (by decide) hw1 (fun _ h9 => h9) rfl dX6_isAir_6 ?_
    refine va_get (D := D) (ci := 1) (v := .int g_n_airs) (C := RX2) (T := TX2) (N := 15) hx hb hts hiX2 hown hK hP 1 rfl rfl 2 (by decide) hw2 (fun _ h9 => h9) rfl dX6_isAir_9 ?_
    refine lv_icmp_ge (tgt := 19) hx hb dX6_isAir_12 (by decide) (fun c2 => ?_) (fun c2 => ?_)
    · have hf := dq_t hf c2
      clear c2
      refine lv_iconst (v := 0) hx hb dX6_isAir_19 (by decide) ?_
      obtain rfl := dq_r1 hf
      exact ct_zret hx hb hr rfl hlocks hAe hP hK hD hS dX6_isAir_20
    · have hf := dq_f hf c2
      clear c2
      refine lv_iconst (v := 1) hx hb dX6_isAir_15 (by decide) ?_
      refine lv_goto (tgt := 20) hx hb dX6_isAir_16 (by decide) ?_
      obtain rfl := dq_r1 hf
      exact ct_zret hx hb hr rfl hlocks hAe hP hK hD hS dX6_isAir_20
def w_X6_air (y : Nat → ClassId) (a : Nat → Nat) (g_hasImage : Int32) (g_toldCount : Int32) (g_n_shutBits : Int64) (g_n_airs : Int32) (g_n_crownedBits : Int32) (g_n_sitters : Int32) (g_n_onBits : Int32) (g_n_turn : Int32) (g_n_taken : Int32) (g_n_warmth : (Nat → UInt32)) (g_n_kind : (Nat → Int32)) (g_n_figure : (Nat → Int32)) (g_n_airCell : (Nat → Int32)) (g_n_way : (Nat → Int32)) (g_n_seat : (Nat → Int32)) (g_n_shawls : (Nat → Int32)) (g_n_count : Int32) (g_n_steps : (Nat → Int32)) (g_n_numbers : (Nat → Int32)) (g_refused : (Nat → Int32)) : va_W := [((a 0), .inr (5, [.ref (a 1), .ref (a 12), .ref (a 23), .int g_hasImage, .ref (a 34), .ref (a 124), .ref (a 126), .ref (a 134), .int g_toldCount, .ref (a 135), .ref (a 136), .ref (a 137)])), ((a 1), .inr (1, [.ref (a 2), .long g_n_shutBits, .int g_n_airs, .ref (a 3), .ref (a 4), .ref (a 5), .ref (a 6), .int g_n_crownedBits, .int g_n_sitters, .ref (a 7), .ref (a 8), .int g_n_onBits, .int g_n_turn, .int g_n_taken, .ref (a 9)])), ((a 2), .inl (y 0, 36, .inr (.inr (.inl g_n_warmth)))), ((a 3), .inl (y 1, 5, .inl g_n_kind)), ((a 4), .inl (y 1, 5, .inl g_n_figure)), ((a 5), .inl (y 1, 5, .inl g_n_airCell)), ((a 6), .inl (y 1, 5, .inl g_n_way)), ((a 7), .inl (y 1, 6, .inl g_n_seat)), ((a 8), .inl (y 1, 6, .inl g_n_shawls)), ((a 9), .inr (0, [.ref (a 10), .ref (a 11), .int g_n_count])), ((a 10), .inl (y 1, 6, .inl g_n_steps)), ((a 11), .inl (y 1, 6, .inl g_n_numbers)), ((a 135), .inl (y 1, 7, .inl g_refused))]
noncomputable def f_X6_air (g_n_airs : Int32) (g_n_crownedBits : Int32) (g_n_kind : (Nat → Int32)) (g_n_figure : (Nat → Int32)) (g_n_airCell : (Nat → Int32)) (g_n_way : (Nat → Int32)) (g_refused : (Nat → Int32)) (n0 : Int32) (n1 : Int32) : Option (Int32 × (Nat → Int32)) := dq_bd (f_X6_isAir g_n_airs n0) (fun (x1 : Int32) => dq_if (x1 = 0) (dq_bd2 (f_X6_refuse g_refused (-1 : Int32)) (fun (x24 : Int32) (g_refused_25 : (Nat → Int32)) => some (x24, g_refused_25))) (dq_if (n1 = 0) (dq_gd (vp_in n0 5) (some ((g_n_kind n0.toNatClampNeg), g_refused))) (dq_if (n1 = 1) (dq_gd (vp_in n0 5) (some ((g_n_figure n0.toNatClampNeg), g_refused))) (dq_if (n1 = 2) (dq_gd (vp_in n0 5) (some ((g_n_airCell n0.toNatClampNeg), g_refused))) (dq_if (n1 = 3) (dq_gd (vp_in n0 5) (some ((g_n_way n0.toNatClampNeg), g_refused))) (dq_if (n1 = 4) (dq_bd (f_X2_isCrowned g_n_crownedBits n0) (fun (x13 : Int32) => dq_if (x13 = 0) (some ((0 : Int32), g_refused)) (some ((1 : Int32), g_refused)))) (dq_if (n1 = 5) (dq_gd (vp_in n0 5) (dq_gd (vp_in n0 5) (dq_bd (f_X0_leaps (g_n_kind n0.toNatClampNeg) (g_n_figure n0.toNatClampNeg)) (fun (x19 : Int32) => some (x19, g_refused))))) (dq_bd2 (f_X6_refuse g_refused (-2 : Int32)) (fun (x21 : Int32) (g_refused_22 : (Nat → Int32)) => some (x21, g_refused_22))))))))))
-- DraughtsTake.air(II)I
set_option maxHeartbeats 4000000 in
set_option maxRecDepth 100000 in
theorem m_X6_air (l : Launch) (D : va_G) (y : Nat → ClassId) (a : (Nat → Nat)) (g_hasImage : Int32) (g_toldCount : Int32) (g_n_shutBits : Int64) (g_n_airs : Int32) (g_n_crownedBits : Int32) (g_n_sitters : Int32) (g_n_onBits : Int32) (g_n_turn : Int32) (g_n_taken : Int32) (g_n_warmth : (Nat → UInt32)) (g_n_kind : (Nat → Int32)) (g_n_figure : (Nat → Int32)) (g_n_airCell : (Nat → Int32)) (g_n_way : (Nat → Int32)) (g_n_seat : (Nat → Int32)) (g_n_shawls : (Nat → Int32)) (g_n_count : Int32) (g_n_steps : (Nat → Int32)) (g_n_numbers : (Nat → Int32)) (g_refused : (Nat → Int32)) (n0 : Int32) (n1 : Int32) (z0 : Int32) (z1 : (Nat → Int32)) (hf : f_X6_air g_n_airs g_n_crownedBits g_n_kind g_n_figure g_n_airCell g_n_way g_refused n0 n1 = some (z0, z1)) : Ct l D y yX6_air wsX6_air 2 42 [.ref (a 0), .int n0, .int n1] (w_X6_air y a g_hasImage g_toldCount g_n_shutBits g_n_airs g_n_crownedBits g_n_sitters g_n_onBits g_n_turn g_n_taken g_n_warmth g_n_kind g_n_figure g_n_airCell g_n_way g_n_seat g_n_shawls g_n_count g_n_steps g_n_numbers g_refused) (w_X6_air y a g_hasImage g_toldCount g_n_shutBits g_n_airs g_n_crownedBits g_n_sitters g_n_onBits g_n_turn g_n_taken g_n_warmth g_n_kind g_n_figure g_n_airCell g_n_way g_n_seat g_n_shawls g_n_count g_n_steps g_n_numbers z1) (some (.int z0)) := by
  refine ct_head (cc := cX6_air) (n := 3) (ret := (some .int)) (by decide) rfl (Nat.le_of_ble_eq_true rfl) ?_
  intro p e s m below meth c A ls hx hb hr hml hown hlocks hts hA hAe hP hK hD hl
  have hS : va_S A s.heap s.heap [] := va_S.rf
  have hl : lv_has ls 3 [(0, .ref (a 0)), (1, .int n0), (2, .int n1)] := hl
  have hown : s.vm.findClass RX6 = some m.cls := hown
  have hw1 := hts (.fieldLink RX6 10 "DraughtsTake" "now" "LDraughtsTake$House;") (List.mem_of_getElem? (i := 1) rfl)
  have hw2 := hts (.fieldLink RX6 92 "DraughtsTake$House" "kind" "[I") (List.mem_of_getElem? (i := 2) rfl)
  have hw3 := hts (.fieldLink RX6 95 "DraughtsTake$House" "figure" "[I") (List.mem_of_getElem? (i := 3) rfl)
  have hw4 := hts (.fieldLink RX6 98 "DraughtsTake$House" "airCell" "[I") (List.mem_of_getElem? (i := 4) rfl)
  have hw5 := hts (.fieldLink RX6 101 "DraughtsTake$House" "way" "[I") (List.mem_of_getElem? (i := 5) rfl)
  have hiX6 : ∀ w ∈ wsX60, w ∈ wsX6_air := fun w h => List.mem_cons_of_mem _ (List.mem_append_left _ (List.mem_append_right _ (h)))
  have hiX2 : ∀ w ∈ wsX20, w ∈ wsX6_air := fun w h => List.mem_cons_of_mem _ (List.mem_append_right _ (h))
  unfold f_X6_air at hf
  refine lv_aload_n hx hb dX6_air_0 rfl (lv_at hl 0 rfl) ?_
  refine lv_iload_n hx hb dX6_air_1 rfl (lv_at hl 1 rfl) ?_
  obtain ⟨x1, hy2, hf⟩ := dq_b hf
  refine ct_callV (ci := 5) (q0 := 0) (own := RX6) (As := [.int n0]) (rest := []) (ws' := (w_X6_air y a g_hasImage g_toldCount g_n_shutBits g_n_airs g_n_crownedBits g_n_sitters g_n_onBits g_n_turn g_n_taken g_n_warmth g_n_kind g_n_figure g_n_airCell g_n_way g_n_seat g_n_shawls g_n_count g_n_steps g_n_numbers g_refused)) ⟨hx, hb, hml, hown, hts⟩ (m_X6_isAir l D y a g_hasImage g_toldCount g_n_shutBits g_n_airs g_n_crownedBits g_n_sitters g_n_onBits g_n_turn g_n_taken g_n_warmth g_n_kind g_n_figure g_n_airCell g_n_way g_n_seat g_n_shawls g_n_count g_n_steps g_n_numbers n0 x1 hy2) (cwV 1 hts gX6_air_X6_isAir rfl rfl rfl (by decide +kernel) ⟨Nat.le_of_ble_eq_true rfl, Nat.le_of_ble_eq_true rfl⟩) rfl rfl rfl hl.1 rfl (Nat.le_of_ble_eq_true rfl) dX6_air_2 ⟨Nat.zero_le _, Nat.zero_le _⟩ hK hP hD hS hA [0, 1, 2, 3, 4, 5, 6, 7, 8, 9, 10, 11] [12] rfl rfl rfl (by decide) (by decide) 13 rfl (by decide +kernel) (fun H locs hP hD hS => ?_)
  refine lv_if_ne (tgt := 14) hx hb dX6_air_5 (by decide) (fun c3 => ?_) (fun c3 => ?_)
  · have hf := dq_f hf c3
    clear c3
    refine lv_iload_n hx hb dX6_air_14 rfl (lv_at hl 2 rfl) ?_
    by_cases c4 : n1 = (0 : Int32)
    · have hf := dq_t hf c4
      refine lv_tableIn (tgt := 52) (off := 37) hx hb dX6_air_15 (by rw [c4]; decide) (by rw [c4]; decide) (by rw [c4]; decide) (by decide) ?_
      clear c4
      refine lv_aload_n hx hb dX6_air_52 rfl (lv_at hl 0 rfl) ?_
      refine va_get (D := D) (ci := 5) (v := .ref (a 1)) (C := RX6) (T := TX6) (N := 12) hx hb hts hiX6 hown hK hP 0 rfl rfl 0 (by decide) hw1 (fun _ h9 => h9) rfl dX6_air_53 ?_
      refine va_get (D := D) (ci := 1) (v := .ref (a 3)) (C := RX2) (T := TX2) (N := 15) hx hb hts hiX2 hown hK hP 1 rfl rfl 3 (by decide) hw2 (fun _ h9 => h9) rfl dX6_air_56 ?_
      refine lv_iload_n hx hb dX6_air_59 rfl (lv_at hl 1 rfl) ?_
      obtain ⟨h5, hf⟩ := dq_g hf
      refine va_iald (cA := y 1) (n := 5) (f := g_n_kind) hx hb hK hP 3 1 rfl rfl h5 dX6_air_60 ?_
      obtain ⟨rfl, rfl⟩ := dq_r2 hf
      exact ct_iret hx hb hr hlocks hAe hP hK hD hS dX6_air_61
    have hf := dq_f hf c4
    by_cases c6 : n1 = (1 : Int32)
    · have hf := dq_t hf c6
      refine lv_tableIn (tgt := 62) (off := 47) hx hb dX6_air_15 (by rw [c6]; decide) (by rw [c6]; decide) (by rw [c6]; decide) (by decide) ?_
      clear c4 c6
      refine lv_aload_n hx hb dX6_air_62 rfl (lv_at hl 0 rfl) ?_
      refine va_get (D := D) (ci := 5) (v := .ref (a 1)) (C := RX6) (T := TX6) (N := 12) hx hb hts hiX6 hown hK hP 0 rfl rfl 0 (by decide) hw1 (fun _ h9 => h9) rfl dX6_air_63 ?_
      refine va_get (D := D) (ci := 1) (v := .ref (a 4)) (C := RX2) (T := TX2) (N := 15) hx hb hts hiX2 hown hK hP 1 rfl rfl 4 (by decide) hw3 (fun _ h9 => h9) rfl dX6_air_66 ?_
      refine lv_iload_n hx hb dX6_air_69 rfl (lv_at hl 1 rfl) ?_
      obtain ⟨h7, hf⟩ := dq_g hf
      refine va_iald (cA := y 1) (n := 5) (f := g_n_figure) hx hb hK hP 4 1 rfl rfl h7 dX6_air_70 ?_
      obtain ⟨rfl, rfl⟩ := dq_r2 hf
      exact ct_iret hx hb hr hlocks hAe hP hK hD hS dX6_air_71
    have hf := dq_f hf c6
    by_cases c8 : n1 = (2 : Int32)
    · have hf := dq_t hf c8
      refine lv_tableIn (tgt := 72) (off := 57) hx hb dX6_air_15 (by rw [c8]; decide) (by rw [c8]; decide) (by rw [c8]; decide) (by decide) ?_
      clear c4 c6 c8
      refine lv_aload_n hx hb dX6_air_72 rfl (lv_at hl 0 rfl) ?_
      refine va_get (D := D) (ci := 5) (v := .ref (a 1)) (C := RX6) (T := TX6) (N := 12) hx hb hts hiX6 hown hK hP 0 rfl rfl 0 (by decide) hw1 (fun _ h9 => h9) rfl dX6_air_73 ?_
      refine va_get (D := D) (ci := 1) (v := .ref (a 5)) (C := RX2) (T := TX2) (N := 15) hx hb hts hiX2 hown hK hP 1 rfl rfl 5 (by decide) hw4 (fun _ h9 => h9) rfl dX6_air_76 ?_
      refine lv_iload_n hx hb dX6_air_79 rfl (lv_at hl 1 rfl) ?_
      obtain ⟨h9, hf⟩ := dq_g hf
      refine va_iald (cA := y 1) (n := 5) (f := g_n_airCell) hx hb hK hP 5 1 rfl rfl h9 dX6_air_80 ?_
      obtain ⟨rfl, rfl⟩ := dq_r2 hf
      exact ct_iret hx hb hr hlocks hAe hP hK hD hS dX6_air_81
    have hf := dq_f hf c8
    by_cases c10 : n1 = (3 : Int32)
    · have hf := dq_t hf c10
      refine lv_tableIn (tgt := 82) (off := 67) hx hb dX6_air_15 (by rw [c10]; decide) (by rw [c10]; decide) (by rw [c10]; decide) (by decide) ?_
      clear c4 c6 c8 c10
      refine lv_aload_n hx hb dX6_air_82 rfl (lv_at hl 0 rfl) ?_
      refine va_get (D := D) (ci := 5) (v := .ref (a 1)) (C := RX6) (T := TX6) (N := 12) hx hb hts hiX6 hown hK hP 0 rfl rfl 0 (by decide) hw1 (fun _ h9 => h9) rfl dX6_air_83 ?_
      refine va_get (D := D) (ci := 1) (v := .ref (a 6)) (C := RX2) (T := TX2) (N := 15) hx hb hts hiX2 hown hK hP 1 rfl rfl 6 (by decide) hw5 (fun _ h9 => h9) rfl dX6_air_86 ?_
      refine lv_iload_n hx hb dX6_air_89 rfl (lv_at hl 1 rfl) ?_
      obtain ⟨h11, hf⟩ := dq_g hf
      refine va_iald (cA := y 1) (n := 5) (f := g_n_way) hx hb hK hP 6 1 rfl rfl h11 dX6_air_90 ?_
      obtain ⟨rfl, rfl⟩ := dq_r2 hf
      exact ct_iret hx hb hr hlocks hAe hP hK hD hS dX6_air_91
    have hf := dq_f hf c10
    by_cases c12 : n1 = (4 : Int32)
    · have hf := dq_t hf c12
      refine lv_tableIn (tgt := 92) (off := 77) hx hb dX6_air_15 (by rw [c12]; decide) (by rw [c12]; decide) (by rw [c12]; decide) (by decide) ?_
      clear c4 c6 c8 c10 c12
      refine lv_aload_n hx hb dX6_air_92 rfl (lv_at hl 0 rfl) ?_
      refine va_get (D := D) (ci := 5) (v := .ref (a 1)) (C := RX6) (T := TX6) (N := 12) hx hb hts hiX6 hown hK hP 0 rfl rfl 0 (by decide) hw1 (fun _ h9 => h9) rfl dX6_air_93 ?_
      refine lv_iload_n hx hb dX6_air_96 rfl (lv_at hl 1 rfl) ?_
      obtain ⟨x13, hy14, hf⟩ := dq_b hf
      refine ct_callV (ci := 1) (q0 := 0) (own := RX6) (As := [.int n0]) (rest := []) (ws' := (w_X6_air y a g_hasImage g_toldCount g_n_shutBits g_n_airs g_n_crownedBits g_n_sitters g_n_onBits g_n_turn g_n_taken g_n_warmth g_n_kind g_n_figure g_n_airCell g_n_way g_n_seat g_n_shawls g_n_count g_n_steps g_n_numbers g_refused)) ⟨hx, hb, hml, hown, hts⟩ (m_X2_isCrowned l D y (fun k => a (1 + k)) g_n_shutBits g_n_airs g_n_crownedBits g_n_sitters g_n_onBits g_n_turn g_n_taken g_n_warmth g_n_kind g_n_figure g_n_airCell g_n_way g_n_seat g_n_shawls g_n_count g_n_steps g_n_numbers n0 x13 hy14) (cwV 1 hts gX6_air_X2_isCrowned rfl rfl rfl (by decide +kernel) ⟨Nat.le_of_ble_eq_true rfl, Nat.le_of_ble_eq_true rfl⟩) rfl rfl rfl hl.1 rfl (Nat.le_of_ble_eq_true rfl) dX6_air_97 ⟨Nat.zero_le _, Nat.zero_le _⟩ hK hP hD hS hA [1, 2, 3, 4, 5, 6, 7, 8, 9, 10, 11] [0, 12] rfl rfl rfl (by decide) (by decide) 13 rfl (by decide +kernel) (fun H locs hP hD hS => ?_)
      refine lv_if_eq (tgt := 107) hx hb dX6_air_100 (by decide) (fun c15 => ?_) (fun c15 => ?_)
      · have hf := dq_t hf c15
        clear c15
        refine lv_iconst (v := 0) hx hb dX6_air_107 (by decide) ?_
        obtain ⟨rfl, rfl⟩ := dq_r2 hf
        exact ct_iret hx hb hr hlocks hAe hP hK hD hS dX6_air_108
      · have hf := dq_f hf c15
        clear c15
        refine lv_iconst (v := 1) hx hb dX6_air_103 (by decide) ?_
        refine lv_goto (tgt := 108) hx hb dX6_air_104 (by decide) ?_
        obtain ⟨rfl, rfl⟩ := dq_r2 hf
        exact ct_iret hx hb hr hlocks hAe hP hK hD hS dX6_air_108
    have hf := dq_f hf c12
    by_cases c16 : n1 = (5 : Int32)
    · have hf := dq_t hf c16
      refine lv_tableIn (tgt := 109) (off := 94) hx hb dX6_air_15 (by rw [c16]; decide) (by rw [c16]; decide) (by rw [c16]; decide) (by decide) ?_
      clear c4 c6 c8 c10 c12 c16
      refine lv_aload_n hx hb dX6_air_109 rfl (lv_at hl 0 rfl) ?_
      refine va_get (D := D) (ci := 5) (v := .ref (a 1)) (C := RX6) (T := TX6) (N := 12) hx hb hts hiX6 hown hK hP 0 rfl rfl 0 (by decide) hw1 (fun _ h9 => h9) rfl dX6_air_110 ?_
      refine va_get (D := D) (ci := 1) (v := .ref (a 3)) (C := RX2) (T := TX2) (N := 15) hx hb hts hiX2 hown hK hP 1 rfl rfl 3 (by decide) hw2 (fun _ h9 => h9) rfl dX6_air_113 ?_
      refine lv_iload_n hx hb dX6_air_116 rfl (lv_at hl 1 rfl) ?_
      obtain ⟨h17, hf⟩ := dq_g hf
      refine va_iald (cA := y 1) (n := 5) (f := g_n_kind) hx hb hK hP 3 1 rfl rfl h17 dX6_air_117 ?_
      refine lv_aload_n hx hb dX6_air_118 rfl (lv_at hl 0 rfl) ?_
      refine va_get (D := D) (ci := 5) (v := .ref (a 1)) (C := RX6) (T := TX6) (N := 12) hx hb hts hiX6 hown hK hP 0 rfl rfl 0 (by decide) hw1 (fun _ h9 => h9) rfl dX6_air_119 ?_
      refine va_get (D := D) (ci := 1) (v := .ref (a 4)) (C := RX2) (T := TX2) (N := 15) hx hb hts hiX2 hown hK hP 1 rfl rfl 4 (by decide) hw3 (fun _ h9 => h9) rfl dX6_air_122 ?_
      refine lv_iload_n hx hb dX6_air_125 rfl (lv_at hl 1 rfl) ?_
      obtain ⟨h18, hf⟩ := dq_g hf
      refine va_iald (cA := y 1) (n := 5) (f := g_n_figure) hx hb hK hP 4 1 rfl rfl h18 dX6_air_126 ?_
      obtain ⟨x19, hy20, hf⟩ := dq_b hf
      refine ct_callS0 (own := RX6) (As := [.int (g_n_kind n0.toNatClampNeg), .int (g_n_figure n0.toNatClampNeg)]) (rest := []) ⟨hx, hb, hml, hown, hts⟩ (m_X0_leaps l D y (g_n_kind n0.toNatClampNeg) (g_n_figure n0.toNatClampNeg) x19 hy20) (va_cwS 2 hts gX6_air_X0_leaps rfl rfl rfl (by decide +kernel) ⟨Nat.le_of_ble_eq_true rfl, Nat.le_of_ble_eq_true rfl⟩) rfl hl.1 rfl (Nat.le_of_ble_eq_true rfl) dX6_air_127 ⟨Nat.zero_le _, Nat.zero_le _⟩ hK hP hD hS hA (fun H locs hP hD hS => ?_)
      obtain ⟨rfl, rfl⟩ := dq_r2 hf
      exact ct_iret hx hb hr hlocks hAe hP hK hD hS dX6_air_130
    have hf := dq_f hf c16
    have c4 : n1.toInt ≠ 0 := fun q => c4 (Int32.toInt_inj.mp q)
    have c6 : n1.toInt ≠ 1 := fun q => c6 (Int32.toInt_inj.mp q)
    have c8 : n1.toInt ≠ 2 := fun q => c8 (Int32.toInt_inj.mp q)
    have c10 : n1.toInt ≠ 3 := fun q => c10 (Int32.toInt_inj.mp q)
    have c12 : n1.toInt ≠ 4 := fun q => c12 (Int32.toInt_inj.mp q)
    have c16 : n1.toInt ≠ 5 := fun q => c16 (Int32.toInt_inj.mp q)
    refine lv_tableOut (tgt := 131) hx hb dX6_air_15 (by omega) (by decide) ?_
    clear c4 c6 c8 c10 c12 c16
    refine lv_aload_n hx hb dX6_air_131 rfl (lv_at hl 0 rfl) ?_
    refine lv_bipush (v := -2) hx hb dX6_air_132 (by decide) ?_
    obtain ⟨x21, g_refused_22, hy23, hf⟩ := dq_b2 hf
    refine ct_callV (ci := 5) (q0 := 0) (own := RX6) (As := [.int (-2 : Int32)]) (rest := []) (ws' := (w_X6_air y a g_hasImage g_toldCount g_n_shutBits g_n_airs g_n_crownedBits g_n_sitters g_n_onBits g_n_turn g_n_taken g_n_warmth g_n_kind g_n_figure g_n_airCell g_n_way g_n_seat g_n_shawls g_n_count g_n_steps g_n_numbers g_refused_22)) ⟨hx, hb, hml, hown, hts⟩ (m_X6_refuse l D y a g_hasImage g_toldCount g_refused (-2 : Int32) x21 g_refused_22 hy23) (cwV 1 hts gX6_air_X6_refuse rfl rfl rfl (by decide +kernel) ⟨Nat.le_of_ble_eq_true rfl, Nat.le_of_ble_eq_true rfl⟩) rfl rfl rfl hl.1 rfl (Nat.le_of_ble_eq_true rfl) dX6_air_134 ⟨Nat.zero_le _, Nat.zero_le _⟩ hK hP hD hS hA [0, 12] [1, 2, 3, 4, 5, 6, 7, 8, 9, 10, 11] rfl rfl rfl (by decide) (by decide) 13 rfl (by decide +kernel) (fun H locs hP hD hS => ?_)
    obtain ⟨rfl, rfl⟩ := dq_r2 hf
    exact ct_iret hx hb hr hlocks hAe hP hK hD hS dX6_air_137
  · have hf := dq_t hf c3
    clear c3
    refine lv_aload_n hx hb dX6_air_8 rfl (lv_at hl 0 rfl) ?_
    refine lv_iconst (v := -1) hx hb dX6_air_9 (by decide) ?_
    obtain ⟨x24, g_refused_25, hy26, hf⟩ := dq_b2 hf
    refine ct_callV (ci := 5) (q0 := 0) (own := RX6) (As := [.int (-1 : Int32)]) (rest := []) (ws' := (w_X6_air y a g_hasImage g_toldCount g_n_shutBits g_n_airs g_n_crownedBits g_n_sitters g_n_onBits g_n_turn g_n_taken g_n_warmth g_n_kind g_n_figure g_n_airCell g_n_way g_n_seat g_n_shawls g_n_count g_n_steps g_n_numbers g_refused_25)) ⟨hx, hb, hml, hown, hts⟩ (m_X6_refuse l D y a g_hasImage g_toldCount g_refused (-1 : Int32) x24 g_refused_25 hy26) (cwV 1 hts gX6_air_X6_refuse rfl rfl rfl (by decide +kernel) ⟨Nat.le_of_ble_eq_true rfl, Nat.le_of_ble_eq_true rfl⟩) rfl rfl rfl hl.1 rfl (Nat.le_of_ble_eq_true rfl) dX6_air_10 ⟨Nat.zero_le _, Nat.zero_le _⟩ hK hP hD hS hA [0, 12] [1, 2, 3, 4, 5, 6, 7, 8, 9, 10, 11] rfl rfl rfl (by decide) (by decide) 13 rfl (by decide +kernel) (fun H locs hP hD hS => ?_)
    obtain ⟨rfl, rfl⟩ := dq_r2 hf
    exact ct_iret hx hb hr hlocks hAe hP hK hD hS dX6_air_13
def w_X6_isSitter (y : Nat → ClassId) (a : Nat → Nat) (g_hasImage : Int32) (g_toldCount : Int32) (g_n_shutBits : Int64) (g_n_airs : Int32) (g_n_crownedBits : Int32) (g_n_sitters : Int32) (g_n_onBits : Int32) (g_n_turn : Int32) (g_n_taken : Int32) (g_n_warmth : (Nat → UInt32)) (g_n_kind : (Nat → Int32)) (g_n_figure : (Nat → Int32)) (g_n_airCell : (Nat → Int32)) (g_n_way : (Nat → Int32)) (g_n_seat : (Nat → Int32)) (g_n_shawls : (Nat → Int32)) (g_n_count : Int32) (g_n_steps : (Nat → Int32)) (g_n_numbers : (Nat → Int32)) : va_W := [((a 0), .inr (5, [.ref (a 1), .ref (a 12), .ref (a 23), .int g_hasImage, .ref (a 34), .ref (a 124), .ref (a 126), .ref (a 134), .int g_toldCount, .ref (a 135), .ref (a 136), .ref (a 137)])), ((a 1), .inr (1, [.ref (a 2), .long g_n_shutBits, .int g_n_airs, .ref (a 3), .ref (a 4), .ref (a 5), .ref (a 6), .int g_n_crownedBits, .int g_n_sitters, .ref (a 7), .ref (a 8), .int g_n_onBits, .int g_n_turn, .int g_n_taken, .ref (a 9)])), ((a 2), .inl (y 0, 36, .inr (.inr (.inl g_n_warmth)))), ((a 3), .inl (y 1, 5, .inl g_n_kind)), ((a 4), .inl (y 1, 5, .inl g_n_figure)), ((a 5), .inl (y 1, 5, .inl g_n_airCell)), ((a 6), .inl (y 1, 5, .inl g_n_way)), ((a 7), .inl (y 1, 6, .inl g_n_seat)), ((a 8), .inl (y 1, 6, .inl g_n_shawls)), ((a 9), .inr (0, [.ref (a 10), .ref (a 11), .int g_n_count])), ((a 10), .inl (y 1, 6, .inl g_n_steps)), ((a 11), .inl (y 1, 6, .inl g_n_numbers))]
noncomputable def f_X6_isSitter (g_n_sitters : Int32) (n0 : Int32) : Option Int32 := dq_if (n0 < 0) (some (0 : Int32)) (dq_if (g_n_sitters ≤ n0) (some (0 : Int32)) (some (1 : Int32)))
-- DraughtsTake.isSitter(I)Z
set_option maxHeartbeats 4000000 in
set_option maxRecDepth 100000 in
theorem m_X6_isSitter (l : Launch) (D : va_G) (y : Nat → ClassId) (a : (Nat → Nat)) (g_hasImage : Int32) (g_toldCount : Int32) (g_n_shutBits : Int64) (g_n_airs : Int32) (g_n_crownedBits : Int32) (g_n_sitters : Int32) (g_n_onBits : Int32) (g_n_turn : Int32) (g_n_taken : Int32) (g_n_warmth : (Nat → UInt32)) (g_n_kind : (Nat → Int32)) (g_n_figure : (Nat → Int32)) (g_n_airCell : (Nat → Int32)) (g_n_way : (Nat → Int32)) (g_n_seat : (Nat → Int32)) (g_n_shawls : (Nat → Int32)) (g_n_count : Int32) (g_n_steps : (Nat → Int32)) (g_n_numbers : (Nat → Int32)) (n0 : Int32) (z0 : Int32) (hf : f_X6_isSitter g_n_sitters n0 = some z0) : Ct l D y yX6_isSitter wsX6_isSitter 0 0 [.ref (a 0), .int n0] (w_X6_isSitter y a g_hasImage g_toldCount g_n_shutBits g_n_airs g_n_crownedBits g_n_sitters g_n_onBits g_n_turn g_n_taken g_n_warmth g_n_kind g_n_figure g_n_airCell g_n_way g_n_seat g_n_shawls g_n_count g_n_steps g_n_numbers) (w_X6_isSitter y a g_hasImage g_toldCount g_n_shutBits g_n_airs g_n_crownedBits g_n_sitters g_n_onBits g_n_turn g_n_taken g_n_warmth g_n_kind g_n_figure g_n_airCell g_n_way g_n_seat g_n_shawls g_n_count g_n_steps g_n_numbers) (some (.int z0)) := by
  refine ct_head (cc := cX6_isSitter) (n := 2) (ret := (some .boolean)) (by decide) rfl (Nat.le_of_ble_eq_true rfl) ?_
  intro p e s m below meth c A ls hx hb hr hml hown hlocks hts hA hAe hP hK hD hl
  have hS : va_S A s.heap s.heap [] := va_S.rf
  have hl : lv_has ls 2 [(0, .ref (a 0)), (1, .int n0)] := hl
  have hown : s.vm.findClass RX6 = some m.cls := hown
  have hw1 := hts (.fieldLink RX6 10 "DraughtsTake" "now" "LDraughtsTake$House;") (List.mem_of_getElem? (i := 1) rfl)
  have hw2 := hts (.fieldLink RX6 155 "DraughtsTake$House" "sitters" "I") (List.mem_of_getElem? (i := 2) rfl)
  have hiX6 : ∀ w ∈ wsX60, w ∈ wsX6_isSitter := fun w h => List.mem_cons_of_mem _ (List.mem_append_left _ (List.mem_append_right _ (h)))
  have hiX2 : ∀ w ∈ wsX20, w ∈ wsX6_isSitter := fun w h => List.mem_cons_of_mem _ (List.mem_append_right _ (h))
  unfold f_X6_isSitter at hf
  refine lv_iload_n hx hb dX6_isSitter_0 rfl (lv_at hl 1 rfl) ?_
  refine lv_if_lt (tgt := 19) hx hb dX6_isSitter_1 (by decide) (fun c1 => ?_) (fun c1 => ?_)
  · have hf := dq_t hf c1
    clear c1
    refine lv_iconst (v := 0) hx hb dX6_isSitter_19 (by decide) ?_
    obtain rfl := dq_r1 hf
    exact ct_zret hx hb hr rfl hlocks hAe hP hK hD hS dX6_isSitter_20
  · have hf := dq_f hf c1
    clear c1
    refine lv_iload_n hx hb dX6_isSitter_4 rfl (lv_at hl 1 rfl) ?_
    refine lv_aload_n hx hb dX6_isSitter_5 rfl (lv_at hl 0 rfl) ?_
    refine va_get (D := D) (ci := 5) (v := .ref (a 1)) (C := RX6) (T := TX6) (N := 12) hx hb hts hiX6 hown hK hP 0 rfl rfl 0 (by decide) hw1 (fun _ h9 => h9) rfl dX6_isSitter_6 ?_
    refine va_get (D := D) (ci := 1) (v := .int g_n_sitters) (C := RX2) (T := TX2) (N := 15) hx hb hts hiX2 hown hK hP 1 rfl rfl 8 (by decide) hw2 (fun _ h9 => h9) rfl dX6_isSitter_9 ?_
    refine lv_icmp_ge (tgt := 19) hx hb dX6_isSitter_12 (by decide) (fun c2 => ?_) (fun c2 => ?_)
    · have hf := dq_t hf c2
      clear c2
      refine lv_iconst (v := 0) hx hb dX6_isSitter_19 (by decide) ?_
      obtain rfl := dq_r1 hf
      exact ct_zret hx hb hr rfl hlocks hAe hP hK hD hS dX6_isSitter_20
    · have hf := dq_f hf c2
      clear c2
      refine lv_iconst (v := 1) hx hb dX6_isSitter_15 (by decide) ?_
      refine lv_goto (tgt := 20) hx hb dX6_isSitter_16 (by decide) ?_
      obtain rfl := dq_r1 hf
      exact ct_zret hx hb hr rfl hlocks hAe hP hK hD hS dX6_isSitter_20
def w_X6_sitter (y : Nat → ClassId) (a : Nat → Nat) (g_hasImage : Int32) (g_toldCount : Int32) (g_n_shutBits : Int64) (g_n_airs : Int32) (g_n_crownedBits : Int32) (g_n_sitters : Int32) (g_n_onBits : Int32) (g_n_turn : Int32) (g_n_taken : Int32) (g_n_warmth : (Nat → UInt32)) (g_n_kind : (Nat → Int32)) (g_n_figure : (Nat → Int32)) (g_n_airCell : (Nat → Int32)) (g_n_way : (Nat → Int32)) (g_n_seat : (Nat → Int32)) (g_n_shawls : (Nat → Int32)) (g_n_count : Int32) (g_n_steps : (Nat → Int32)) (g_n_numbers : (Nat → Int32)) (g_refused : (Nat → Int32)) : va_W := [((a 0), .inr (5, [.ref (a 1), .ref (a 12), .ref (a 23), .int g_hasImage, .ref (a 34), .ref (a 124), .ref (a 126), .ref (a 134), .int g_toldCount, .ref (a 135), .ref (a 136), .ref (a 137)])), ((a 1), .inr (1, [.ref (a 2), .long g_n_shutBits, .int g_n_airs, .ref (a 3), .ref (a 4), .ref (a 5), .ref (a 6), .int g_n_crownedBits, .int g_n_sitters, .ref (a 7), .ref (a 8), .int g_n_onBits, .int g_n_turn, .int g_n_taken, .ref (a 9)])), ((a 2), .inl (y 0, 36, .inr (.inr (.inl g_n_warmth)))), ((a 3), .inl (y 1, 5, .inl g_n_kind)), ((a 4), .inl (y 1, 5, .inl g_n_figure)), ((a 5), .inl (y 1, 5, .inl g_n_airCell)), ((a 6), .inl (y 1, 5, .inl g_n_way)), ((a 7), .inl (y 1, 6, .inl g_n_seat)), ((a 8), .inl (y 1, 6, .inl g_n_shawls)), ((a 9), .inr (0, [.ref (a 10), .ref (a 11), .int g_n_count])), ((a 10), .inl (y 1, 6, .inl g_n_steps)), ((a 11), .inl (y 1, 6, .inl g_n_numbers)), ((a 135), .inl (y 1, 7, .inl g_refused))]
noncomputable def f_X6_sitter (g_n_sitters : Int32) (g_n_onBits : Int32) (g_n_seat : (Nat → Int32)) (g_n_shawls : (Nat → Int32)) (g_refused : (Nat → Int32)) (n0 : Int32) (n1 : Int32) : Option (Int32 × (Nat → Int32)) := dq_bd (f_X6_isSitter g_n_sitters n0) (fun (x1 : Int32) => dq_if (x1 = 0) (dq_bd2 (f_X6_refuse g_refused (-1 : Int32)) (fun (x15 : Int32) (g_refused_16 : (Nat → Int32)) => some (x15, g_refused_16))) (dq_if (n1 = 0) (dq_gd (vp_in n0 6) (some ((g_n_seat n0.toNatClampNeg), g_refused))) (dq_if (n1 = 1) (dq_gd (vp_in n0 6) (some ((g_n_shawls n0.toNatClampNeg), g_refused))) (dq_if (n1 = 2) (dq_bd (f_X2_isOn g_n_onBits n0) (fun (x9 : Int32) => dq_if (x9 = 0) (some ((0 : Int32), g_refused)) (some ((1 : Int32), g_refused)))) (dq_bd2 (f_X6_refuse g_refused (-2 : Int32)) (fun (x12 : Int32) (g_refused_13 : (Nat → Int32)) => some (x12, g_refused_13)))))))
-- DraughtsTake.sitter(II)I
set_option maxHeartbeats 4000000 in
set_option maxRecDepth 100000 in
theorem m_X6_sitter (l : Launch) (D : va_G) (y : Nat → ClassId) (a : (Nat → Nat)) (g_hasImage : Int32) (g_toldCount : Int32) (g_n_shutBits : Int64) (g_n_airs : Int32) (g_n_crownedBits : Int32) (g_n_sitters : Int32) (g_n_onBits : Int32) (g_n_turn : Int32) (g_n_taken : Int32) (g_n_warmth : (Nat → UInt32)) (g_n_kind : (Nat → Int32)) (g_n_figure : (Nat → Int32)) (g_n_airCell : (Nat → Int32)) (g_n_way : (Nat → Int32)) (g_n_seat : (Nat → Int32)) (g_n_shawls : (Nat → Int32)) (g_n_count : Int32) (g_n_steps : (Nat → Int32)) (g_n_numbers : (Nat → Int32)) (g_refused : (Nat → Int32)) (n0 : Int32) (n1 : Int32) (z0 : Int32) (z1 : (Nat → Int32)) (hf : f_X6_sitter g_n_sitters g_n_onBits g_n_seat g_n_shawls g_refused n0 n1 = some (z0, z1)) : Ct l D y yX6_sitter wsX6_sitter 1 21 [.ref (a 0), .int n0, .int n1] (w_X6_sitter y a g_hasImage g_toldCount g_n_shutBits g_n_airs g_n_crownedBits g_n_sitters g_n_onBits g_n_turn g_n_taken g_n_warmth g_n_kind g_n_figure g_n_airCell g_n_way g_n_seat g_n_shawls g_n_count g_n_steps g_n_numbers g_refused) (w_X6_sitter y a g_hasImage g_toldCount g_n_shutBits g_n_airs g_n_crownedBits g_n_sitters g_n_onBits g_n_turn g_n_taken g_n_warmth g_n_kind g_n_figure g_n_airCell g_n_way g_n_seat g_n_shawls g_n_count g_n_steps g_n_numbers z1) (some (.int z0)) := by
  refine ct_head (cc := cX6_sitter) (n := 3) (ret := (some .int)) (by decide) rfl (Nat.le_of_ble_eq_true rfl) ?_
  intro p e s m below meth c A ls hx hb hr hml hown hlocks hts hA hAe hP hK hD hl
  have hS : va_S A s.heap s.heap [] := va_S.rf
  have hl : lv_has ls 3 [(0, .ref (a 0)), (1, .int n0), (2, .int n1)] := hl
  have hown : s.vm.findClass RX6 = some m.cls := hown
  have hw1 := hts (.fieldLink RX6 10 "DraughtsTake" "now" "LDraughtsTake$House;") (List.mem_of_getElem? (i := 1) rfl)
  have hw2 := hts (.fieldLink RX6 116 "DraughtsTake$House" "seat" "[I") (List.mem_of_getElem? (i := 2) rfl)
  have hw3 := hts (.fieldLink RX6 119 "DraughtsTake$House" "shawls" "[I") (List.mem_of_getElem? (i := 3) rfl)
  have hiX6 : ∀ w ∈ wsX60, w ∈ wsX6_sitter := fun w h => List.mem_cons_of_mem _ (List.mem_append_left _ (List.mem_append_right _ (h)))
  have hiX2 : ∀ w ∈ wsX20, w ∈ wsX6_sitter := fun w h => List.mem_cons_of_mem _ (List.mem_append_right _ (h))
  unfold f_X6_sitter at hf
  refine lv_aload_n hx hb dX6_sitter_0 rfl (lv_at hl 0 rfl) ?_
  refine lv_iload_n hx hb dX6_sitter_1 rfl (lv_at hl 1 rfl) ?_
  obtain ⟨x1, hy2, hf⟩ := dq_b hf
  refine ct_callV (ci := 5) (q0 := 0) (own := RX6) (As := [.int n0]) (rest := []) (ws' := (w_X6_sitter y a g_hasImage g_toldCount g_n_shutBits g_n_airs g_n_crownedBits g_n_sitters g_n_onBits g_n_turn g_n_taken g_n_warmth g_n_kind g_n_figure g_n_airCell g_n_way g_n_seat g_n_shawls g_n_count g_n_steps g_n_numbers g_refused)) ⟨hx, hb, hml, hown, hts⟩ (m_X6_isSitter l D y a g_hasImage g_toldCount g_n_shutBits g_n_airs g_n_crownedBits g_n_sitters g_n_onBits g_n_turn g_n_taken g_n_warmth g_n_kind g_n_figure g_n_airCell g_n_way g_n_seat g_n_shawls g_n_count g_n_steps g_n_numbers n0 x1 hy2) (cwV 1 hts gX6_sitter_X6_isSitter rfl rfl rfl (by decide +kernel) ⟨Nat.le_of_ble_eq_true rfl, Nat.le_of_ble_eq_true rfl⟩) rfl rfl rfl hl.1 rfl (Nat.le_of_ble_eq_true rfl) dX6_sitter_2 ⟨Nat.zero_le _, Nat.zero_le _⟩ hK hP hD hS hA [0, 1, 2, 3, 4, 5, 6, 7, 8, 9, 10, 11] [12] rfl rfl rfl (by decide) (by decide) 13 rfl (by decide +kernel) (fun H locs hP hD hS => ?_)
  refine lv_if_ne (tgt := 14) hx hb dX6_sitter_5 (by decide) (fun c3 => ?_) (fun c3 => ?_)
  · have hf := dq_f hf c3
    clear c3
    refine lv_iload_n hx hb dX6_sitter_14 rfl (lv_at hl 2 rfl) ?_
    by_cases c4 : n1 = (0 : Int32)
    · have hf := dq_t hf c4
      refine lv_tableIn (tgt := 40) (off := 25) hx hb dX6_sitter_15 (by rw [c4]; decide) (by rw [c4]; decide) (by rw [c4]; decide) (by decide) ?_
      clear c4
      refine lv_aload_n hx hb dX6_sitter_40 rfl (lv_at hl 0 rfl) ?_
      refine va_get (D := D) (ci := 5) (v := .ref (a 1)) (C := RX6) (T := TX6) (N := 12) hx hb hts hiX6 hown hK hP 0 rfl rfl 0 (by decide) hw1 (fun _ h9 => h9) rfl dX6_sitter_41 ?_
      refine va_get (D := D) (ci := 1) (v := .ref (a 7)) (C := RX2) (T := TX2) (N := 15) hx hb hts hiX2 hown hK hP 1 rfl rfl 9 (by decide) hw2 (fun _ h9 => h9) rfl dX6_sitter_44 ?_
      refine lv_iload_n hx hb dX6_sitter_47 rfl (lv_at hl 1 rfl) ?_
      obtain ⟨h5, hf⟩ := dq_g hf
      refine va_iald (cA := y 1) (n := 6) (f := g_n_seat) hx hb hK hP 7 1 rfl rfl h5 dX6_sitter_48 ?_
      obtain ⟨rfl, rfl⟩ := dq_r2 hf
      exact ct_iret hx hb hr hlocks hAe hP hK hD hS dX6_sitter_49
    have hf := dq_f hf c4
    by_cases c6 : n1 = (1 : Int32)
    · have hf := dq_t hf c6
      refine lv_tableIn (tgt := 50) (off := 35) hx hb dX6_sitter_15 (by rw [c6]; decide) (by rw [c6]; decide) (by rw [c6]; decide) (by decide) ?_
      clear c4 c6
      refine lv_aload_n hx hb dX6_sitter_50 rfl (lv_at hl 0 rfl) ?_
      refine va_get (D := D) (ci := 5) (v := .ref (a 1)) (C := RX6) (T := TX6) (N := 12) hx hb hts hiX6 hown hK hP 0 rfl rfl 0 (by decide) hw1 (fun _ h9 => h9) rfl dX6_sitter_51 ?_
      refine va_get (D := D) (ci := 1) (v := .ref (a 8)) (C := RX2) (T := TX2) (N := 15) hx hb hts hiX2 hown hK hP 1 rfl rfl 10 (by decide) hw3 (fun _ h9 => h9) rfl dX6_sitter_54 ?_
      refine lv_iload_n hx hb dX6_sitter_57 rfl (lv_at hl 1 rfl) ?_
      obtain ⟨h7, hf⟩ := dq_g hf
      refine va_iald (cA := y 1) (n := 6) (f := g_n_shawls) hx hb hK hP 8 1 rfl rfl h7 dX6_sitter_58 ?_
      obtain ⟨rfl, rfl⟩ := dq_r2 hf
      exact ct_iret hx hb hr hlocks hAe hP hK hD hS dX6_sitter_59
    have hf := dq_f hf c6
    by_cases c8 : n1 = (2 : Int32)
    · have hf := dq_t hf c8
      refine lv_tableIn (tgt := 60) (off := 45) hx hb dX6_sitter_15 (by rw [c8]; decide) (by rw [c8]; decide) (by rw [c8]; decide) (by decide) ?_
      clear c4 c6 c8
      refine lv_aload_n hx hb dX6_sitter_60 rfl (lv_at hl 0 rfl) ?_
      refine va_get (D := D) (ci := 5) (v := .ref (a 1)) (C := RX6) (T := TX6) (N := 12) hx hb hts hiX6 hown hK hP 0 rfl rfl 0 (by decide) hw1 (fun _ h9 => h9) rfl dX6_sitter_61 ?_
      refine lv_iload_n hx hb dX6_sitter_64 rfl (lv_at hl 1 rfl) ?_
      obtain ⟨x9, hy10, hf⟩ := dq_b hf
      refine ct_callV (ci := 1) (q0 := 0) (own := RX6) (As := [.int n0]) (rest := []) (ws' := (w_X6_sitter y a g_hasImage g_toldCount g_n_shutBits g_n_airs g_n_crownedBits g_n_sitters g_n_onBits g_n_turn g_n_taken g_n_warmth g_n_kind g_n_figure g_n_airCell g_n_way g_n_seat g_n_shawls g_n_count g_n_steps g_n_numbers g_refused)) ⟨hx, hb, hml, hown, hts⟩ (m_X2_isOn l D y (fun k => a (1 + k)) g_n_shutBits g_n_airs g_n_crownedBits g_n_sitters g_n_onBits g_n_turn g_n_taken g_n_warmth g_n_kind g_n_figure g_n_airCell g_n_way g_n_seat g_n_shawls g_n_count g_n_steps g_n_numbers n0 x9 hy10) (cwV 1 hts gX6_sitter_X2_isOn rfl rfl rfl (by decide +kernel) ⟨Nat.le_of_ble_eq_true rfl, Nat.le_of_ble_eq_true rfl⟩) rfl rfl rfl hl.1 rfl (Nat.le_of_ble_eq_true rfl) dX6_sitter_65 ⟨Nat.zero_le _, Nat.zero_le _⟩ hK hP hD hS hA [1, 2, 3, 4, 5, 6, 7, 8, 9, 10, 11] [0, 12] rfl rfl rfl (by decide) (by decide) 13 rfl (by decide +kernel) (fun H locs hP hD hS => ?_)
      refine lv_if_eq (tgt := 75) hx hb dX6_sitter_68 (by decide) (fun c11 => ?_) (fun c11 => ?_)
      · have hf := dq_t hf c11
        clear c11
        refine lv_iconst (v := 0) hx hb dX6_sitter_75 (by decide) ?_
        obtain ⟨rfl, rfl⟩ := dq_r2 hf
        exact ct_iret hx hb hr hlocks hAe hP hK hD hS dX6_sitter_76
      · have hf := dq_f hf c11
        clear c11
        refine lv_iconst (v := 1) hx hb dX6_sitter_71 (by decide) ?_
        refine lv_goto (tgt := 76) hx hb dX6_sitter_72 (by decide) ?_
        obtain ⟨rfl, rfl⟩ := dq_r2 hf
        exact ct_iret hx hb hr hlocks hAe hP hK hD hS dX6_sitter_76
    have hf := dq_f hf c8
    have c4 : n1.toInt ≠ 0 := fun q => c4 (Int32.toInt_inj.mp q)
    have c6 : n1.toInt ≠ 1 := fun q => c6 (Int32.toInt_inj.mp q)
    have c8 : n1.toInt ≠ 2 := fun q => c8 (Int32.toInt_inj.mp q)
    refine lv_tableOut (tgt := 77) hx hb dX6_sitter_15 (by omega) (by decide) ?_
    clear c4 c6 c8
    refine lv_aload_n hx hb dX6_sitter_77 rfl (lv_at hl 0 rfl) ?_
    refine lv_bipush (v := -2) hx hb dX6_sitter_78 (by decide) ?_
    obtain ⟨x12, g_refused_13, hy14, hf⟩ := dq_b2 hf
    refine ct_callV (ci := 5) (q0 := 0) (own := RX6) (As := [.int (-2 : Int32)]) (rest := []) (ws' := (w_X6_sitter y a g_hasImage g_toldCount g_n_shutBits g_n_airs g_n_crownedBits g_n_sitters g_n_onBits g_n_turn g_n_taken g_n_warmth g_n_kind g_n_figure g_n_airCell g_n_way g_n_seat g_n_shawls g_n_count g_n_steps g_n_numbers g_refused_13)) ⟨hx, hb, hml, hown, hts⟩ (m_X6_refuse l D y a g_hasImage g_toldCount g_refused (-2 : Int32) x12 g_refused_13 hy14) (cwV 1 hts gX6_sitter_X6_refuse rfl rfl rfl (by decide +kernel) ⟨Nat.le_of_ble_eq_true rfl, Nat.le_of_ble_eq_true rfl⟩) rfl rfl rfl hl.1 rfl (Nat.le_of_ble_eq_true rfl) dX6_sitter_80 ⟨Nat.zero_le _, Nat.zero_le _⟩ hK hP hD hS hA [0, 12] [1, 2, 3, 4, 5, 6, 7, 8, 9, 10, 11] rfl rfl rfl (by decide) (by decide) 13 rfl (by decide +kernel) (fun H locs hP hD hS => ?_)
    obtain ⟨rfl, rfl⟩ := dq_r2 hf
    exact ct_iret hx hb hr hlocks hAe hP hK hD hS dX6_sitter_83
  · have hf := dq_t hf c3
    clear c3
    refine lv_aload_n hx hb dX6_sitter_8 rfl (lv_at hl 0 rfl) ?_
    refine lv_iconst (v := -1) hx hb dX6_sitter_9 (by decide) ?_
    obtain ⟨x15, g_refused_16, hy17, hf⟩ := dq_b2 hf
    refine ct_callV (ci := 5) (q0 := 0) (own := RX6) (As := [.int (-1 : Int32)]) (rest := []) (ws' := (w_X6_sitter y a g_hasImage g_toldCount g_n_shutBits g_n_airs g_n_crownedBits g_n_sitters g_n_onBits g_n_turn g_n_taken g_n_warmth g_n_kind g_n_figure g_n_airCell g_n_way g_n_seat g_n_shawls g_n_count g_n_steps g_n_numbers g_refused_16)) ⟨hx, hb, hml, hown, hts⟩ (m_X6_refuse l D y a g_hasImage g_toldCount g_refused (-1 : Int32) x15 g_refused_16 hy17) (cwV 1 hts gX6_sitter_X6_refuse rfl rfl rfl (by decide +kernel) ⟨Nat.le_of_ble_eq_true rfl, Nat.le_of_ble_eq_true rfl⟩) rfl rfl rfl hl.1 rfl (Nat.le_of_ble_eq_true rfl) dX6_sitter_10 ⟨Nat.zero_le _, Nat.zero_le _⟩ hK hP hD hS hA [0, 12] [1, 2, 3, 4, 5, 6, 7, 8, 9, 10, 11] rfl rfl rfl (by decide) (by decide) 13 rfl (by decide +kernel) (fun H locs hP hD hS => ?_)
    obtain ⟨rfl, rfl⟩ := dq_r2 hf
    exact ct_iret hx hb hr hlocks hAe hP hK hD hS dX6_sitter_13
noncomputable def f_X6_isCell (n0 : Int32) : Option Int32 := dq_if (n0 < 0) (some (0 : Int32)) (dq_if ((36 : Int32) ≤ n0) (some (0 : Int32)) (some (1 : Int32)))
-- DraughtsTake.isCell(I)Z
set_option maxHeartbeats 4000000 in
set_option maxRecDepth 100000 in
theorem m_X6_isCell (l : Launch) (D : va_G) (y : Nat → ClassId) (n0 : Int32) (z0 : Int32) (hf : f_X6_isCell n0 = some z0) : Ct l D y yX6_isCell wsX6_isCell 0 0 [.int n0] [] [] (some (.int z0)) := by
  refine ct_head (cc := cX6_isCell) (n := 1) (ret := (some .boolean)) (by decide) rfl (Nat.le_of_ble_eq_true rfl) ?_
  intro p e s m below meth c A ls hx hb hr hml hown hlocks hts hA hAe hP hK hD hl
  have hS : va_S A s.heap s.heap [] := va_S.rf
  have hl : lv_has ls 1 [(0, .int n0)] := hl
  have hown : s.vm.findClass RX6 = some m.cls := hown
  unfold f_X6_isCell at hf
  refine lv_iload_n hx hb dX6_isCell_0 rfl (lv_at hl 0 rfl) ?_
  refine lv_if_lt (tgt := 14) hx hb dX6_isCell_1 (by decide) (fun c1 => ?_) (fun c1 => ?_)
  · have hf := dq_t hf c1
    clear c1
    refine lv_iconst (v := 0) hx hb dX6_isCell_14 (by decide) ?_
    obtain rfl := dq_r1 hf
    exact ct_zret hx hb hr rfl hlocks hAe hP hK hD hS dX6_isCell_15
  · have hf := dq_f hf c1
    clear c1
    refine lv_iload_n hx hb dX6_isCell_4 rfl (lv_at hl 0 rfl) ?_
    refine lv_bipush (v := 36) hx hb dX6_isCell_5 (by decide) ?_
    refine lv_icmp_ge (tgt := 14) hx hb dX6_isCell_7 (by decide) (fun c2 => ?_) (fun c2 => ?_)
    · have hf := dq_t hf c2
      clear c2
      refine lv_iconst (v := 0) hx hb dX6_isCell_14 (by decide) ?_
      obtain rfl := dq_r1 hf
      exact ct_zret hx hb hr rfl hlocks hAe hP hK hD hS dX6_isCell_15
    · have hf := dq_f hf c2
      clear c2
      refine lv_iconst (v := 1) hx hb dX6_isCell_10 (by decide) ?_
      refine lv_goto (tgt := 15) hx hb dX6_isCell_11 (by decide) ?_
      obtain rfl := dq_r1 hf
      exact ct_zret hx hb hr rfl hlocks hAe hP hK hD hS dX6_isCell_15
def w_X6_cell (y : Nat → ClassId) (a : Nat → Nat) (g_hasImage : Int32) (g_toldCount : Int32) (g_n_shutBits : Int64) (g_n_airs : Int32) (g_n_crownedBits : Int32) (g_n_sitters : Int32) (g_n_onBits : Int32) (g_n_turn : Int32) (g_n_taken : Int32) (g_n_warmth : (Nat → UInt32)) (g_n_kind : (Nat → Int32)) (g_n_figure : (Nat → Int32)) (g_n_airCell : (Nat → Int32)) (g_n_way : (Nat → Int32)) (g_n_seat : (Nat → Int32)) (g_n_shawls : (Nat → Int32)) (g_n_count : Int32) (g_n_steps : (Nat → Int32)) (g_n_numbers : (Nat → Int32)) (g_refused : (Nat → Int32)) : va_W := [((a 0), .inr (5, [.ref (a 1), .ref (a 12), .ref (a 23), .int g_hasImage, .ref (a 34), .ref (a 124), .ref (a 126), .ref (a 134), .int g_toldCount, .ref (a 135), .ref (a 136), .ref (a 137)])), ((a 1), .inr (1, [.ref (a 2), .long g_n_shutBits, .int g_n_airs, .ref (a 3), .ref (a 4), .ref (a 5), .ref (a 6), .int g_n_crownedBits, .int g_n_sitters, .ref (a 7), .ref (a 8), .int g_n_onBits, .int g_n_turn, .int g_n_taken, .ref (a 9)])), ((a 2), .inl (y 0, 36, .inr (.inr (.inl g_n_warmth)))), ((a 3), .inl (y 1, 5, .inl g_n_kind)), ((a 4), .inl (y 1, 5, .inl g_n_figure)), ((a 5), .inl (y 1, 5, .inl g_n_airCell)), ((a 6), .inl (y 1, 5, .inl g_n_way)), ((a 7), .inl (y 1, 6, .inl g_n_seat)), ((a 8), .inl (y 1, 6, .inl g_n_shawls)), ((a 9), .inr (0, [.ref (a 10), .ref (a 11), .int g_n_count])), ((a 10), .inl (y 1, 6, .inl g_n_steps)), ((a 11), .inl (y 1, 6, .inl g_n_numbers)), ((a 135), .inl (y 1, 7, .inl g_refused))]
noncomputable def f_X6_cell (g_n_shutBits : Int64) (g_n_airs : Int32) (g_n_sitters : Int32) (g_n_onBits : Int32) (g_n_warmth : (Nat → UInt32)) (g_n_airCell : (Nat → Int32)) (g_n_seat : (Nat → Int32)) (g_refused : (Nat → Int32)) (n0 : Int32) (n1 : Int32) : Option (Int32 × (Nat → Int32)) := dq_bd (f_X6_isCell n0) (fun (x1 : Int32) => dq_if (x1 = 0) (dq_bd2 (f_X6_refuse g_refused (-1 : Int32)) (fun (x23 : Int32) (g_refused_24 : (Nat → Int32)) => some (x23, g_refused_24))) (dq_if (n1 = 0) (dq_bd (f_X2_isShut g_n_shutBits n0) (fun (x5 : Int32) => dq_if (x5 = 0) (some ((0 : Int32), g_refused)) (some ((1 : Int32), g_refused)))) (dq_if (n1 = 1) (dq_bd (f_X2_isFree g_n_shutBits g_n_airs g_n_sitters g_n_onBits g_n_airCell g_n_seat n0) (fun (x9 : Int32) => dq_if (x9 = 0) (some ((0 : Int32), g_refused)) (some ((1 : Int32), g_refused)))) (dq_if (n1 = 2) (dq_bd (f_X2_airOn g_n_airs g_n_airCell n0) (fun (x13 : Int32) => some (x13, g_refused))) (dq_if (n1 = 3) (dq_bd (f_X2_sitterOn g_n_sitters g_n_onBits g_n_seat n0) (fun (x16 : Int32) => some (x16, g_refused))) (dq_if (n1 = 4) (dq_gd (vp_in n0 36) (some ((FP.f2i (g_n_warmth n0.toNatClampNeg)), g_refused))) (dq_bd2 (f_X6_refuse g_refused (-2 : Int32)) (fun (x20 : Int32) (g_refused_21 : (Nat → Int32)) => some (x20, g_refused_21)))))))))
-- DraughtsTake.cell(II)I
set_option maxHeartbeats 4000000 in
set_option maxRecDepth 100000 in
theorem m_X6_cell (l : Launch) (D : va_G) (y : Nat → ClassId) (a : (Nat → Nat)) (g_hasImage : Int32) (g_toldCount : Int32) (g_n_shutBits : Int64) (g_n_airs : Int32) (g_n_crownedBits : Int32) (g_n_sitters : Int32) (g_n_onBits : Int32) (g_n_turn : Int32) (g_n_taken : Int32) (g_n_warmth : (Nat → UInt32)) (g_n_kind : (Nat → Int32)) (g_n_figure : (Nat → Int32)) (g_n_airCell : (Nat → Int32)) (g_n_way : (Nat → Int32)) (g_n_seat : (Nat → Int32)) (g_n_shawls : (Nat → Int32)) (g_n_count : Int32) (g_n_steps : (Nat → Int32)) (g_n_numbers : (Nat → Int32)) (g_refused : (Nat → Int32)) (n0 : Int32) (n1 : Int32) (z0 : Int32) (z1 : (Nat → Int32)) (hf : f_X6_cell g_n_shutBits g_n_airs g_n_sitters g_n_onBits g_n_warmth g_n_airCell g_n_seat g_refused n0 n1 = some (z0, z1)) : Ct l D y yX6_cell wsX6_cell 2 43 [.ref (a 0), .int n0, .int n1] (w_X6_cell y a g_hasImage g_toldCount g_n_shutBits g_n_airs g_n_crownedBits g_n_sitters g_n_onBits g_n_turn g_n_taken g_n_warmth g_n_kind g_n_figure g_n_airCell g_n_way g_n_seat g_n_shawls g_n_count g_n_steps g_n_numbers g_refused) (w_X6_cell y a g_hasImage g_toldCount g_n_shutBits g_n_airs g_n_crownedBits g_n_sitters g_n_onBits g_n_turn g_n_taken g_n_warmth g_n_kind g_n_figure g_n_airCell g_n_way g_n_seat g_n_shawls g_n_count g_n_steps g_n_numbers z1) (some (.int z0)) := by
  refine ct_head (cc := cX6_cell) (n := 3) (ret := (some .int)) (by decide) rfl (Nat.le_of_ble_eq_true rfl) ?_
  intro p e s m below meth c A ls hx hb hr hml hown hlocks hts hA hAe hP hK hD hl
  have hS : va_S A s.heap s.heap [] := va_S.rf
  have hl : lv_has ls 3 [(0, .ref (a 0)), (1, .int n0), (2, .int n1)] := hl
  have hown : s.vm.findClass RX6 = some m.cls := hown
  have hw1 := hts (.fieldLink RX6 10 "DraughtsTake" "now" "LDraughtsTake$House;") (List.mem_of_getElem? (i := 1) rfl)
  have hw2 := hts (.fieldLink RX6 140 "DraughtsTake$House" "warmth" "[F") (List.mem_of_getElem? (i := 2) rfl)
  have hiX6 : ∀ w ∈ wsX60, w ∈ wsX6_cell := fun w h => List.mem_cons_of_mem _ (List.mem_append_left _ (List.mem_append_right _ (h)))
  have hiX2 : ∀ w ∈ wsX20, w ∈ wsX6_cell := fun w h => List.mem_cons_of_mem _ (List.mem_append_right _ (h))
  unfold f_X6_cell at hf
  refine lv_iload_n hx hb dX6_cell_0 rfl (lv_at hl 1 rfl) ?_
  obtain ⟨x1, hy2, hf⟩ := dq_b hf
  refine ct_callS0 (own := RX6) (As := [.int n0]) (rest := []) ⟨hx, hb, hml, hown, hts⟩ (m_X6_isCell l D y n0 x1 hy2) (va_cwS 1 hts gX6_cell_X6_isCell rfl rfl rfl (by decide +kernel) ⟨Nat.le_of_ble_eq_true rfl, Nat.le_of_ble_eq_true rfl⟩) rfl hl.1 rfl (Nat.le_of_ble_eq_true rfl) dX6_cell_1 ⟨Nat.zero_le _, Nat.zero_le _⟩ hK hP hD hS hA (fun H locs hP hD hS => ?_)
  refine lv_if_ne (tgt := 13) hx hb dX6_cell_4 (by decide) (fun c3 => ?_) (fun c3 => ?_)
  · have hf := dq_f hf c3
    clear c3
    refine lv_iload_n hx hb dX6_cell_13 rfl (lv_at hl 2 rfl) ?_
    by_cases c4 : n1 = (0 : Int32)
    · have hf := dq_t hf c4
      refine lv_tableIn (tgt := 48) (off := 34) hx hb dX6_cell_14 (by rw [c4]; decide) (by rw [c4]; decide) (by rw [c4]; decide) (by decide) ?_
      clear c4
      refine lv_aload_n hx hb dX6_cell_48 rfl (lv_at hl 0 rfl) ?_
      refine va_get (D := D) (ci := 5) (v := .ref (a 1)) (C := RX6) (T := TX6) (N := 12) hx hb hts hiX6 hown hK hP 0 rfl rfl 0 (by decide) hw1 (fun _ h9 => h9) rfl dX6_cell_49 ?_
      refine lv_iload_n hx hb dX6_cell_52 rfl (lv_at hl 1 rfl) ?_
      obtain ⟨x5, hy6, hf⟩ := dq_b hf
      refine ct_callV (ci := 1) (q0 := 0) (own := RX6) (As := [.int n0]) (rest := []) (ws' := (w_X6_cell y a g_hasImage g_toldCount g_n_shutBits g_n_airs g_n_crownedBits g_n_sitters g_n_onBits g_n_turn g_n_taken g_n_warmth g_n_kind g_n_figure g_n_airCell g_n_way g_n_seat g_n_shawls g_n_count g_n_steps g_n_numbers g_refused)) ⟨hx, hb, hml, hown, hts⟩ (m_X2_isShut l D y (fun k => a (1 + k)) g_n_shutBits g_n_airs g_n_crownedBits g_n_sitters g_n_onBits g_n_turn g_n_taken g_n_warmth g_n_kind g_n_figure g_n_airCell g_n_way g_n_seat g_n_shawls g_n_count g_n_steps g_n_numbers n0 x5 hy6) (cwV 1 hts gX6_cell_X2_isShut rfl rfl rfl (by decide +kernel) ⟨Nat.le_of_ble_eq_true rfl, Nat.le_of_ble_eq_true rfl⟩) rfl rfl rfl hl.1 rfl (Nat.le_of_ble_eq_true rfl) dX6_cell_53 ⟨Nat.zero_le _, Nat.zero_le _⟩ hK hP hD hS hA [1, 2, 3, 4, 5, 6, 7, 8, 9, 10, 11] [0, 12] rfl rfl rfl (by decide) (by decide) 13 rfl (by decide +kernel) (fun H locs hP hD hS => ?_)
      refine lv_if_eq (tgt := 63) hx hb dX6_cell_56 (by decide) (fun c7 => ?_) (fun c7 => ?_)
      · have hf := dq_t hf c7
        clear c7
        refine lv_iconst (v := 0) hx hb dX6_cell_63 (by decide) ?_
        obtain ⟨rfl, rfl⟩ := dq_r2 hf
        exact ct_iret hx hb hr hlocks hAe hP hK hD hS dX6_cell_64
      · have hf := dq_f hf c7
        clear c7
        refine lv_iconst (v := 1) hx hb dX6_cell_59 (by decide) ?_
        refine lv_goto (tgt := 64) hx hb dX6_cell_60 (by decide) ?_
        obtain ⟨rfl, rfl⟩ := dq_r2 hf
        exact ct_iret hx hb hr hlocks hAe hP hK hD hS dX6_cell_64
    have hf := dq_f hf c4
    by_cases c8 : n1 = (1 : Int32)
    · have hf := dq_t hf c8
      refine lv_tableIn (tgt := 65) (off := 51) hx hb dX6_cell_14 (by rw [c8]; decide) (by rw [c8]; decide) (by rw [c8]; decide) (by decide) ?_
      clear c4 c8
      refine lv_aload_n hx hb dX6_cell_65 rfl (lv_at hl 0 rfl) ?_
      refine va_get (D := D) (ci := 5) (v := .ref (a 1)) (C := RX6) (T := TX6) (N := 12) hx hb hts hiX6 hown hK hP 0 rfl rfl 0 (by decide) hw1 (fun _ h9 => h9) rfl dX6_cell_66 ?_
      refine lv_iload_n hx hb dX6_cell_69 rfl (lv_at hl 1 rfl) ?_
      obtain ⟨x9, hy10, hf⟩ := dq_b hf
      refine ct_callV (ci := 1) (q0 := 0) (own := RX6) (As := [.int n0]) (rest := []) (ws' := (w_X6_cell y a g_hasImage g_toldCount g_n_shutBits g_n_airs g_n_crownedBits g_n_sitters g_n_onBits g_n_turn g_n_taken g_n_warmth g_n_kind g_n_figure g_n_airCell g_n_way g_n_seat g_n_shawls g_n_count g_n_steps g_n_numbers g_refused)) ⟨hx, hb, hml, hown, hts⟩ (m_X2_isFree l D y (fun k => a (1 + k)) g_n_shutBits g_n_airs g_n_crownedBits g_n_sitters g_n_onBits g_n_turn g_n_taken g_n_warmth g_n_kind g_n_figure g_n_airCell g_n_way g_n_seat g_n_shawls g_n_count g_n_steps g_n_numbers n0 x9 hy10) (cwV 1 hts gX6_cell_X2_isFree rfl rfl rfl (by decide +kernel) ⟨Nat.le_of_ble_eq_true rfl, Nat.le_of_ble_eq_true rfl⟩) rfl rfl rfl hl.1 rfl (Nat.le_of_ble_eq_true rfl) dX6_cell_70 ⟨Nat.zero_le _, Nat.zero_le _⟩ hK hP hD hS hA [1, 2, 3, 4, 5, 6, 7, 8, 9, 10, 11] [0, 12] rfl rfl rfl (by decide) (by decide) 13 rfl (by decide +kernel) (fun H locs hP hD hS => ?_)
      refine lv_if_eq (tgt := 80) hx hb dX6_cell_73 (by decide) (fun c11 => ?_) (fun c11 => ?_)
      · have hf := dq_t hf c11
        clear c11
        refine lv_iconst (v := 0) hx hb dX6_cell_80 (by decide) ?_
        obtain ⟨rfl, rfl⟩ := dq_r2 hf
        exact ct_iret hx hb hr hlocks hAe hP hK hD hS dX6_cell_81
      · have hf := dq_f hf c11
        clear c11
        refine lv_iconst (v := 1) hx hb dX6_cell_76 (by decide) ?_
        refine lv_goto (tgt := 81) hx hb dX6_cell_77 (by decide) ?_
        obtain ⟨rfl, rfl⟩ := dq_r2 hf
        exact ct_iret hx hb hr hlocks hAe hP hK hD hS dX6_cell_81
    have hf := dq_f hf c8
    by_cases c12 : n1 = (2 : Int32)
    · have hf := dq_t hf c12
      refine lv_tableIn (tgt := 82) (off := 68) hx hb dX6_cell_14 (by rw [c12]; decide) (by rw [c12]; decide) (by rw [c12]; decide) (by decide) ?_
      clear c4 c8 c12
      refine lv_aload_n hx hb dX6_cell_82 rfl (lv_at hl 0 rfl) ?_
      refine va_get (D := D) (ci := 5) (v := .ref (a 1)) (C := RX6) (T := TX6) (N := 12) hx hb hts hiX6 hown hK hP 0 rfl rfl 0 (by decide) hw1 (fun _ h9 => h9) rfl dX6_cell_83 ?_
      refine lv_iload_n hx hb dX6_cell_86 rfl (lv_at hl 1 rfl) ?_
      obtain ⟨x13, hy14, hf⟩ := dq_b hf
      refine ct_callV (ci := 1) (q0 := 0) (own := RX6) (As := [.int n0]) (rest := []) (ws' := (w_X6_cell y a g_hasImage g_toldCount g_n_shutBits g_n_airs g_n_crownedBits g_n_sitters g_n_onBits g_n_turn g_n_taken g_n_warmth g_n_kind g_n_figure g_n_airCell g_n_way g_n_seat g_n_shawls g_n_count g_n_steps g_n_numbers g_refused)) ⟨hx, hb, hml, hown, hts⟩ (m_X2_airOn l D y (fun k => a (1 + k)) g_n_shutBits g_n_airs g_n_crownedBits g_n_sitters g_n_onBits g_n_turn g_n_taken g_n_warmth g_n_kind g_n_figure g_n_airCell g_n_way g_n_seat g_n_shawls g_n_count g_n_steps g_n_numbers n0 x13 hy14) (cwV 1 hts gX6_cell_X2_airOn rfl rfl rfl (by decide +kernel) ⟨Nat.le_of_ble_eq_true rfl, Nat.le_of_ble_eq_true rfl⟩) rfl rfl rfl hl.1 rfl (Nat.le_of_ble_eq_true rfl) dX6_cell_87 ⟨Nat.zero_le _, Nat.zero_le _⟩ hK hP hD hS hA [1, 2, 3, 4, 5, 6, 7, 8, 9, 10, 11] [0, 12] rfl rfl rfl (by decide) (by decide) 13 rfl (by decide +kernel) (fun H locs hP hD hS => ?_)
      obtain ⟨rfl, rfl⟩ := dq_r2 hf
      exact ct_iret hx hb hr hlocks hAe hP hK hD hS dX6_cell_90
    have hf := dq_f hf c12
    by_cases c15 : n1 = (3 : Int32)
    · have hf := dq_t hf c15
      refine lv_tableIn (tgt := 91) (off := 77) hx hb dX6_cell_14 (by rw [c15]; decide) (by rw [c15]; decide) (by rw [c15]; decide) (by decide) ?_
      clear c4 c8 c12 c15
      refine lv_aload_n hx hb dX6_cell_91 rfl (lv_at hl 0 rfl) ?_
      refine va_get (D := D) (ci := 5) (v := .ref (a 1)) (C := RX6) (T := TX6) (N := 12) hx hb hts hiX6 hown hK hP 0 rfl rfl 0 (by decide) hw1 (fun _ h9 => h9) rfl dX6_cell_92 ?_
      refine lv_iload_n hx hb dX6_cell_95 rfl (lv_at hl 1 rfl) ?_
      obtain ⟨x16, hy17, hf⟩ := dq_b hf
      refine ct_callV (ci := 1) (q0 := 0) (own := RX6) (As := [.int n0]) (rest := []) (ws' := (w_X6_cell y a g_hasImage g_toldCount g_n_shutBits g_n_airs g_n_crownedBits g_n_sitters g_n_onBits g_n_turn g_n_taken g_n_warmth g_n_kind g_n_figure g_n_airCell g_n_way g_n_seat g_n_shawls g_n_count g_n_steps g_n_numbers g_refused)) ⟨hx, hb, hml, hown, hts⟩ (m_X2_sitterOn l D y (fun k => a (1 + k)) g_n_shutBits g_n_airs g_n_crownedBits g_n_sitters g_n_onBits g_n_turn g_n_taken g_n_warmth g_n_kind g_n_figure g_n_airCell g_n_way g_n_seat g_n_shawls g_n_count g_n_steps g_n_numbers n0 x16 hy17) (cwV 1 hts gX6_cell_X2_sitterOn rfl rfl rfl (by decide +kernel) ⟨Nat.le_of_ble_eq_true rfl, Nat.le_of_ble_eq_true rfl⟩) rfl rfl rfl hl.1 rfl (Nat.le_of_ble_eq_true rfl) dX6_cell_96 ⟨Nat.zero_le _, Nat.zero_le _⟩ hK hP hD hS hA [1, 2, 3, 4, 5, 6, 7, 8, 9, 10, 11] [0, 12] rfl rfl rfl (by decide) (by decide) 13 rfl (by decide +kernel) (fun H locs hP hD hS => ?_)
      obtain ⟨rfl, rfl⟩ := dq_r2 hf
      exact ct_iret hx hb hr hlocks hAe hP hK hD hS dX6_cell_99
    have hf := dq_f hf c15
    by_cases c18 : n1 = (4 : Int32)
    · have hf := dq_t hf c18
      refine lv_tableIn (tgt := 100) (off := 86) hx hb dX6_cell_14 (by rw [c18]; decide) (by rw [c18]; decide) (by rw [c18]; decide) (by decide) ?_
      clear c4 c8 c12 c15 c18
      refine lv_aload_n hx hb dX6_cell_100 rfl (lv_at hl 0 rfl) ?_
      refine va_get (D := D) (ci := 5) (v := .ref (a 1)) (C := RX6) (T := TX6) (N := 12) hx hb hts hiX6 hown hK hP 0 rfl rfl 0 (by decide) hw1 (fun _ h9 => h9) rfl dX6_cell_101 ?_
      refine va_get (D := D) (ci := 1) (v := .ref (a 2)) (C := RX2) (T := TX2) (N := 15) hx hb hts hiX2 hown hK hP 1 rfl rfl 0 (by decide) hw2 (fun _ h9 => h9) rfl dX6_cell_104 ?_
      refine lv_iload_n hx hb dX6_cell_107 rfl (lv_at hl 1 rfl) ?_
      obtain ⟨h19, hf⟩ := dq_g hf
      refine va_fald (cA := y 0) (n := 36) (f := g_n_warmth) hx hb hK hP 2 0 rfl rfl h19 dX6_cell_108 ?_
      refine lv_f2i hx hb dX6_cell_109 ?_
      obtain ⟨rfl, rfl⟩ := dq_r2 hf
      exact ct_iret hx hb hr hlocks hAe hP hK hD hS dX6_cell_110
    have hf := dq_f hf c18
    have c4 : n1.toInt ≠ 0 := fun q => c4 (Int32.toInt_inj.mp q)
    have c8 : n1.toInt ≠ 1 := fun q => c8 (Int32.toInt_inj.mp q)
    have c12 : n1.toInt ≠ 2 := fun q => c12 (Int32.toInt_inj.mp q)
    have c15 : n1.toInt ≠ 3 := fun q => c15 (Int32.toInt_inj.mp q)
    have c18 : n1.toInt ≠ 4 := fun q => c18 (Int32.toInt_inj.mp q)
    refine lv_tableOut (tgt := 111) hx hb dX6_cell_14 (by omega) (by decide) ?_
    clear c4 c8 c12 c15 c18
    refine lv_aload_n hx hb dX6_cell_111 rfl (lv_at hl 0 rfl) ?_
    refine lv_bipush (v := -2) hx hb dX6_cell_112 (by decide) ?_
    obtain ⟨x20, g_refused_21, hy22, hf⟩ := dq_b2 hf
    refine ct_callV (ci := 5) (q0 := 0) (own := RX6) (As := [.int (-2 : Int32)]) (rest := []) (ws' := (w_X6_cell y a g_hasImage g_toldCount g_n_shutBits g_n_airs g_n_crownedBits g_n_sitters g_n_onBits g_n_turn g_n_taken g_n_warmth g_n_kind g_n_figure g_n_airCell g_n_way g_n_seat g_n_shawls g_n_count g_n_steps g_n_numbers g_refused_21)) ⟨hx, hb, hml, hown, hts⟩ (m_X6_refuse l D y a g_hasImage g_toldCount g_refused (-2 : Int32) x20 g_refused_21 hy22) (cwV 1 hts gX6_cell_X6_refuse rfl rfl rfl (by decide +kernel) ⟨Nat.le_of_ble_eq_true rfl, Nat.le_of_ble_eq_true rfl⟩) rfl rfl rfl hl.1 rfl (Nat.le_of_ble_eq_true rfl) dX6_cell_114 ⟨Nat.zero_le _, Nat.zero_le _⟩ hK hP hD hS hA [0, 12] [1, 2, 3, 4, 5, 6, 7, 8, 9, 10, 11] rfl rfl rfl (by decide) (by decide) 13 rfl (by decide +kernel) (fun H locs hP hD hS => ?_)
    obtain ⟨rfl, rfl⟩ := dq_r2 hf
    exact ct_iret hx hb hr hlocks hAe hP hK hD hS dX6_cell_117
  · have hf := dq_t hf c3
    clear c3
    refine lv_aload_n hx hb dX6_cell_7 rfl (lv_at hl 0 rfl) ?_
    refine lv_iconst (v := -1) hx hb dX6_cell_8 (by decide) ?_
    obtain ⟨x23, g_refused_24, hy25, hf⟩ := dq_b2 hf
    refine ct_callV (ci := 5) (q0 := 0) (own := RX6) (As := [.int (-1 : Int32)]) (rest := []) (ws' := (w_X6_cell y a g_hasImage g_toldCount g_n_shutBits g_n_airs g_n_crownedBits g_n_sitters g_n_onBits g_n_turn g_n_taken g_n_warmth g_n_kind g_n_figure g_n_airCell g_n_way g_n_seat g_n_shawls g_n_count g_n_steps g_n_numbers g_refused_24)) ⟨hx, hb, hml, hown, hts⟩ (m_X6_refuse l D y a g_hasImage g_toldCount g_refused (-1 : Int32) x23 g_refused_24 hy25) (cwV 1 hts gX6_cell_X6_refuse rfl rfl rfl (by decide +kernel) ⟨Nat.le_of_ble_eq_true rfl, Nat.le_of_ble_eq_true rfl⟩) rfl rfl rfl hl.1 rfl (Nat.le_of_ble_eq_true rfl) dX6_cell_9 ⟨Nat.zero_le _, Nat.zero_le _⟩ hK hP hD hS hA [0, 12] [1, 2, 3, 4, 5, 6, 7, 8, 9, 10, 11] rfl rfl rfl (by decide) (by decide) 13 rfl (by decide +kernel) (fun H locs hP hD hS => ?_)
    obtain ⟨rfl, rfl⟩ := dq_r2 hf
    exact ct_iret hx hb hr hlocks hAe hP hK hD hS dX6_cell_12
noncomputable def f_X6_bitsOf_b112 (x2 : Int32) (x7 : UInt32) (x8 : Int32)   : Option Int32 := dq_if (0 ≤ (Op.cmpValue (FP.fcmp x7 FP.fconst1) .g)) (dq_gd (vf_n32 (FP.fsub x7 FP.fconst1)) (dq_let (FP.fsub x7 FP.fconst1) (fun (x12 : UInt32) => dq_gd (vf_n32 (FP.fmul x12 (1258291200 : UInt32))) (dq_let (FP.fmul x12 (1258291200 : UInt32)) (fun (x14 : UInt32) => some ((x2 ||| (x8 <<< ((23 : Int32) &&& 31))) ||| (FP.f2i x14))))))) (dq_gd (vf_n32 (FP.fmul x7 (1258291200 : UInt32))) (dq_let (FP.fmul x7 (1258291200 : UInt32)) (fun (x16 : UInt32) => some (x2 ||| (FP.f2i x16)))))
noncomputable def f_X6_bitsOf_b86 (x2 : Int32)  : Nat → UInt32 → Int32 → Int32 → Option Int32
  | 0, _, _, _ => none
  | m86 + 1, x7, x8, x9 => dq_if ((126 : Int32) ≤ x9) (f_X6_bitsOf_b112 x2 x7 x8) (dq_if (0 ≤ (Op.cmpValue (FP.fcmp x7 FP.fconst1) .g)) (f_X6_bitsOf_b112 x2 x7 x8) (dq_gd (vf_n32 (FP.fmul x7 FP.fconst2)) (dq_let (FP.fmul x7 FP.fconst2) (fun (x20 : UInt32) => dq_let (x8 + (-1 : Int32)) (fun (x21 : Int32) => dq_let (x9 + (1 : Int32)) (fun (x22 : Int32) => (f_X6_bitsOf_b86 x2 m86) x20 x21 x22))))))
noncomputable def f_X6_bitsOf_b83 (x2 : Int32) (x4 : UInt32) (x5 : Int32)   : Option Int32 := f_X6_bitsOf_b86 x2 4096 x4 x5 (0 : Int32)
noncomputable def f_X6_bitsOf_b55 (x2 : Int32)  : Nat → UInt32 → Int32 → Int32 → Option Int32
  | 0, _, _, _ => none
  | m55 + 1, x4, x5, x6 => dq_if ((127 : Int32) ≤ x6) (f_X6_bitsOf_b83 x2 x4 x5) (dq_if ((Op.cmpValue (FP.fcmp x4 FP.fconst2) .l) < 0) (f_X6_bitsOf_b83 x2 x4 x5) (dq_gd (vf_n32 (FP.fmul x4 (1056964608 : UInt32))) (dq_let (FP.fmul x4 (1056964608 : UInt32)) (fun (x26 : UInt32) => dq_let (x5 + (1 : Int32)) (fun (x27 : Int32) => dq_let (x6 + (1 : Int32)) (fun (x28 : Int32) => (f_X6_bitsOf_b55 x2 m55) x26 x27 x28))))))
noncomputable def f_X6_bitsOf_b48 (x2 : Int32)  (x3 : UInt32) : Option Int32 := f_X6_bitsOf_b55 x2 4096 x3 (127 : Int32) (0 : Int32)
noncomputable def f_X6_bitsOf_b35 (n0 : UInt32)  (x2 : Int32) : Option Int32 := dq_if (0 ≤ (Op.cmpValue (FP.fcmp n0 FP.fconst0) .g)) (f_X6_bitsOf_b48 x2 n0) (f_X6_bitsOf_b48 x2 (FP.fneg n0))
noncomputable def f_X6_bitsOf (n0 : UInt32) : Option Int32 := dq_if ((Op.cmpValue (FP.fcmp n0 FP.fconst0) .l) = 0) (dq_gd (vf_n32 (FP.fdiv FP.fconst1 n0)) (dq_let (FP.fdiv FP.fconst1 n0) (fun (x32 : UInt32) => dq_if (0 ≤ (Op.cmpValue (FP.fcmp x32 FP.fconst0) .g)) (some (0 : Int32)) (some (-2147483648 : Int32))))) (dq_if (0 ≤ (Op.cmpValue (FP.fcmp n0 FP.fconst0) .g)) (f_X6_bitsOf_b35 n0 (0 : Int32)) (f_X6_bitsOf_b35 n0 (-2147483648 : Int32)))
-- DraughtsTake.bitsOf(F)I
set_option maxHeartbeats 4000000 in
set_option maxRecDepth 100000 in
theorem m_X6_bitsOf (l : Launch) (D : va_G) (y : Nat → ClassId) (n0 : UInt32) (z0 : Int32) (hf : f_X6_bitsOf n0 = some z0) : Ct l D y yX6_bitsOf wsX6_bitsOf 0 0 [.float n0] [] [] (some (.int z0)) := by
  refine ct_head (cc := cX6_bitsOf) (n := 5) (ret := (some .int)) (by decide) rfl (Nat.le_of_ble_eq_true rfl) ?_
  intro p e s m below meth c A ls hx hb hr hml hown hlocks hts hA hAe hP hK hD hl
  have hS : va_S A s.heap s.heap [] := va_S.rf
  have hl : lv_has ls 5 [(0, .float n0)] := hl
  have hown : s.vm.findClass RX6 = some m.cls := hown
  have hw1 := hts (.constant RX6 322 (-2147483648)) (List.mem_of_getElem? (i := 1) rfl)
  have hw2 := hts (.constantFloat RX6 323 (1056964608)) (List.mem_of_getElem? (i := 2) rfl)
  have hw3 := hts (.constantFloat RX6 324 (1258291200)) (List.mem_of_getElem? (i := 3) rfl)
  unfold f_X6_bitsOf at hf
  refine lv_fload_n hx hb dX6_bitsOf_0 rfl (lv_at hl 0 rfl) ?_
  refine lv_fconst0 hx hb dX6_bitsOf_1 ?_
  refine lv_fcmp hx hb dX6_bitsOf_2 ?_
  refine lv_if_ne (tgt := 22) hx hb dX6_bitsOf_3 (by decide) (fun c1 => ?_) (fun c1 => ?_)
  · have hf := dq_f hf c1
    clear c1
    refine lv_fload_n hx hb dX6_bitsOf_22 rfl (lv_at hl 0 rfl) ?_
    refine lv_fconst0 hx hb dX6_bitsOf_23 ?_
    refine lv_fcmp hx hb dX6_bitsOf_24 ?_
    have J35 : ∀ (x2 : Int32), f_X6_bitsOf_b35 n0 x2 = some z0 → ∀ (H : Heap) (locs : List Loc), va_P D vwCl [] H → va_D A [] → va_S A s.heap H locs → ∀ ls : Array Slot, lv_has ls 5 [(0, .float n0)] → W p l e ({ frames := 0, cells := 0, slots := 0, locals := 0 } : Room) s m [.float n0].toArray below meth c H locs 0 0 (MQ below (dQ D y (some (.int z0)) s.heap.size [] []) [.float n0].toArray s 0 0 A) (F0 m 35 ls [.int x2]) := by
      intro x2 hf H locs hP hD hS ls hl
      unfold f_X6_bitsOf_b35 at hf
      refine lv_istore_n (lv' := [(1, .int x2), (0, .float n0)]) hx hb dX6_bitsOf_35 rfl hl (by decide) rfl (fun ls hl => ?_)
      refine lv_fload_n hx hb dX6_bitsOf_36 rfl (lv_at hl 1 rfl) ?_
      refine lv_fconst0 hx hb dX6_bitsOf_37 ?_
      refine lv_fcmp hx hb dX6_bitsOf_38 ?_
      have J48 : ∀ (x3 : UInt32), f_X6_bitsOf_b48 x2 x3 = some z0 → ∀ (H : Heap) (locs : List Loc), va_P D vwCl [] H → va_D A [] → va_S A s.heap H locs → ∀ ls : Array Slot, lv_has ls 5 [(1, .int x2)] → W p l e ({ frames := 0, cells := 0, slots := 0, locals := 0 } : Room) s m [.float n0].toArray below meth c H locs 0 0 (MQ below (dQ D y (some (.int z0)) s.heap.size [] []) [.float n0].toArray s 0 0 A) (F0 m 48 ls [.float x3]) := by
        intro x3 hf H locs hP hD hS ls hl
        unfold f_X6_bitsOf_b48 at hf
        refine lv_fstore_n (lv' := [(2, .float x3), (1, .int x2)]) hx hb dX6_bitsOf_48 rfl hl (by decide) rfl (fun ls hl => ?_)
        refine lv_bipush (v := 127) hx hb dX6_bitsOf_49 (by decide) ?_
        refine lv_istore_n (lv' := [(3, .int (127 : Int32)), (2, .float x3), (1, .int x2)]) hx hb dX6_bitsOf_51 rfl hl (by decide) rfl (fun ls hl => ?_)
        refine lv_iconst (v := 0) hx hb dX6_bitsOf_52 (by decide) ?_
        refine lv_istore (lv' := [(4, .int (0 : Int32)), (3, .int (127 : Int32)), (2, .float x3), (1, .int x2)]) hx hb dX6_bitsOf_53 hl (by decide) rfl (fun ls hl => ?_)
        have J55 : ∀ (m55 : Nat) (x4 : UInt32) (x5 : Int32) (x6 : Int32), f_X6_bitsOf_b55 x2 m55 x4 x5 x6 = some z0 → ∀ (H : Heap) (locs : List Loc), va_P D vwCl [] H → va_D A [] → va_S A s.heap H locs → ∀ ls : Array Slot, lv_has ls 5 [(1, .int x2), (2, .float x4), (3, .int x5), (4, .int x6)] → W p l e ({ frames := 0, cells := 0, slots := 0, locals := 0 } : Room) s m [.float n0].toArray below meth c H locs 0 0 (MQ below (dQ D y (some (.int z0)) s.heap.size [] []) [.float n0].toArray s 0 0 A) (F0 m 55 ls []) := by
          intro m55
          induction m55 with
          | zero => intro x4 x5 x6 hf; exact absurd hf (by unfold f_X6_bitsOf_b55; exact fun h => by cases h)
          | succ m55 I55 =>
            intro x4 x5 x6 hf H locs hP hD hS ls hl
            unfold f_X6_bitsOf_b55 at hf
            refine lv_iload hx hb dX6_bitsOf_55 (lv_at hl 3 rfl) ?_
            refine lv_bipush (v := 127) hx hb dX6_bitsOf_57 (by decide) ?_
            have J83 : f_X6_bitsOf_b83 x2 x4 x5 = some z0 → ∀ (H : Heap) (locs : List Loc), va_P D vwCl [] H → va_D A [] → va_S A s.heap H locs → ∀ ls : Array Slot, lv_has ls 5 [(1, .int x2), (2, .float x4), (3, .int x5)] → W p l e ({ frames := 0, cells := 0, slots := 0, locals := 0 } : Room) s m [.float n0].toArray below meth c H locs 0 0 (MQ below (dQ D y (some (.int z0)) s.heap.size [] []) [.float n0].toArray s 0 0 A) (F0 m 83 ls []) := by
              intro  hf H locs hP hD hS ls hl
              unfold f_X6_bitsOf_b83 at hf
              refine lv_iconst (v := 0) hx hb dX6_bitsOf_83 (by decide) ?_
              refine lv_istore (lv' := [(4, .int (0 : Int32)), (1, .int x2), (2, .float x4), (3, .int x5)]) hx hb dX6_bitsOf_84 hl (by decide) rfl (fun ls hl => ?_)
              have J86 : ∀ (m86 : Nat) (x7 : UInt32) (x8 : Int32) (x9 : Int32), f_X6_bitsOf_b86 x2 m86 x7 x8 x9 = some z0 → ∀ (H : Heap) (locs : List Loc), va_P D vwCl [] H → va_D A [] → va_S A s.heap H locs → ∀ ls : Array Slot, lv_has ls 5 [(1, .int x2), (2, .float x7), (3, .int x8), (4, .int x9)] → W p l e ({ frames := 0, cells := 0, slots := 0, locals := 0 } : Room) s m [.float n0].toArray below meth c H locs 0 0 (MQ below (dQ D y (some (.int z0)) s.heap.size [] []) [.float n0].toArray s 0 0 A) (F0 m 86 ls []) := by
                intro m86
                induction m86 with
                | zero => intro x7 x8 x9 hf; exact absurd hf (by unfold f_X6_bitsOf_b86; exact fun h => by cases h)
                | succ m86 I86 =>
                  intro x7 x8 x9 hf H locs hP hD hS ls hl
                  unfold f_X6_bitsOf_b86 at hf
                  refine lv_iload hx hb dX6_bitsOf_86 (lv_at hl 3 rfl) ?_
                  refine lv_bipush (v := 126) hx hb dX6_bitsOf_88 (by decide) ?_
                  have J112 : f_X6_bitsOf_b112 x2 x7 x8 = some z0 → ∀ (H : Heap) (locs : List Loc), va_P D vwCl [] H → va_D A [] → va_S A s.heap H locs → ∀ ls : Array Slot, lv_has ls 5 [(1, .int x2), (2, .float x7), (3, .int x8)] → W p l e ({ frames := 0, cells := 0, slots := 0, locals := 0 } : Room) s m [.float n0].toArray below meth c H locs 0 0 (MQ below (dQ D y (some (.int z0)) s.heap.size [] []) [.float n0].toArray s 0 0 A) (F0 m 112 ls []) := by
                    intro  hf H locs hP hD hS ls hl
                    unfold f_X6_bitsOf_b112 at hf
                    refine lv_fload_n hx hb dX6_bitsOf_112 rfl (lv_at hl 1 rfl) ?_
                    refine lv_fconst1 hx hb dX6_bitsOf_113 ?_
                    refine lv_fcmp hx hb dX6_bitsOf_114 ?_
                    refine lv_if_ge (tgt := 127) hx hb dX6_bitsOf_115 (by decide) (fun c10 => ?_) (fun c10 => ?_)
                    · have hf := dq_t hf c10
                      clear c10
                      refine lv_iload_n hx hb dX6_bitsOf_127 rfl (lv_at hl 0 rfl) ?_
                      refine lv_iload_n hx hb dX6_bitsOf_128 rfl (lv_at hl 2 rfl) ?_
                      refine lv_bipush (v := 23) hx hb dX6_bitsOf_129 (by decide) ?_
                      refine lv_ishl hx hb dX6_bitsOf_131 ?_
                      refine lv_ior hx hb dX6_bitsOf_132 ?_
                      refine lv_fload_n hx hb dX6_bitsOf_133 rfl (lv_at hl 1 rfl) ?_
                      refine lv_fconst1 hx hb dX6_bitsOf_134 ?_
                      obtain ⟨h11, hf⟩ := dq_g hf
                      refine lv_fsub hx hb dX6_bitsOf_135 h11 ?_
                      refine lv_topf (fun x12 ex12 => ?_)
                      have hf := dq_l hf x12 ex12
                      clear ex12
                      refine lv_ldcwf hx hb hown hw3 dX6_bitsOf_136 ?_
                      obtain ⟨h13, hf⟩ := dq_g hf
                      refine lv_fmul hx hb dX6_bitsOf_139 h13 ?_
                      refine lv_topf (fun x14 ex14 => ?_)
                      have hf := dq_l hf x14 ex14
                      clear ex14
                      refine lv_f2i hx hb dX6_bitsOf_140 ?_
                      refine lv_ior hx hb dX6_bitsOf_141 ?_
                      obtain rfl := dq_r1 hf
                      exact ct_iret hx hb hr hlocks hAe hP hK hD hS dX6_bitsOf_142
                    · have hf := dq_f hf c10
                      clear c10
                      refine lv_iload_n hx hb dX6_bitsOf_118 rfl (lv_at hl 0 rfl) ?_
                      refine lv_fload_n hx hb dX6_bitsOf_119 rfl (lv_at hl 1 rfl) ?_
                      refine lv_ldcwf hx hb hown hw3 dX6_bitsOf_120 ?_
                      obtain ⟨h15, hf⟩ := dq_g hf
                      refine lv_fmul hx hb dX6_bitsOf_123 h15 ?_
                      refine lv_topf (fun x16 ex16 => ?_)
                      have hf := dq_l hf x16 ex16
                      clear ex16
                      refine lv_f2i hx hb dX6_bitsOf_124 ?_
                      refine lv_ior hx hb dX6_bitsOf_125 ?_
                      obtain rfl := dq_r1 hf
                      exact ct_iret hx hb hr hlocks hAe hP hK hD hS dX6_bitsOf_126
                  refine lv_icmp_ge (tgt := 112) hx hb dX6_bitsOf_90 (by decide) (fun c17 => ?_) (fun c17 => ?_)
                  · have hf := dq_t hf c17
                    clear c17
                    exact J112  hf _ _ hP hD hS _ (lv_sub hl [0, 1, 2] rfl)
                  · have hf := dq_f hf c17
                    clear c17
                    refine lv_fload_n hx hb dX6_bitsOf_93 rfl (lv_at hl 1 rfl) ?_
                    refine lv_fconst1 hx hb dX6_bitsOf_94 ?_
                    refine lv_fcmp hx hb dX6_bitsOf_95 ?_
                    refine lv_if_ge (tgt := 112) hx hb dX6_bitsOf_96 (by decide) (fun c18 => ?_) (fun c18 => ?_)
                    · have hf := dq_t hf c18
                      clear c18
                      exact J112  hf _ _ hP hD hS _ (lv_sub hl [0, 1, 2] rfl)
                    · have hf := dq_f hf c18
                      clear c18
                      refine lv_fload_n hx hb dX6_bitsOf_99 rfl (lv_at hl 1 rfl) ?_
                      refine lv_fconst2 hx hb dX6_bitsOf_100 ?_
                      obtain ⟨h19, hf⟩ := dq_g hf
                      refine lv_fmul hx hb dX6_bitsOf_101 h19 ?_
                      refine lv_topf (fun x20 ex20 => ?_)
                      have hf := dq_l hf x20 ex20
                      clear ex20
                      refine lv_fstore_n (lv' := [(2, .float x20), (1, .int x2), (3, .int x8), (4, .int x9)]) hx hb dX6_bitsOf_102 rfl hl (by decide) rfl (fun ls hl => ?_)
                      obtain ⟨x21, ex21⟩ : ∃ z : Int32, z = (x8 + (-1 : Int32)) := ⟨_, rfl⟩
                      have hf := dq_l hf x21 ex21
                      refine lv_iinc (v := x21) (lv' := [(3, .int x21), (2, .float x20), (1, .int x2), (4, .int x9)]) hx hb dX6_bitsOf_103 hl (k := 2) rfl (by rw [ex21]; rfl) (by decide) rfl (fun ls hl => ?_)
                      clear ex21
                      obtain ⟨x22, ex22⟩ : ∃ z : Int32, z = (x9 + (1 : Int32)) := ⟨_, rfl⟩
                      have hf := dq_l hf x22 ex22
                      refine lv_iinc (v := x22) (lv' := [(4, .int x22), (3, .int x21), (2, .float x20), (1, .int x2)]) hx hb dX6_bitsOf_106 hl (k := 3) rfl (by rw [ex22]; rfl) (by decide) rfl (fun ls hl => ?_)
                      clear ex22
                      refine lv_goto (tgt := 86) hx hb dX6_bitsOf_109 (by decide) ?_
                      exact I86 _ _ _ hf _ _ hP hD hS _ (lv_sub hl [3, 2, 1, 0] rfl)
              exact J86 4096 _ _ _ hf _ _ hP hD hS _ (lv_sub hl [1, 2, 3, 0] rfl)
            refine lv_icmp_ge (tgt := 83) hx hb dX6_bitsOf_59 (by decide) (fun c23 => ?_) (fun c23 => ?_)
            · have hf := dq_t hf c23
              clear c23
              exact J83  hf _ _ hP hD hS _ (lv_sub hl [0, 1, 2] rfl)
            · have hf := dq_f hf c23
              clear c23
              refine lv_fload_n hx hb dX6_bitsOf_62 rfl (lv_at hl 1 rfl) ?_
              refine lv_fconst2 hx hb dX6_bitsOf_63 ?_
              refine lv_fcmp hx hb dX6_bitsOf_64 ?_
              refine lv_if_lt (tgt := 83) hx hb dX6_bitsOf_65 (by decide) (fun c24 => ?_) (fun c24 => ?_)
              · have hf := dq_t hf c24
                clear c24
                exact J83  hf _ _ hP hD hS _ (lv_sub hl [0, 1, 2] rfl)
              · have hf := dq_f hf c24
                clear c24
                refine lv_fload_n hx hb dX6_bitsOf_68 rfl (lv_at hl 1 rfl) ?_
                refine lv_ldcwf hx hb hown hw2 dX6_bitsOf_69 ?_
                obtain ⟨h25, hf⟩ := dq_g hf
                refine lv_fmul hx hb dX6_bitsOf_72 h25 ?_
                refine lv_topf (fun x26 ex26 => ?_)
                have hf := dq_l hf x26 ex26
                clear ex26
                refine lv_fstore_n (lv' := [(2, .float x26), (1, .int x2), (3, .int x5), (4, .int x6)]) hx hb dX6_bitsOf_73 rfl hl (by decide) rfl (fun ls hl => ?_)
                obtain ⟨x27, ex27⟩ : ∃ z : Int32, z = (x5 + (1 : Int32)) := ⟨_, rfl⟩
                have hf := dq_l hf x27 ex27
                refine lv_iinc (v := x27) (lv' := [(3, .int x27), (2, .float x26), (1, .int x2), (4, .int x6)]) hx hb dX6_bitsOf_74 hl (k := 2) rfl (by rw [ex27]; rfl) (by decide) rfl (fun ls hl => ?_)
                clear ex27
                obtain ⟨x28, ex28⟩ : ∃ z : Int32, z = (x6 + (1 : Int32)) := ⟨_, rfl⟩
                have hf := dq_l hf x28 ex28
                refine lv_iinc (v := x28) (lv' := [(4, .int x28), (3, .int x27), (2, .float x26), (1, .int x2)]) hx hb dX6_bitsOf_77 hl (k := 3) rfl (by rw [ex28]; rfl) (by decide) rfl (fun ls hl => ?_)
                clear ex28
                refine lv_goto (tgt := 55) hx hb dX6_bitsOf_80 (by decide) ?_
                exact I55 _ _ _ hf _ _ hP hD hS _ (lv_sub hl [3, 2, 1, 0] rfl)
        exact J55 4096 _ _ _ hf _ _ hP hD hS _ (lv_sub hl [3, 2, 1, 0] rfl)
      refine lv_if_ge (tgt := 47) hx hb dX6_bitsOf_39 (by decide) (fun c29 => ?_) (fun c29 => ?_)
      · have hf := dq_t hf c29
        clear c29
        refine lv_fload_n hx hb dX6_bitsOf_47 rfl (lv_at hl 1 rfl) ?_
        exact J48 _ hf _ _ hP hD hS _ (lv_sub hl [0] rfl)
      · have hf := dq_f hf c29
        clear c29
        refine lv_fload_n hx hb dX6_bitsOf_42 rfl (lv_at hl 1 rfl) ?_
        refine lv_fneg hx hb dX6_bitsOf_43 ?_
        refine lv_goto (tgt := 48) hx hb dX6_bitsOf_44 (by decide) ?_
        exact J48 _ hf _ _ hP hD hS _ (lv_sub hl [0] rfl)
    refine lv_if_ge (tgt := 34) hx hb dX6_bitsOf_25 (by decide) (fun c30 => ?_) (fun c30 => ?_)
    · have hf := dq_t hf c30
      clear c30
      refine lv_iconst (v := 0) hx hb dX6_bitsOf_34 (by decide) ?_
      exact J35 _ hf _ _ hP hD hS _ (lv_sub hl [0] rfl)
    · have hf := dq_f hf c30
      clear c30
      refine lv_ldcw hx hb hown hw1 dX6_bitsOf_28 ?_
      refine lv_goto (tgt := 35) hx hb dX6_bitsOf_31 (by decide) ?_
      exact J35 _ hf _ _ hP hD hS _ (lv_sub hl [0] rfl)
  · have hf := dq_t hf c1
    clear c1
    refine lv_fconst1 hx hb dX6_bitsOf_6 ?_
    refine lv_fload_n hx hb dX6_bitsOf_7 rfl (lv_at hl 0 rfl) ?_
    obtain ⟨h31, hf⟩ := dq_g hf
    refine lv_fdiv hx hb dX6_bitsOf_8 h31 ?_
    refine lv_topf (fun x32 ex32 => ?_)
    have hf := dq_l hf x32 ex32
    clear ex32
    refine lv_fconst0 hx hb dX6_bitsOf_9 ?_
    refine lv_fcmp hx hb dX6_bitsOf_10 ?_
    refine lv_if_ge (tgt := 20) hx hb dX6_bitsOf_11 (by decide) (fun c33 => ?_) (fun c33 => ?_)
    · have hf := dq_t hf c33
      clear c33
      refine lv_iconst (v := 0) hx hb dX6_bitsOf_20 (by decide) ?_
      obtain rfl := dq_r1 hf
      exact ct_iret hx hb hr hlocks hAe hP hK hD hS dX6_bitsOf_21
    · have hf := dq_f hf c33
      clear c33
      refine lv_ldcw hx hb hown hw1 dX6_bitsOf_14 ?_
      refine lv_goto (tgt := 21) hx hb dX6_bitsOf_17 (by decide) ?_
      obtain rfl := dq_r1 hf
      exact ct_iret hx hb hr hlocks hAe hP hK hD hS dX6_bitsOf_21
def w_X6_warm (y : Nat → ClassId) (a : Nat → Nat) (g_hasImage : Int32) (g_toldCount : Int32) (g_n_shutBits : Int64) (g_n_airs : Int32) (g_n_crownedBits : Int32) (g_n_sitters : Int32) (g_n_onBits : Int32) (g_n_turn : Int32) (g_n_taken : Int32) (g_n_warmth : (Nat → UInt32)) (g_n_kind : (Nat → Int32)) (g_n_figure : (Nat → Int32)) (g_n_airCell : (Nat → Int32)) (g_n_way : (Nat → Int32)) (g_n_seat : (Nat → Int32)) (g_n_shawls : (Nat → Int32)) (g_n_count : Int32) (g_n_steps : (Nat → Int32)) (g_n_numbers : (Nat → Int32)) : va_W := [((a 0), .inr (5, [.ref (a 1), .ref (a 12), .ref (a 23), .int g_hasImage, .ref (a 34), .ref (a 124), .ref (a 126), .ref (a 134), .int g_toldCount, .ref (a 135), .ref (a 136), .ref (a 137)])), ((a 1), .inr (1, [.ref (a 2), .long g_n_shutBits, .int g_n_airs, .ref (a 3), .ref (a 4), .ref (a 5), .ref (a 6), .int g_n_crownedBits, .int g_n_sitters, .ref (a 7), .ref (a 8), .int g_n_onBits, .int g_n_turn, .int g_n_taken, .ref (a 9)])), ((a 2), .inl (y 0, 36, .inr (.inr (.inl g_n_warmth)))), ((a 3), .inl (y 1, 5, .inl g_n_kind)), ((a 4), .inl (y 1, 5, .inl g_n_figure)), ((a 5), .inl (y 1, 5, .inl g_n_airCell)), ((a 6), .inl (y 1, 5, .inl g_n_way)), ((a 7), .inl (y 1, 6, .inl g_n_seat)), ((a 8), .inl (y 1, 6, .inl g_n_shawls)), ((a 9), .inr (0, [.ref (a 10), .ref (a 11), .int g_n_count])), ((a 10), .inl (y 1, 6, .inl g_n_steps)), ((a 11), .inl (y 1, 6, .inl g_n_numbers))]
noncomputable def f_X6_warm (g_n_warmth : (Nat → UInt32)) (n0 : Int32) : Option Int32 := dq_bd (f_X6_isCell n0) (fun (x1 : Int32) => dq_if (x1 = 0) (some (0 : Int32)) (dq_gd (vp_in n0 36) (dq_bd (f_X6_bitsOf (g_n_warmth n0.toNatClampNeg)) (fun (x5 : Int32) => some x5))))
-- DraughtsTake.warm(I)I
set_option maxHeartbeats 4000000 in
set_option maxRecDepth 100000 in
theorem m_X6_warm (l : Launch) (D : va_G) (y : Nat → ClassId) (a : (Nat → Nat)) (g_hasImage : Int32) (g_toldCount : Int32) (g_n_shutBits : Int64) (g_n_airs : Int32) (g_n_crownedBits : Int32) (g_n_sitters : Int32) (g_n_onBits : Int32) (g_n_turn : Int32) (g_n_taken : Int32) (g_n_warmth : (Nat → UInt32)) (g_n_kind : (Nat → Int32)) (g_n_figure : (Nat → Int32)) (g_n_airCell : (Nat → Int32)) (g_n_way : (Nat → Int32)) (g_n_seat : (Nat → Int32)) (g_n_shawls : (Nat → Int32)) (g_n_count : Int32) (g_n_steps : (Nat → Int32)) (g_n_numbers : (Nat → Int32)) (n0 : Int32) (z0 : Int32) (hf : f_X6_warm g_n_warmth n0 = some z0) : Ct l D y yX6_warm wsX6_warm 1 24 [.ref (a 0), .int n0] (w_X6_warm y a g_hasImage g_toldCount g_n_shutBits g_n_airs g_n_crownedBits g_n_sitters g_n_onBits g_n_turn g_n_taken g_n_warmth g_n_kind g_n_figure g_n_airCell g_n_way g_n_seat g_n_shawls g_n_count g_n_steps g_n_numbers) (w_X6_warm y a g_hasImage g_toldCount g_n_shutBits g_n_airs g_n_crownedBits g_n_sitters g_n_onBits g_n_turn g_n_taken g_n_warmth g_n_kind g_n_figure g_n_airCell g_n_way g_n_seat g_n_shawls g_n_count g_n_steps g_n_numbers) (some (.int z0)) := by
  refine ct_head (cc := cX6_warm) (n := 2) (ret := (some .int)) (by decide) rfl (Nat.le_of_ble_eq_true rfl) ?_
  intro p e s m below meth c A ls hx hb hr hml hown hlocks hts hA hAe hP hK hD hl
  have hS : va_S A s.heap s.heap [] := va_S.rf
  have hl : lv_has ls 2 [(0, .ref (a 0)), (1, .int n0)] := hl
  have hown : s.vm.findClass RX6 = some m.cls := hown
  have hw1 := hts (.fieldLink RX6 10 "DraughtsTake" "now" "LDraughtsTake$House;") (List.mem_of_getElem? (i := 1) rfl)
  have hw2 := hts (.fieldLink RX6 140 "DraughtsTake$House" "warmth" "[F") (List.mem_of_getElem? (i := 2) rfl)
  have hiX6 : ∀ w ∈ wsX60, w ∈ wsX6_warm := fun w h => List.mem_cons_of_mem _ (List.mem_append_left _ (List.mem_append_right _ (h)))
  have hiX2 : ∀ w ∈ wsX20, w ∈ wsX6_warm := fun w h => List.mem_cons_of_mem _ (List.mem_append_right _ (h))
  unfold f_X6_warm at hf
  refine lv_iload_n hx hb dX6_warm_0 rfl (lv_at hl 1 rfl) ?_
  obtain ⟨x1, hy2, hf⟩ := dq_b hf
  refine ct_callS0 (own := RX6) (As := [.int n0]) (rest := []) ⟨hx, hb, hml, hown, hts⟩ (m_X6_isCell l D y n0 x1 hy2) (va_cwS 1 hts gX6_warm_X6_isCell rfl rfl rfl (by decide +kernel) ⟨Nat.le_of_ble_eq_true rfl, Nat.le_of_ble_eq_true rfl⟩) rfl hl.1 rfl (Nat.le_of_ble_eq_true rfl) dX6_warm_1 ⟨Nat.zero_le _, Nat.zero_le _⟩ hK hP hD hS hA (fun H locs hP hD hS => ?_)
  refine lv_if_eq (tgt := 22) hx hb dX6_warm_4 (by decide) (fun c3 => ?_) (fun c3 => ?_)
  · have hf := dq_t hf c3
    clear c3
    refine lv_iconst (v := 0) hx hb dX6_warm_22 (by decide) ?_
    obtain rfl := dq_r1 hf
    exact ct_iret hx hb hr hlocks hAe hP hK hD hS dX6_warm_23
  · have hf := dq_f hf c3
    clear c3
    refine lv_aload_n hx hb dX6_warm_7 rfl (lv_at hl 0 rfl) ?_
    refine va_get (D := D) (ci := 5) (v := .ref (a 1)) (C := RX6) (T := TX6) (N := 12) hx hb hts hiX6 hown hK hP 0 rfl rfl 0 (by decide) hw1 (fun _ h9 => h9) rfl dX6_warm_8 ?_
    refine va_get (D := D) (ci := 1) (v := .ref (a 2)) (C := RX2) (T := TX2) (N := 15) hx hb hts hiX2 hown hK hP 1 rfl rfl 0 (by decide) hw2 (fun _ h9 => h9) rfl dX6_warm_11 ?_
    refine lv_iload_n hx hb dX6_warm_14 rfl (lv_at hl 1 rfl) ?_
    obtain ⟨h4, hf⟩ := dq_g hf
    refine va_fald (cA := y 0) (n := 36) (f := g_n_warmth) hx hb hK hP 2 0 rfl rfl h4 dX6_warm_15 ?_
    obtain ⟨x5, hy6, hf⟩ := dq_b hf
    refine ct_callS0 (own := RX6) (As := [.float (g_n_warmth n0.toNatClampNeg)]) (rest := []) ⟨hx, hb, hml, hown, hts⟩ (m_X6_bitsOf l D y (g_n_warmth n0.toNatClampNeg) x5 hy6) (va_cwS 1 hts gX6_warm_X6_bitsOf rfl rfl rfl (by decide +kernel) ⟨Nat.le_of_ble_eq_true rfl, Nat.le_of_ble_eq_true rfl⟩) rfl hl.1 rfl (Nat.le_of_ble_eq_true rfl) dX6_warm_16 ⟨Nat.zero_le _, Nat.zero_le _⟩ hK hP hD hS hA (fun H locs hP hD hS => ?_)
    refine lv_goto (tgt := 23) hx hb dX6_warm_19 (by decide) ?_
    obtain rfl := dq_r1 hf
    exact ct_iret hx hb hr hlocks hAe hP hK hD hS dX6_warm_23
def w_X6_comes (y : Nat → ClassId) (a : Nat → Nat) (g_hasImage : Int32) (g_toldCount : Int32) (g_n_shutBits : Int64) (g_n_airs : Int32) (g_n_crownedBits : Int32) (g_n_sitters : Int32) (g_n_onBits : Int32) (g_n_turn : Int32) (g_n_taken : Int32) (g_n_warmth : (Nat → UInt32)) (g_n_kind : (Nat → Int32)) (g_n_figure : (Nat → Int32)) (g_n_airCell : (Nat → Int32)) (g_n_way : (Nat → Int32)) (g_n_seat : (Nat → Int32)) (g_n_shawls : (Nat → Int32)) (g_n_count : Int32) (g_n_steps : (Nat → Int32)) (g_n_numbers : (Nat → Int32)) (g_past_next : Int32) (g_past_count : Int32) (g_refused : (Nat → Int32)) : va_W := [((a 0), .inr (5, [.ref (a 1), .ref (a 12), .ref (a 23), .int g_hasImage, .ref (a 34), .ref (a 124), .ref (a 126), .ref (a 134), .int g_toldCount, .ref (a 135), .ref (a 136), .ref (a 137)])), ((a 1), .inr (1, [.ref (a 2), .long g_n_shutBits, .int g_n_airs, .ref (a 3), .ref (a 4), .ref (a 5), .ref (a 6), .int g_n_crownedBits, .int g_n_sitters, .ref (a 7), .ref (a 8), .int g_n_onBits, .int g_n_turn, .int g_n_taken, .ref (a 9)])), ((a 2), .inl (y 0, 36, .inr (.inr (.inl g_n_warmth)))), ((a 3), .inl (y 1, 5, .inl g_n_kind)), ((a 4), .inl (y 1, 5, .inl g_n_figure)), ((a 5), .inl (y 1, 5, .inl g_n_airCell)), ((a 6), .inl (y 1, 5, .inl g_n_way)), ((a 7), .inl (y 1, 6, .inl g_n_seat)), ((a 8), .inl (y 1, 6, .inl g_n_shawls)), ((a 9), .inr (0, [.ref (a 10), .ref (a 11), .int g_n_count])), ((a 10), .inl (y 1, 6, .inl g_n_steps)), ((a 11), .inl (y 1, 6, .inl g_n_numbers)), ((a 34), .inr (2, [.ref (a 35), .int g_past_next, .int g_past_count])), ((a 135), .inl (y 1, 7, .inl g_refused))]
noncomputable def f_X6_comes (g_n_shutBits : Int64) (g_n_airs : Int32) (g_n_sitters : Int32) (g_n_onBits : Int32) (g_n_kind : (Nat → Int32)) (g_n_figure : (Nat → Int32)) (g_n_airCell : (Nat → Int32)) (g_n_way : (Nat → Int32)) (g_n_seat : (Nat → Int32)) (g_past_count : Int32) (g_refused : (Nat → Int32)) (n0 : Int32) (n1 : Int32) (n2 : Int32) : Option (Int32 × Int32 × (Nat → Int32) × (Nat → Int32) × (Nat → Int32) × (Nat → Int32) × Int32 × (Nat → Int32)) := dq_if (n0 < 0) (dq_bd2 (f_X6_refuse g_refused (-2 : Int32)) (fun (x2 : Int32) (g_refused_3 : (Nat → Int32)) => some (x2, g_n_airs, g_n_kind, g_n_figure, g_n_airCell, g_n_way, g_past_count, g_refused_3))) (dq_if (n0 < (8 : Int32)) (dq_if (0 ≤ n1) (dq_if ((9 : Int32) < n1) (dq_bd2 (f_X6_refuse g_refused (-6 : Int32)) (fun (x8 : Int32) (g_refused_9 : (Nat → Int32)) => some (x8, g_n_airs, g_n_kind, g_n_figure, g_n_airCell, g_n_way, g_past_count, g_refused_9))) (dq_if (g_n_airs < (5 : Int32)) (dq_bd (f_X6_isCell n2) (fun (x12 : Int32) => dq_if (x12 = 0) (dq_bd2 (f_X6_refuse g_refused (-1 : Int32)) (fun (x28 : Int32) (g_refused_29 : (Nat → Int32)) => some (x28, g_n_airs, g_n_kind, g_n_figure, g_n_airCell, g_n_way, g_past_count, g_refused_29))) (dq_bd6 (f_X2_addAir g_n_shutBits g_n_airs g_n_sitters g_n_onBits g_n_kind g_n_figure g_n_airCell g_n_way g_n_seat n0 n1 n2 (0 : Int32)) (fun (x15 : Int32) (g_n_airs_16 : Int32) (g_n_kind_17 : (Nat → Int32)) (g_n_figure_18 : (Nat → Int32)) (g_n_airCell_19 : (Nat → Int32)) (g_n_way_20 : (Nat → Int32)) => dq_if (x15 = 0) (dq_bd2 (f_X6_refuse g_refused (-3 : Int32)) (fun (x25 : Int32) (g_refused_26 : (Nat → Int32)) => some (x25, g_n_airs_16, g_n_kind_17, g_n_figure_18, g_n_airCell_19, g_n_way_20, g_past_count, g_refused_26))) (dq_bd (f_X3_forget) (fun (g_past_count_23 : Int32) => some ((g_n_airs_16 - (1 : Int32)), g_n_airs_16, g_n_kind_17, g_n_figure_18, g_n_airCell_19, g_n_way_20, g_past_count_23, g_refused))))))) (dq_bd2 (f_X6_refuse g_refused (-6 : Int32)) (fun (x31 : Int32) (g_refused_32 : (Nat → Int32)) => some (x31, g_n_airs, g_n_kind, g_n_figure, g_n_airCell, g_n_way, g_past_count, g_refused_32))))) (dq_bd2 (f_X6_refuse g_refused (-4 : Int32)) (fun (x34 : Int32) (g_refused_35 : (Nat → Int32)) => some (x34, g_n_airs, g_n_kind, g_n_figure, g_n_airCell, g_n_way, g_past_count, g_refused_35)))) (dq_bd2 (f_X6_refuse g_refused (-2 : Int32)) (fun (x37 : Int32) (g_refused_38 : (Nat → Int32)) => some (x37, g_n_airs, g_n_kind, g_n_figure, g_n_airCell, g_n_way, g_past_count, g_refused_38))))
-- DraughtsTake.comes(III)I
set_option maxHeartbeats 4000000 in
set_option maxRecDepth 100000 in
theorem m_X6_comes (l : Launch) (D : va_G) (y : Nat → ClassId) (a : (Nat → Nat)) (g_hasImage : Int32) (g_toldCount : Int32) (g_n_shutBits : Int64) (g_n_airs : Int32) (g_n_crownedBits : Int32) (g_n_sitters : Int32) (g_n_onBits : Int32) (g_n_turn : Int32) (g_n_taken : Int32) (g_n_warmth : (Nat → UInt32)) (g_n_kind : (Nat → Int32)) (g_n_figure : (Nat → Int32)) (g_n_airCell : (Nat → Int32)) (g_n_way : (Nat → Int32)) (g_n_seat : (Nat → Int32)) (g_n_shawls : (Nat → Int32)) (g_n_count : Int32) (g_n_steps : (Nat → Int32)) (g_n_numbers : (Nat → Int32)) (g_past_next : Int32) (g_past_count : Int32) (g_refused : (Nat → Int32)) (n0 : Int32) (n1 : Int32) (n2 : Int32) (z0 : Int32) (z1 : Int32) (z2 : (Nat → Int32)) (z3 : (Nat → Int32)) (z4 : (Nat → Int32)) (z5 : (Nat → Int32)) (z6 : Int32) (z7 : (Nat → Int32)) (hf : f_X6_comes g_n_shutBits g_n_airs g_n_sitters g_n_onBits g_n_kind g_n_figure g_n_airCell g_n_way g_n_seat g_past_count g_refused n0 n1 n2 = some (z0, z1, z2, z3, z4, z5, z6, z7)) : Ct l D y yX6_comes wsX6_comes 3 67 [.ref (a 0), .int n0, .int n1, .int n2] (w_X6_comes y a g_hasImage g_toldCount g_n_shutBits g_n_airs g_n_crownedBits g_n_sitters g_n_onBits g_n_turn g_n_taken g_n_warmth g_n_kind g_n_figure g_n_airCell g_n_way g_n_seat g_n_shawls g_n_count g_n_steps g_n_numbers g_past_next g_past_count g_refused) (w_X6_comes y a g_hasImage g_toldCount g_n_shutBits z1 g_n_crownedBits g_n_sitters g_n_onBits g_n_turn g_n_taken g_n_warmth z2 z3 z4 z5 g_n_seat g_n_shawls g_n_count g_n_steps g_n_numbers g_past_next z6 z7) (some (.int z0)) := by
  refine ct_head (cc := cX6_comes) (n := 4) (ret := (some .int)) (by decide) rfl (Nat.le_of_ble_eq_true rfl) ?_
  intro p e s m below meth c A ls hx hb hr hml hown hlocks hts hA hAe hP hK hD hl
  have hS : va_S A s.heap s.heap [] := va_S.rf
  have hl : lv_has ls 4 [(0, .ref (a 0)), (1, .int n0), (2, .int n1), (3, .int n2)] := hl
  have hown : s.vm.findClass RX6 = some m.cls := hown
  have hw1 := hts (.fieldLink RX6 10 "DraughtsTake" "now" "LDraughtsTake$House;") (List.mem_of_getElem? (i := 1) rfl)
  have hw2 := hts (.fieldLink RX6 148 "DraughtsTake$House" "airs" "I") (List.mem_of_getElem? (i := 2) rfl)
  have hw3 := hts (.fieldLink RX6 25 "DraughtsTake" "past" "LDraughtsTake$Past;") (List.mem_of_getElem? (i := 3) rfl)
  have hiX6 : ∀ w ∈ wsX60, w ∈ wsX6_comes := fun w h => List.mem_cons_of_mem _ (List.mem_append_left _ (List.mem_append_left _ (List.mem_append_right _ (h))))
  have hiX2 : ∀ w ∈ wsX20, w ∈ wsX6_comes := fun w h => List.mem_cons_of_mem _ (List.mem_append_left _ (List.mem_append_right _ (h)))
  unfold f_X6_comes at hf
  refine lv_iload_n hx hb dX6_comes_0 rfl (lv_at hl 1 rfl) ?_
  refine lv_if_lt (tgt := 10) hx hb dX6_comes_1 (by decide) (fun c1 => ?_) (fun c1 => ?_)
  · have hf := dq_t hf c1
    clear c1
    refine lv_aload_n hx hb dX6_comes_10 rfl (lv_at hl 0 rfl) ?_
    refine lv_bipush (v := -2) hx hb dX6_comes_11 (by decide) ?_
    obtain ⟨x2, g_refused_3, hy4, hf⟩ := dq_b2 hf
    refine ct_callV (ci := 5) (q0 := 0) (own := RX6) (As := [.int (-2 : Int32)]) (rest := []) (ws' := (w_X6_comes y a g_hasImage g_toldCount g_n_shutBits g_n_airs g_n_crownedBits g_n_sitters g_n_onBits g_n_turn g_n_taken g_n_warmth g_n_kind g_n_figure g_n_airCell g_n_way g_n_seat g_n_shawls g_n_count g_n_steps g_n_numbers g_past_next g_past_count g_refused_3)) ⟨hx, hb, hml, hown, hts⟩ (m_X6_refuse l D y a g_hasImage g_toldCount g_refused (-2 : Int32) x2 g_refused_3 hy4) (cwV 1 hts gX6_comes_X6_refuse rfl rfl rfl (by decide +kernel) ⟨Nat.le_of_ble_eq_true rfl, Nat.le_of_ble_eq_true rfl⟩) rfl rfl rfl hl.1 rfl (Nat.le_of_ble_eq_true rfl) dX6_comes_13 ⟨Nat.zero_le _, Nat.zero_le _⟩ hK hP hD hS hA [0, 13] [1, 2, 3, 4, 5, 6, 7, 8, 9, 10, 11, 12] rfl rfl rfl (by decide) (by decide) 14 rfl (by decide +kernel) (fun H locs hP hD hS => ?_)
    obtain ⟨rfl, rfl, rfl, rfl, rfl, rfl, rfl, rfl⟩ := dq_r8 hf
    exact ct_iret hx hb hr hlocks hAe hP hK hD hS dX6_comes_16
  · have hf := dq_f hf c1
    clear c1
    refine lv_iload_n hx hb dX6_comes_4 rfl (lv_at hl 1 rfl) ?_
    refine lv_bipush (v := 8) hx hb dX6_comes_5 (by decide) ?_
    refine lv_icmp_lt (tgt := 17) hx hb dX6_comes_7 (by decide) (fun c5 => ?_) (fun c5 => ?_)
    · have hf := dq_t hf c5
      clear c5
      refine lv_iload_n hx hb dX6_comes_17 rfl (lv_at hl 2 rfl) ?_
      refine lv_if_ge (tgt := 28) hx hb dX6_comes_18 (by decide) (fun c6 => ?_) (fun c6 => ?_)
      · have hf := dq_t hf c6
        clear c6
        refine lv_iload_n hx hb dX6_comes_28 rfl (lv_at hl 2 rfl) ?_
        refine lv_bipush (v := 9) hx hb dX6_comes_29 (by decide) ?_
        refine lv_icmp_gt (tgt := 45) hx hb dX6_comes_31 (by decide) (fun c7 => ?_) (fun c7 => ?_)
        · have hf := dq_t hf c7
          clear c7
          refine lv_aload_n hx hb dX6_comes_45 rfl (lv_at hl 0 rfl) ?_
          refine lv_bipush (v := -6) hx hb dX6_comes_46 (by decide) ?_
          obtain ⟨x8, g_refused_9, hy10, hf⟩ := dq_b2 hf
          refine ct_callV (ci := 5) (q0 := 0) (own := RX6) (As := [.int (-6 : Int32)]) (rest := []) (ws' := (w_X6_comes y a g_hasImage g_toldCount g_n_shutBits g_n_airs g_n_crownedBits g_n_sitters g_n_onBits g_n_turn g_n_taken g_n_warmth g_n_kind g_n_figure g_n_airCell g_n_way g_n_seat g_n_shawls g_n_count g_n_steps g_n_numbers g_past_next g_past_count g_refused_9)) ⟨hx, hb, hml, hown, hts⟩ (m_X6_refuse l D y a g_hasImage g_toldCount g_refused (-6 : Int32) x8 g_refused_9 hy10) (cwV 1 hts gX6_comes_X6_refuse rfl rfl rfl (by decide +kernel) ⟨Nat.le_of_ble_eq_true rfl, Nat.le_of_ble_eq_true rfl⟩) rfl rfl rfl hl.1 rfl (Nat.le_of_ble_eq_true rfl) dX6_comes_48 ⟨Nat.zero_le _, Nat.zero_le _⟩ hK hP hD hS hA [0, 13] [1, 2, 3, 4, 5, 6, 7, 8, 9, 10, 11, 12] rfl rfl rfl (by decide) (by decide) 14 rfl (by decide +kernel) (fun H locs hP hD hS => ?_)
          obtain ⟨rfl, rfl, rfl, rfl, rfl, rfl, rfl, rfl⟩ := dq_r8 hf
          exact ct_iret hx hb hr hlocks hAe hP hK hD hS dX6_comes_51
        · have hf := dq_f hf c7
          clear c7
          refine lv_aload_n hx hb dX6_comes_34 rfl (lv_at hl 0 rfl) ?_
          refine va_get (D := D) (ci := 5) (v := .ref (a 1)) (C := RX6) (T := TX6) (N := 12) hx hb hts hiX6 hown hK hP 0 rfl rfl 0 (by decide) hw1 (fun _ h9 => h9) rfl dX6_comes_35 ?_
          refine va_get (D := D) (ci := 1) (v := .int g_n_airs) (C := RX2) (T := TX2) (N := 15) hx hb hts hiX2 hown hK hP 1 rfl rfl 2 (by decide) hw2 (fun _ h9 => h9) rfl dX6_comes_38 ?_
          refine lv_iconst (v := 5) hx hb dX6_comes_41 (by decide) ?_
          refine lv_icmp_lt (tgt := 52) hx hb dX6_comes_42 (by decide) (fun c11 => ?_) (fun c11 => ?_)
          · have hf := dq_t hf c11
            clear c11
            refine lv_iload_n hx hb dX6_comes_52 rfl (lv_at hl 3 rfl) ?_
            obtain ⟨x12, hy13, hf⟩ := dq_b hf
            refine ct_callS0 (own := RX6) (As := [.int n2]) (rest := []) ⟨hx, hb, hml, hown, hts⟩ (m_X6_isCell l D y n2 x12 hy13) (va_cwS 1 hts gX6_comes_X6_isCell rfl rfl rfl (by decide +kernel) ⟨Nat.le_of_ble_eq_true rfl, Nat.le_of_ble_eq_true rfl⟩) rfl hl.1 rfl (Nat.le_of_ble_eq_true rfl) dX6_comes_53 ⟨Nat.zero_le _, Nat.zero_le _⟩ hK hP hD hS hA (fun H locs hP hD hS => ?_)
            refine lv_if_ne (tgt := 65) hx hb dX6_comes_56 (by decide) (fun c14 => ?_) (fun c14 => ?_)
            · have hf := dq_f hf c14
              clear c14
              refine lv_aload_n hx hb dX6_comes_65 rfl (lv_at hl 0 rfl) ?_
              refine va_get (D := D) (ci := 5) (v := .ref (a 1)) (C := RX6) (T := TX6) (N := 12) hx hb hts hiX6 hown hK hP 0 rfl rfl 0 (by decide) hw1 (fun _ h9 => h9) rfl dX6_comes_66 ?_
              refine lv_iload_n hx hb dX6_comes_69 rfl (lv_at hl 1 rfl) ?_
              refine lv_iload_n hx hb dX6_comes_70 rfl (lv_at hl 2 rfl) ?_
              refine lv_iload_n hx hb dX6_comes_71 rfl (lv_at hl 3 rfl) ?_
              refine lv_iconst (v := 0) hx hb dX6_comes_72 (by decide) ?_
              obtain ⟨x15, g_n_airs_16, g_n_kind_17, g_n_figure_18, g_n_airCell_19, g_n_way_20, hy21, hf⟩ := dq_b6 hf
              refine ct_callV (ci := 1) (q0 := 0) (own := RX6) (As := [.int n0, .int n1, .int n2, .int (0 : Int32)]) (rest := []) (ws' := (w_X6_comes y a g_hasImage g_toldCount g_n_shutBits g_n_airs_16 g_n_crownedBits g_n_sitters g_n_onBits g_n_turn g_n_taken g_n_warmth g_n_kind_17 g_n_figure_18 g_n_airCell_19 g_n_way_20 g_n_seat g_n_shawls g_n_count g_n_steps g_n_numbers g_past_next g_past_count g_refused)) ⟨hx, hb, hml, hown, hts⟩ (m_X2_addAir l D y (fun k => a (1 + k)) g_n_shutBits g_n_airs g_n_crownedBits g_n_sitters g_n_onBits g_n_turn g_n_taken g_n_warmth g_n_kind g_n_figure g_n_airCell g_n_way g_n_seat g_n_shawls g_n_count g_n_steps g_n_numbers n0 n1 n2 (0 : Int32) x15 g_n_airs_16 g_n_kind_17 g_n_figure_18 g_n_airCell_19 g_n_way_20 hy21) (cwV 4 hts gX6_comes_X2_addAir rfl rfl rfl (by decide +kernel) ⟨Nat.le_of_ble_eq_true rfl, Nat.le_of_ble_eq_true rfl⟩) rfl rfl rfl hl.1 rfl (Nat.le_of_ble_eq_true rfl) dX6_comes_73 ⟨Nat.zero_le _, Nat.zero_le _⟩ hK hP hD hS hA [1, 2, 3, 4, 5, 6, 7, 8, 9, 10, 11] [0, 12, 13] rfl rfl rfl (by decide) (by decide) 14 rfl (by decide +kernel) (fun H locs hP hD hS => ?_)
              refine lv_if_ne (tgt := 86) hx hb dX6_comes_76 (by decide) (fun c22 => ?_) (fun c22 => ?_)
              · have hf := dq_f hf c22
                clear c22
                refine lv_aload_n hx hb dX6_comes_86 rfl (lv_at hl 0 rfl) ?_
                refine va_get (D := D) (ci := 5) (v := .ref (a 34)) (C := RX6) (T := TX6) (N := 12) hx hb hts hiX6 hown hK hP 0 rfl rfl 4 (by decide) hw3 (fun _ h9 => h9) rfl dX6_comes_87 ?_
                obtain ⟨g_past_count_23, hy24, hf⟩ := dq_b hf
                refine ct_callV (ci := 2) (q0 := 0) (own := RX6) (As := []) (rest := []) (ws' := (w_X6_comes y a g_hasImage g_toldCount g_n_shutBits g_n_airs_16 g_n_crownedBits g_n_sitters g_n_onBits g_n_turn g_n_taken g_n_warmth g_n_kind_17 g_n_figure_18 g_n_airCell_19 g_n_way_20 g_n_seat g_n_shawls g_n_count g_n_steps g_n_numbers g_past_next g_past_count_23 g_refused)) ⟨hx, hb, hml, hown, hts⟩ (m_X3_forget l D y (fun k => a (34 + k)) g_past_next g_past_count g_past_count_23 hy24) (cwV 0 hts gX6_comes_X3_forget rfl rfl rfl (by decide +kernel) ⟨Nat.le_of_ble_eq_true rfl, Nat.le_of_ble_eq_true rfl⟩) rfl rfl rfl hl.1 rfl (Nat.le_of_ble_eq_true rfl) dX6_comes_90 ⟨Nat.zero_le _, Nat.zero_le _⟩ hK hP hD hS hA [12] [0, 1, 2, 3, 4, 5, 6, 7, 8, 9, 10, 11, 13] rfl rfl rfl (by decide) (by decide) 14 rfl (by decide +kernel) (fun H locs hP hD hS => ?_)
                refine lv_aload_n hx hb dX6_comes_93 rfl (lv_at hl 0 rfl) ?_
                refine va_get (D := D) (ci := 5) (v := .ref (a 1)) (C := RX6) (T := TX6) (N := 12) hx hb hts hiX6 hown hK hP 0 rfl rfl 0 (by decide) hw1 (fun _ h9 => h9) rfl dX6_comes_94 ?_
                refine va_get (D := D) (ci := 1) (v := .int g_n_airs_16) (C := RX2) (T := TX2) (N := 15) hx hb hts hiX2 hown hK hP 1 rfl rfl 2 (by decide) hw2 (fun _ h9 => h9) rfl dX6_comes_97 ?_
                refine lv_iconst (v := 1) hx hb dX6_comes_100 (by decide) ?_
                refine lv_isub hx hb dX6_comes_101 ?_
                obtain ⟨rfl, rfl, rfl, rfl, rfl, rfl, rfl, rfl⟩ := dq_r8 hf
                exact ct_iret hx hb hr hlocks hAe hP hK hD hS dX6_comes_102
              · have hf := dq_t hf c22
                clear c22
                refine lv_aload_n hx hb dX6_comes_79 rfl (lv_at hl 0 rfl) ?_
                refine lv_bipush (v := -3) hx hb dX6_comes_80 (by decide) ?_
                obtain ⟨x25, g_refused_26, hy27, hf⟩ := dq_b2 hf
                refine ct_callV (ci := 5) (q0 := 0) (own := RX6) (As := [.int (-3 : Int32)]) (rest := []) (ws' := (w_X6_comes y a g_hasImage g_toldCount g_n_shutBits g_n_airs_16 g_n_crownedBits g_n_sitters g_n_onBits g_n_turn g_n_taken g_n_warmth g_n_kind_17 g_n_figure_18 g_n_airCell_19 g_n_way_20 g_n_seat g_n_shawls g_n_count g_n_steps g_n_numbers g_past_next g_past_count g_refused_26)) ⟨hx, hb, hml, hown, hts⟩ (m_X6_refuse l D y a g_hasImage g_toldCount g_refused (-3 : Int32) x25 g_refused_26 hy27) (cwV 1 hts gX6_comes_X6_refuse rfl rfl rfl (by decide +kernel) ⟨Nat.le_of_ble_eq_true rfl, Nat.le_of_ble_eq_true rfl⟩) rfl rfl rfl hl.1 rfl (Nat.le_of_ble_eq_true rfl) dX6_comes_82 ⟨Nat.zero_le _, Nat.zero_le _⟩ hK hP hD hS hA [0, 13] [1, 2, 3, 4, 5, 6, 7, 8, 9, 10, 11, 12] rfl rfl rfl (by decide) (by decide) 14 rfl (by decide +kernel) (fun H locs hP hD hS => ?_)
                obtain ⟨rfl, rfl, rfl, rfl, rfl, rfl, rfl, rfl⟩ := dq_r8 hf
                exact ct_iret hx hb hr hlocks hAe hP hK hD hS dX6_comes_85
            · have hf := dq_t hf c14
              clear c14
              refine lv_aload_n hx hb dX6_comes_59 rfl (lv_at hl 0 rfl) ?_
              refine lv_iconst (v := -1) hx hb dX6_comes_60 (by decide) ?_
              obtain ⟨x28, g_refused_29, hy30, hf⟩ := dq_b2 hf
              refine ct_callV (ci := 5) (q0 := 0) (own := RX6) (As := [.int (-1 : Int32)]) (rest := []) (ws' := (w_X6_comes y a g_hasImage g_toldCount g_n_shutBits g_n_airs g_n_crownedBits g_n_sitters g_n_onBits g_n_turn g_n_taken g_n_warmth g_n_kind g_n_figure g_n_airCell g_n_way g_n_seat g_n_shawls g_n_count g_n_steps g_n_numbers g_past_next g_past_count g_refused_29)) ⟨hx, hb, hml, hown, hts⟩ (m_X6_refuse l D y a g_hasImage g_toldCount g_refused (-1 : Int32) x28 g_refused_29 hy30) (cwV 1 hts gX6_comes_X6_refuse rfl rfl rfl (by decide +kernel) ⟨Nat.le_of_ble_eq_true rfl, Nat.le_of_ble_eq_true rfl⟩) rfl rfl rfl hl.1 rfl (Nat.le_of_ble_eq_true rfl) dX6_comes_61 ⟨Nat.zero_le _, Nat.zero_le _⟩ hK hP hD hS hA [0, 13] [1, 2, 3, 4, 5, 6, 7, 8, 9, 10, 11, 12] rfl rfl rfl (by decide) (by decide) 14 rfl (by decide +kernel) (fun H locs hP hD hS => ?_)
              obtain ⟨rfl, rfl, rfl, rfl, rfl, rfl, rfl, rfl⟩ := dq_r8 hf
              exact ct_iret hx hb hr hlocks hAe hP hK hD hS dX6_comes_64
          · have hf := dq_f hf c11
            clear c11
            refine lv_aload_n hx hb dX6_comes_45 rfl (lv_at hl 0 rfl) ?_
            refine lv_bipush (v := -6) hx hb dX6_comes_46 (by decide) ?_
            obtain ⟨x31, g_refused_32, hy33, hf⟩ := dq_b2 hf
            refine ct_callV (ci := 5) (q0 := 0) (own := RX6) (As := [.int (-6 : Int32)]) (rest := []) (ws' := (w_X6_comes y a g_hasImage g_toldCount g_n_shutBits g_n_airs g_n_crownedBits g_n_sitters g_n_onBits g_n_turn g_n_taken g_n_warmth g_n_kind g_n_figure g_n_airCell g_n_way g_n_seat g_n_shawls g_n_count g_n_steps g_n_numbers g_past_next g_past_count g_refused_32)) ⟨hx, hb, hml, hown, hts⟩ (m_X6_refuse l D y a g_hasImage g_toldCount g_refused (-6 : Int32) x31 g_refused_32 hy33) (cwV 1 hts gX6_comes_X6_refuse rfl rfl rfl (by decide +kernel) ⟨Nat.le_of_ble_eq_true rfl, Nat.le_of_ble_eq_true rfl⟩) rfl rfl rfl hl.1 rfl (Nat.le_of_ble_eq_true rfl) dX6_comes_48 ⟨Nat.zero_le _, Nat.zero_le _⟩ hK hP hD hS hA [0, 13] [1, 2, 3, 4, 5, 6, 7, 8, 9, 10, 11, 12] rfl rfl rfl (by decide) (by decide) 14 rfl (by decide +kernel) (fun H locs hP hD hS => ?_)
            obtain ⟨rfl, rfl, rfl, rfl, rfl, rfl, rfl, rfl⟩ := dq_r8 hf
            exact ct_iret hx hb hr hlocks hAe hP hK hD hS dX6_comes_51
      · have hf := dq_f hf c6
        clear c6
        refine lv_aload_n hx hb dX6_comes_21 rfl (lv_at hl 0 rfl) ?_
        refine lv_bipush (v := -4) hx hb dX6_comes_22 (by decide) ?_
        obtain ⟨x34, g_refused_35, hy36, hf⟩ := dq_b2 hf
        refine ct_callV (ci := 5) (q0 := 0) (own := RX6) (As := [.int (-4 : Int32)]) (rest := []) (ws' := (w_X6_comes y a g_hasImage g_toldCount g_n_shutBits g_n_airs g_n_crownedBits g_n_sitters g_n_onBits g_n_turn g_n_taken g_n_warmth g_n_kind g_n_figure g_n_airCell g_n_way g_n_seat g_n_shawls g_n_count g_n_steps g_n_numbers g_past_next g_past_count g_refused_35)) ⟨hx, hb, hml, hown, hts⟩ (m_X6_refuse l D y a g_hasImage g_toldCount g_refused (-4 : Int32) x34 g_refused_35 hy36) (cwV 1 hts gX6_comes_X6_refuse rfl rfl rfl (by decide +kernel) ⟨Nat.le_of_ble_eq_true rfl, Nat.le_of_ble_eq_true rfl⟩) rfl rfl rfl hl.1 rfl (Nat.le_of_ble_eq_true rfl) dX6_comes_24 ⟨Nat.zero_le _, Nat.zero_le _⟩ hK hP hD hS hA [0, 13] [1, 2, 3, 4, 5, 6, 7, 8, 9, 10, 11, 12] rfl rfl rfl (by decide) (by decide) 14 rfl (by decide +kernel) (fun H locs hP hD hS => ?_)
        obtain ⟨rfl, rfl, rfl, rfl, rfl, rfl, rfl, rfl⟩ := dq_r8 hf
        exact ct_iret hx hb hr hlocks hAe hP hK hD hS dX6_comes_27
    · have hf := dq_f hf c5
      clear c5
      refine lv_aload_n hx hb dX6_comes_10 rfl (lv_at hl 0 rfl) ?_
      refine lv_bipush (v := -2) hx hb dX6_comes_11 (by decide) ?_
      obtain ⟨x37, g_refused_38, hy39, hf⟩ := dq_b2 hf
      refine ct_callV (ci := 5) (q0 := 0) (own := RX6) (As := [.int (-2 : Int32)]) (rest := []) (ws' := (w_X6_comes y a g_hasImage g_toldCount g_n_shutBits g_n_airs g_n_crownedBits g_n_sitters g_n_onBits g_n_turn g_n_taken g_n_warmth g_n_kind g_n_figure g_n_airCell g_n_way g_n_seat g_n_shawls g_n_count g_n_steps g_n_numbers g_past_next g_past_count g_refused_38)) ⟨hx, hb, hml, hown, hts⟩ (m_X6_refuse l D y a g_hasImage g_toldCount g_refused (-2 : Int32) x37 g_refused_38 hy39) (cwV 1 hts gX6_comes_X6_refuse rfl rfl rfl (by decide +kernel) ⟨Nat.le_of_ble_eq_true rfl, Nat.le_of_ble_eq_true rfl⟩) rfl rfl rfl hl.1 rfl (Nat.le_of_ble_eq_true rfl) dX6_comes_13 ⟨Nat.zero_le _, Nat.zero_le _⟩ hK hP hD hS hA [0, 13] [1, 2, 3, 4, 5, 6, 7, 8, 9, 10, 11, 12] rfl rfl rfl (by decide) (by decide) 14 rfl (by decide +kernel) (fun H locs hP hD hS => ?_)
      obtain ⟨rfl, rfl, rfl, rfl, rfl, rfl, rfl, rfl⟩ := dq_r8 hf
      exact ct_iret hx hb hr hlocks hAe hP hK hD hS dX6_comes_16
def w_X6_sitsDown (y : Nat → ClassId) (a : Nat → Nat) (g_hasImage : Int32) (g_toldCount : Int32) (g_n_shutBits : Int64) (g_n_airs : Int32) (g_n_crownedBits : Int32) (g_n_sitters : Int32) (g_n_onBits : Int32) (g_n_turn : Int32) (g_n_taken : Int32) (g_n_warmth : (Nat → UInt32)) (g_n_kind : (Nat → Int32)) (g_n_figure : (Nat → Int32)) (g_n_airCell : (Nat → Int32)) (g_n_way : (Nat → Int32)) (g_n_seat : (Nat → Int32)) (g_n_shawls : (Nat → Int32)) (g_n_count : Int32) (g_n_steps : (Nat → Int32)) (g_n_numbers : (Nat → Int32)) (g_past_next : Int32) (g_past_count : Int32) (g_refused : (Nat → Int32)) : va_W := [((a 0), .inr (5, [.ref (a 1), .ref (a 12), .ref (a 23), .int g_hasImage, .ref (a 34), .ref (a 124), .ref (a 126), .ref (a 134), .int g_toldCount, .ref (a 135), .ref (a 136), .ref (a 137)])), ((a 1), .inr (1, [.ref (a 2), .long g_n_shutBits, .int g_n_airs, .ref (a 3), .ref (a 4), .ref (a 5), .ref (a 6), .int g_n_crownedBits, .int g_n_sitters, .ref (a 7), .ref (a 8), .int g_n_onBits, .int g_n_turn, .int g_n_taken, .ref (a 9)])), ((a 2), .inl (y 0, 36, .inr (.inr (.inl g_n_warmth)))), ((a 3), .inl (y 1, 5, .inl g_n_kind)), ((a 4), .inl (y 1, 5, .inl g_n_figure)), ((a 5), .inl (y 1, 5, .inl g_n_airCell)), ((a 6), .inl (y 1, 5, .inl g_n_way)), ((a 7), .inl (y 1, 6, .inl g_n_seat)), ((a 8), .inl (y 1, 6, .inl g_n_shawls)), ((a 9), .inr (0, [.ref (a 10), .ref (a 11), .int g_n_count])), ((a 10), .inl (y 1, 6, .inl g_n_steps)), ((a 11), .inl (y 1, 6, .inl g_n_numbers)), ((a 34), .inr (2, [.ref (a 35), .int g_past_next, .int g_past_count])), ((a 135), .inl (y 1, 7, .inl g_refused))]
noncomputable def f_X6_sitsDown (g_n_shutBits : Int64) (g_n_airs : Int32) (g_n_sitters : Int32) (g_n_onBits : Int32) (g_n_airCell : (Nat → Int32)) (g_n_seat : (Nat → Int32)) (g_n_shawls : (Nat → Int32)) (g_past_count : Int32) (g_refused : (Nat → Int32)) (n0 : Int32) : Option (Int32 × Int32 × Int32 × (Nat → Int32) × (Nat → Int32) × Int32 × (Nat → Int32)) := dq_bd (f_X6_isCell n0) (fun (x1 : Int32) => dq_if (x1 = 0) (dq_bd2 (f_X6_refuse g_refused (-1 : Int32)) (fun (x20 : Int32) (g_refused_21 : (Nat → Int32)) => some (x20, g_n_sitters, g_n_onBits, g_n_seat, g_n_shawls, g_past_count, g_refused_21))) (dq_if (g_n_sitters < (6 : Int32)) (dq_bd5 (f_X2_addSitter g_n_shutBits g_n_airs g_n_sitters g_n_onBits g_n_airCell g_n_seat g_n_shawls n0 (0 : Int32)) (fun (x5 : Int32) (g_n_sitters_6 : Int32) (g_n_onBits_7 : Int32) (g_n_seat_8 : (Nat → Int32)) (g_n_shawls_9 : (Nat → Int32)) => dq_if (x5 = 0) (dq_bd2 (f_X6_refuse g_refused (-3 : Int32)) (fun (x14 : Int32) (g_refused_15 : (Nat → Int32)) => some (x14, g_n_sitters_6, g_n_onBits_7, g_n_seat_8, g_n_shawls_9, g_past_count, g_refused_15))) (dq_bd (f_X3_forget) (fun (g_past_count_12 : Int32) => some ((g_n_sitters_6 - (1 : Int32)), g_n_sitters_6, g_n_onBits_7, g_n_seat_8, g_n_shawls_9, g_past_count_12, g_refused))))) (dq_bd2 (f_X6_refuse g_refused (-6 : Int32)) (fun (x17 : Int32) (g_refused_18 : (Nat → Int32)) => some (x17, g_n_sitters, g_n_onBits, g_n_seat, g_n_shawls, g_past_count, g_refused_18)))))
-- DraughtsTake.sitsDown(I)I
set_option maxHeartbeats 4000000 in
set_option maxRecDepth 100000 in
theorem m_X6_sitsDown (l : Launch) (D : va_G) (y : Nat → ClassId) (a : (Nat → Nat)) (g_hasImage : Int32) (g_toldCount : Int32) (g_n_shutBits : Int64) (g_n_airs : Int32) (g_n_crownedBits : Int32) (g_n_sitters : Int32) (g_n_onBits : Int32) (g_n_turn : Int32) (g_n_taken : Int32) (g_n_warmth : (Nat → UInt32)) (g_n_kind : (Nat → Int32)) (g_n_figure : (Nat → Int32)) (g_n_airCell : (Nat → Int32)) (g_n_way : (Nat → Int32)) (g_n_seat : (Nat → Int32)) (g_n_shawls : (Nat → Int32)) (g_n_count : Int32) (g_n_steps : (Nat → Int32)) (g_n_numbers : (Nat → Int32)) (g_past_next : Int32) (g_past_count : Int32) (g_refused : (Nat → Int32)) (n0 : Int32) (z0 : Int32) (z1 : Int32) (z2 : Int32) (z3 : (Nat → Int32)) (z4 : (Nat → Int32)) (z5 : Int32) (z6 : (Nat → Int32)) (hf : f_X6_sitsDown g_n_shutBits g_n_airs g_n_sitters g_n_onBits g_n_airCell g_n_seat g_n_shawls g_past_count g_refused n0 = some (z0, z1, z2, z3, z4, z5, z6)) : Ct l D y yX6_sitsDown wsX6_sitsDown 3 65 [.ref (a 0), .int n0] (w_X6_sitsDown y a g_hasImage g_toldCount g_n_shutBits g_n_airs g_n_crownedBits g_n_sitters g_n_onBits g_n_turn g_n_taken g_n_warmth g_n_kind g_n_figure g_n_airCell g_n_way g_n_seat g_n_shawls g_n_count g_n_steps g_n_numbers g_past_next g_past_count g_refused) (w_X6_sitsDown y a g_hasImage g_toldCount g_n_shutBits g_n_airs g_n_crownedBits z1 z2 g_n_turn g_n_taken g_n_warmth g_n_kind g_n_figure g_n_airCell g_n_way z3 z4 g_n_count g_n_steps g_n_numbers g_past_next z5 z6) (some (.int z0)) := by
  refine ct_head (cc := cX6_sitsDown) (n := 2) (ret := (some .int)) (by decide) rfl (Nat.le_of_ble_eq_true rfl) ?_
  intro p e s m below meth c A ls hx hb hr hml hown hlocks hts hA hAe hP hK hD hl
  have hS : va_S A s.heap s.heap [] := va_S.rf
  have hl : lv_has ls 2 [(0, .ref (a 0)), (1, .int n0)] := hl
  have hown : s.vm.findClass RX6 = some m.cls := hown
  have hw1 := hts (.fieldLink RX6 10 "DraughtsTake" "now" "LDraughtsTake$House;") (List.mem_of_getElem? (i := 1) rfl)
  have hw2 := hts (.fieldLink RX6 155 "DraughtsTake$House" "sitters" "I") (List.mem_of_getElem? (i := 2) rfl)
  have hw3 := hts (.fieldLink RX6 25 "DraughtsTake" "past" "LDraughtsTake$Past;") (List.mem_of_getElem? (i := 3) rfl)
  have hiX6 : ∀ w ∈ wsX60, w ∈ wsX6_sitsDown := fun w h => List.mem_cons_of_mem _ (List.mem_append_left _ (List.mem_append_left _ (List.mem_append_right _ (h))))
  have hiX2 : ∀ w ∈ wsX20, w ∈ wsX6_sitsDown := fun w h => List.mem_cons_of_mem _ (List.mem_append_left _ (List.mem_append_right _ (h)))
  unfold f_X6_sitsDown at hf
  refine lv_iload_n hx hb dX6_sitsDown_0 rfl (lv_at hl 1 rfl) ?_
  obtain ⟨x1, hy2, hf⟩ := dq_b hf
  refine ct_callS0 (own := RX6) (As := [.int n0]) (rest := []) ⟨hx, hb, hml, hown, hts⟩ (m_X6_isCell l D y n0 x1 hy2) (va_cwS 1 hts gX6_sitsDown_X6_isCell rfl rfl rfl (by decide +kernel) ⟨Nat.le_of_ble_eq_true rfl, Nat.le_of_ble_eq_true rfl⟩) rfl hl.1 rfl (Nat.le_of_ble_eq_true rfl) dX6_sitsDown_1 ⟨Nat.zero_le _, Nat.zero_le _⟩ hK hP hD hS hA (fun H locs hP hD hS => ?_)
  refine lv_if_ne (tgt := 13) hx hb dX6_sitsDown_4 (by decide) (fun c3 => ?_) (fun c3 => ?_)
  · have hf := dq_f hf c3
    clear c3
    refine lv_aload_n hx hb dX6_sitsDown_13 rfl (lv_at hl 0 rfl) ?_
    refine va_get (D := D) (ci := 5) (v := .ref (a 1)) (C := RX6) (T := TX6) (N := 12) hx hb hts hiX6 hown hK hP 0 rfl rfl 0 (by decide) hw1 (fun _ h9 => h9) rfl dX6_sitsDown_14 ?_
    refine va_get (D := D) (ci := 1) (v := .int g_n_sitters) (C := RX2) (T := TX2) (N := 15) hx hb hts hiX2 hown hK hP 1 rfl rfl 8 (by decide) hw2 (fun _ h9 => h9) rfl dX6_sitsDown_17 ?_
    refine lv_bipush (v := 6) hx hb dX6_sitsDown_20 (by decide) ?_
    refine lv_icmp_lt (tgt := 32) hx hb dX6_sitsDown_22 (by decide) (fun c4 => ?_) (fun c4 => ?_)
    · have hf := dq_t hf c4
      clear c4
      refine lv_aload_n hx hb dX6_sitsDown_32 rfl (lv_at hl 0 rfl) ?_
      refine va_get (D := D) (ci := 5) (v := .ref (a 1)) (C := RX6) (T := TX6) (N := 12) hx hb hts hiX6 hown hK hP 0 rfl rfl 0 (by decide) hw1 (fun _ h9 => h9) rfl dX6_sitsDown_33 ?_
      refine lv_iload_n hx hb dX6_sitsDown_36 rfl (lv_at hl 1 rfl) ?_
      refine lv_iconst (v := 0) hx hb dX6_sitsDown_37 (by decide) ?_
      obtain ⟨x5, g_n_sitters_6, g_n_onBits_7, g_n_seat_8, g_n_shawls_9, hy10, hf⟩ := dq_b5 hf
      refine ct_callV (ci := 1) (q0 := 0) (own := RX6) (As := [.int n0, .int (0 : Int32)]) (rest := []) (ws' := (w_X6_sitsDown y a g_hasImage g_toldCount g_n_shutBits g_n_airs g_n_crownedBits g_n_sitters_6 g_n_onBits_7 g_n_turn g_n_taken g_n_warmth g_n_kind g_n_figure g_n_airCell g_n_way g_n_seat_8 g_n_shawls_9 g_n_count g_n_steps g_n_numbers g_past_next g_past_count g_refused)) ⟨hx, hb, hml, hown, hts⟩ (m_X2_addSitter l D y (fun k => a (1 + k)) g_n_shutBits g_n_airs g_n_crownedBits g_n_sitters g_n_onBits g_n_turn g_n_taken g_n_warmth g_n_kind g_n_figure g_n_airCell g_n_way g_n_seat g_n_shawls g_n_count g_n_steps g_n_numbers n0 (0 : Int32) x5 g_n_sitters_6 g_n_onBits_7 g_n_seat_8 g_n_shawls_9 hy10) (cwV 2 hts gX6_sitsDown_X2_addSitter rfl rfl rfl (by decide +kernel) ⟨Nat.le_of_ble_eq_true rfl, Nat.le_of_ble_eq_true rfl⟩) rfl rfl rfl hl.1 rfl (Nat.le_of_ble_eq_true rfl) dX6_sitsDown_38 ⟨Nat.zero_le _, Nat.zero_le _⟩ hK hP hD hS hA [1, 2, 3, 4, 5, 6, 7, 8, 9, 10, 11] [0, 12, 13] rfl rfl rfl (by decide) (by decide) 14 rfl (by decide +kernel) (fun H locs hP hD hS => ?_)
      refine lv_if_ne (tgt := 51) hx hb dX6_sitsDown_41 (by decide) (fun c11 => ?_) (fun c11 => ?_)
      · have hf := dq_f hf c11
        clear c11
        refine lv_aload_n hx hb dX6_sitsDown_51 rfl (lv_at hl 0 rfl) ?_
        refine va_get (D := D) (ci := 5) (v := .ref (a 34)) (C := RX6) (T := TX6) (N := 12) hx hb hts hiX6 hown hK hP 0 rfl rfl 4 (by decide) hw3 (fun _ h9 => h9) rfl dX6_sitsDown_52 ?_
        obtain ⟨g_past_count_12, hy13, hf⟩ := dq_b hf
        refine ct_callV (ci := 2) (q0 := 0) (own := RX6) (As := []) (rest := []) (ws' := (w_X6_sitsDown y a g_hasImage g_toldCount g_n_shutBits g_n_airs g_n_crownedBits g_n_sitters_6 g_n_onBits_7 g_n_turn g_n_taken g_n_warmth g_n_kind g_n_figure g_n_airCell g_n_way g_n_seat_8 g_n_shawls_9 g_n_count g_n_steps g_n_numbers g_past_next g_past_count_12 g_refused)) ⟨hx, hb, hml, hown, hts⟩ (m_X3_forget l D y (fun k => a (34 + k)) g_past_next g_past_count g_past_count_12 hy13) (cwV 0 hts gX6_sitsDown_X3_forget rfl rfl rfl (by decide +kernel) ⟨Nat.le_of_ble_eq_true rfl, Nat.le_of_ble_eq_true rfl⟩) rfl rfl rfl hl.1 rfl (Nat.le_of_ble_eq_true rfl) dX6_sitsDown_55 ⟨Nat.zero_le _, Nat.zero_le _⟩ hK hP hD hS hA [12] [0, 1, 2, 3, 4, 5, 6, 7, 8, 9, 10, 11, 13] rfl rfl rfl (by decide) (by decide) 14 rfl (by decide +kernel) (fun H locs hP hD hS => ?_)
        refine lv_aload_n hx hb dX6_sitsDown_58 rfl (lv_at hl 0 rfl) ?_
        refine va_get (D := D) (ci := 5) (v := .ref (a 1)) (C := RX6) (T := TX6) (N := 12) hx hb hts hiX6 hown hK hP 0 rfl rfl 0 (by decide) hw1 (fun _ h9 => h9) rfl dX6_sitsDown_59 ?_
        refine va_get (D := D) (ci := 1) (v := .int g_n_sitters_6) (C := RX2) (T := TX2) (N := 15) hx hb hts hiX2 hown hK hP 1 rfl rfl 8 (by decide) hw2 (fun _ h9 => h9) rfl dX6_sitsDown_62 ?_
        refine lv_iconst (v := 1) hx hb dX6_sitsDown_65 (by decide) ?_
        refine lv_isub hx hb dX6_sitsDown_66 ?_
        obtain ⟨rfl, rfl, rfl, rfl, rfl, rfl, rfl⟩ := dq_r7 hf
        exact ct_iret hx hb hr hlocks hAe hP hK hD hS dX6_sitsDown_67
      · have hf := dq_t hf c11
        clear c11
        refine lv_aload_n hx hb dX6_sitsDown_44 rfl (lv_at hl 0 rfl) ?_
        refine lv_bipush (v := -3) hx hb dX6_sitsDown_45 (by decide) ?_
        obtain ⟨x14, g_refused_15, hy16, hf⟩ := dq_b2 hf
        refine ct_callV (ci := 5) (q0 := 0) (own := RX6) (As := [.int (-3 : Int32)]) (rest := []) (ws' := (w_X6_sitsDown y a g_hasImage g_toldCount g_n_shutBits g_n_airs g_n_crownedBits g_n_sitters_6 g_n_onBits_7 g_n_turn g_n_taken g_n_warmth g_n_kind g_n_figure g_n_airCell g_n_way g_n_seat_8 g_n_shawls_9 g_n_count g_n_steps g_n_numbers g_past_next g_past_count g_refused_15)) ⟨hx, hb, hml, hown, hts⟩ (m_X6_refuse l D y a g_hasImage g_toldCount g_refused (-3 : Int32) x14 g_refused_15 hy16) (cwV 1 hts gX6_sitsDown_X6_refuse rfl rfl rfl (by decide +kernel) ⟨Nat.le_of_ble_eq_true rfl, Nat.le_of_ble_eq_true rfl⟩) rfl rfl rfl hl.1 rfl (Nat.le_of_ble_eq_true rfl) dX6_sitsDown_47 ⟨Nat.zero_le _, Nat.zero_le _⟩ hK hP hD hS hA [0, 13] [1, 2, 3, 4, 5, 6, 7, 8, 9, 10, 11, 12] rfl rfl rfl (by decide) (by decide) 14 rfl (by decide +kernel) (fun H locs hP hD hS => ?_)
        obtain ⟨rfl, rfl, rfl, rfl, rfl, rfl, rfl⟩ := dq_r7 hf
        exact ct_iret hx hb hr hlocks hAe hP hK hD hS dX6_sitsDown_50
    · have hf := dq_f hf c4
      clear c4
      refine lv_aload_n hx hb dX6_sitsDown_25 rfl (lv_at hl 0 rfl) ?_
      refine lv_bipush (v := -6) hx hb dX6_sitsDown_26 (by decide) ?_
      obtain ⟨x17, g_refused_18, hy19, hf⟩ := dq_b2 hf
      refine ct_callV (ci := 5) (q0 := 0) (own := RX6) (As := [.int (-6 : Int32)]) (rest := []) (ws' := (w_X6_sitsDown y a g_hasImage g_toldCount g_n_shutBits g_n_airs g_n_crownedBits g_n_sitters g_n_onBits g_n_turn g_n_taken g_n_warmth g_n_kind g_n_figure g_n_airCell g_n_way g_n_seat g_n_shawls g_n_count g_n_steps g_n_numbers g_past_next g_past_count g_refused_18)) ⟨hx, hb, hml, hown, hts⟩ (m_X6_refuse l D y a g_hasImage g_toldCount g_refused (-6 : Int32) x17 g_refused_18 hy19) (cwV 1 hts gX6_sitsDown_X6_refuse rfl rfl rfl (by decide +kernel) ⟨Nat.le_of_ble_eq_true rfl, Nat.le_of_ble_eq_true rfl⟩) rfl rfl rfl hl.1 rfl (Nat.le_of_ble_eq_true rfl) dX6_sitsDown_28 ⟨Nat.zero_le _, Nat.zero_le _⟩ hK hP hD hS hA [0, 13] [1, 2, 3, 4, 5, 6, 7, 8, 9, 10, 11, 12] rfl rfl rfl (by decide) (by decide) 14 rfl (by decide +kernel) (fun H locs hP hD hS => ?_)
      obtain ⟨rfl, rfl, rfl, rfl, rfl, rfl, rfl⟩ := dq_r7 hf
      exact ct_iret hx hb hr hlocks hAe hP hK hD hS dX6_sitsDown_31
  · have hf := dq_t hf c3
    clear c3
    refine lv_aload_n hx hb dX6_sitsDown_7 rfl (lv_at hl 0 rfl) ?_
    refine lv_iconst (v := -1) hx hb dX6_sitsDown_8 (by decide) ?_
    obtain ⟨x20, g_refused_21, hy22, hf⟩ := dq_b2 hf
    refine ct_callV (ci := 5) (q0 := 0) (own := RX6) (As := [.int (-1 : Int32)]) (rest := []) (ws' := (w_X6_sitsDown y a g_hasImage g_toldCount g_n_shutBits g_n_airs g_n_crownedBits g_n_sitters g_n_onBits g_n_turn g_n_taken g_n_warmth g_n_kind g_n_figure g_n_airCell g_n_way g_n_seat g_n_shawls g_n_count g_n_steps g_n_numbers g_past_next g_past_count g_refused_21)) ⟨hx, hb, hml, hown, hts⟩ (m_X6_refuse l D y a g_hasImage g_toldCount g_refused (-1 : Int32) x20 g_refused_21 hy22) (cwV 1 hts gX6_sitsDown_X6_refuse rfl rfl rfl (by decide +kernel) ⟨Nat.le_of_ble_eq_true rfl, Nat.le_of_ble_eq_true rfl⟩) rfl rfl rfl hl.1 rfl (Nat.le_of_ble_eq_true rfl) dX6_sitsDown_9 ⟨Nat.zero_le _, Nat.zero_le _⟩ hK hP hD hS hA [0, 13] [1, 2, 3, 4, 5, 6, 7, 8, 9, 10, 11, 12] rfl rfl rfl (by decide) (by decide) 14 rfl (by decide +kernel) (fun H locs hP hD hS => ?_)
    obtain ⟨rfl, rfl, rfl, rfl, rfl, rfl, rfl⟩ := dq_r7 hf
    exact ct_iret hx hb hr hlocks hAe hP hK hD hS dX6_sitsDown_12
def w_X6_shuts (y : Nat → ClassId) (a : Nat → Nat) (g_hasImage : Int32) (g_toldCount : Int32) (g_n_shutBits : Int64) (g_n_airs : Int32) (g_n_crownedBits : Int32) (g_n_sitters : Int32) (g_n_onBits : Int32) (g_n_turn : Int32) (g_n_taken : Int32) (g_n_warmth : (Nat → UInt32)) (g_n_kind : (Nat → Int32)) (g_n_figure : (Nat → Int32)) (g_n_airCell : (Nat → Int32)) (g_n_way : (Nat → Int32)) (g_n_seat : (Nat → Int32)) (g_n_shawls : (Nat → Int32)) (g_n_count : Int32) (g_n_steps : (Nat → Int32)) (g_n_numbers : (Nat → Int32)) (g_past_next : Int32) (g_past_count : Int32) (g_refused : (Nat → Int32)) : va_W := [((a 0), .inr (5, [.ref (a 1), .ref (a 12), .ref (a 23), .int g_hasImage, .ref (a 34), .ref (a 124), .ref (a 126), .ref (a 134), .int g_toldCount, .ref (a 135), .ref (a 136), .ref (a 137)])), ((a 1), .inr (1, [.ref (a 2), .long g_n_shutBits, .int g_n_airs, .ref (a 3), .ref (a 4), .ref (a 5), .ref (a 6), .int g_n_crownedBits, .int g_n_sitters, .ref (a 7), .ref (a 8), .int g_n_onBits, .int g_n_turn, .int g_n_taken, .ref (a 9)])), ((a 2), .inl (y 0, 36, .inr (.inr (.inl g_n_warmth)))), ((a 3), .inl (y 1, 5, .inl g_n_kind)), ((a 4), .inl (y 1, 5, .inl g_n_figure)), ((a 5), .inl (y 1, 5, .inl g_n_airCell)), ((a 6), .inl (y 1, 5, .inl g_n_way)), ((a 7), .inl (y 1, 6, .inl g_n_seat)), ((a 8), .inl (y 1, 6, .inl g_n_shawls)), ((a 9), .inr (0, [.ref (a 10), .ref (a 11), .int g_n_count])), ((a 10), .inl (y 1, 6, .inl g_n_steps)), ((a 11), .inl (y 1, 6, .inl g_n_numbers)), ((a 34), .inr (2, [.ref (a 35), .int g_past_next, .int g_past_count])), ((a 135), .inl (y 1, 7, .inl g_refused))]
noncomputable def f_X6_shuts (g_n_shutBits : Int64) (g_n_airs : Int32) (g_n_crownedBits : Int32) (g_n_sitters : Int32) (g_n_onBits : Int32) (g_n_turn : Int32) (g_n_taken : Int32) (g_n_warmth : (Nat → UInt32)) (g_n_kind : (Nat → Int32)) (g_n_figure : (Nat → Int32)) (g_n_airCell : (Nat → Int32)) (g_n_way : (Nat → Int32)) (g_n_seat : (Nat → Int32)) (g_n_shawls : (Nat → Int32)) (g_n_count : Int32) (g_n_steps : (Nat → Int32)) (g_n_numbers : (Nat → Int32)) (g_past_next : Int32) (g_past_count : Int32) (g_refused : (Nat → Int32)) (g_k_shutBits : (Nat → Int64)) (g_k_airs : (Nat → Int32)) (g_k_crownedBits : (Nat → Int32)) (g_k_sitters : (Nat → Int32)) (g_k_onBits : (Nat → Int32)) (g_k_turn : (Nat → Int32)) (g_k_taken : (Nat → Int32)) (g_k_warmth : (Nat → Nat → UInt32)) (g_k_kind : (Nat → Nat → Int32)) (g_k_figure : (Nat → Nat → Int32)) (g_k_airCell : (Nat → Nat → Int32)) (g_k_way : (Nat → Nat → Int32)) (g_k_seat : (Nat → Nat → Int32)) (g_k_shawls : (Nat → Nat → Int32)) (g_k_count : (Nat → Int32)) (g_k_steps : (Nat → Nat → Int32)) (g_k_numbers : (Nat → Nat → Int32)) (n0 : Int32) : Option (Int32 × Int64 × Int32 × Int32 × (Nat → Int32) × (Nat → Int64) × (Nat → Int32) × (Nat → Int32) × (Nat → Int32) × (Nat → Int32) × (Nat → Int32) × (Nat → Int32) × (Nat → Nat → UInt32) × (Nat → Nat → Int32) × (Nat → Nat → Int32) × (Nat → Nat → Int32) × (Nat → Nat → Int32) × (Nat → Nat → Int32) × (Nat → Nat → Int32) × (Nat → Int32) × (Nat → Nat → Int32) × (Nat → Nat → Int32)) := dq_bd (f_X6_isCell n0) (fun (x1 : Int32) => dq_if (x1 = 0) (dq_bd2 (f_X6_refuse g_refused (-1 : Int32)) (fun (x35 : Int32) (g_refused_36 : (Nat → Int32)) => some (x35, g_n_shutBits, g_past_next, g_past_count, g_refused_36, g_k_shutBits, g_k_airs, g_k_crownedBits, g_k_sitters, g_k_onBits, g_k_turn, g_k_taken, g_k_warmth, g_k_kind, g_k_figure, g_k_airCell, g_k_way, g_k_seat, g_k_shawls, g_k_count, g_k_steps, g_k_numbers))) (dq_bd (f_X2_isTaken g_n_airs g_n_sitters g_n_onBits g_n_airCell g_n_seat n0) (fun (x4 : Int32) => dq_if (x4 = 0) (dq_bd19 (f_X3_keep g_past_next g_past_count g_n_shutBits g_n_airs g_n_crownedBits g_n_sitters g_n_onBits g_n_turn g_n_taken g_n_warmth g_n_kind g_n_figure g_n_airCell g_n_way g_n_seat g_n_shawls g_n_count g_n_steps g_n_numbers g_k_shutBits g_k_airs g_k_crownedBits g_k_sitters g_k_onBits g_k_turn g_k_taken g_k_warmth g_k_kind g_k_figure g_k_airCell g_k_way g_k_seat g_k_shawls g_k_count g_k_steps g_k_numbers) (fun (g_past_next_7 : Int32) (g_past_count_8 : Int32) (g_k_shutBits_9 : (Nat → Int64)) (g_k_airs_10 : (Nat → Int32)) (g_k_crownedBits_11 : (Nat → Int32)) (g_k_sitters_12 : (Nat → Int32)) (g_k_onBits_13 : (Nat → Int32)) (g_k_turn_14 : (Nat → Int32)) (g_k_taken_15 : (Nat → Int32)) (g_k_warmth_16 : (Nat → Nat → UInt32)) (g_k_kind_17 : (Nat → Nat → Int32)) (g_k_figure_18 : (Nat → Nat → Int32)) (g_k_airCell_19 : (Nat → Nat → Int32)) (g_k_way_20 : (Nat → Nat → Int32)) (g_k_seat_21 : (Nat → Nat → Int32)) (g_k_shawls_22 : (Nat → Nat → Int32)) (g_k_count_23 : (Nat → Int32)) (g_k_steps_24 : (Nat → Nat → Int32)) (g_k_numbers_25 : (Nat → Nat → Int32)) => dq_bd (f_X2_toggleShut g_n_shutBits n0) (fun (g_n_shutBits_27 : Int64) => dq_bd (f_X2_isShut g_n_shutBits_27 n0) (fun (x29 : Int32) => dq_if (x29 = 0) (some ((0 : Int32), g_n_shutBits_27, g_past_next_7, g_past_count_8, g_refused, g_k_shutBits_9, g_k_airs_10, g_k_crownedBits_11, g_k_sitters_12, g_k_onBits_13, g_k_turn_14, g_k_taken_15, g_k_warmth_16, g_k_kind_17, g_k_figure_18, g_k_airCell_19, g_k_way_20, g_k_seat_21, g_k_shawls_22, g_k_count_23, g_k_steps_24, g_k_numbers_25)) (some ((1 : Int32), g_n_shutBits_27, g_past_next_7, g_past_count_8, g_refused, g_k_shutBits_9, g_k_airs_10, g_k_crownedBits_11, g_k_sitters_12, g_k_onBits_13, g_k_turn_14, g_k_taken_15, g_k_warmth_16, g_k_kind_17, g_k_figure_18, g_k_airCell_19, g_k_way_20, g_k_seat_21, g_k_shawls_22, g_k_count_23, g_k_steps_24, g_k_numbers_25)))))) (dq_bd2 (f_X6_refuse g_refused (-3 : Int32)) (fun (x32 : Int32) (g_refused_33 : (Nat → Int32)) => some (x32, g_n_shutBits, g_past_next, g_past_count, g_refused_33, g_k_shutBits, g_k_airs, g_k_crownedBits, g_k_sitters, g_k_onBits, g_k_turn, g_k_taken, g_k_warmth, g_k_kind, g_k_figure, g_k_airCell, g_k_way, g_k_seat, g_k_shawls, g_k_count, g_k_steps, g_k_numbers))))))
-- DraughtsTake.shuts(I)I
set_option maxHeartbeats 4000000 in
set_option maxRecDepth 100000 in
theorem m_X6_shuts (l : Launch) (D : va_G) (y : Nat → ClassId) (a : (Nat → Nat)) (g_hasImage : Int32) (g_toldCount : Int32) (g_n_shutBits : Int64) (g_n_airs : Int32) (g_n_crownedBits : Int32) (g_n_sitters : Int32) (g_n_onBits : Int32) (g_n_turn : Int32) (g_n_taken : Int32) (g_n_warmth : (Nat → UInt32)) (g_n_kind : (Nat → Int32)) (g_n_figure : (Nat → Int32)) (g_n_airCell : (Nat → Int32)) (g_n_way : (Nat → Int32)) (g_n_seat : (Nat → Int32)) (g_n_shawls : (Nat → Int32)) (g_n_count : Int32) (g_n_steps : (Nat → Int32)) (g_n_numbers : (Nat → Int32)) (g_past_next : Int32) (g_past_count : Int32) (g_refused : (Nat → Int32)) (g_k_shutBits : (Nat → Int64)) (g_k_airs : (Nat → Int32)) (g_k_crownedBits : (Nat → Int32)) (g_k_sitters : (Nat → Int32)) (g_k_onBits : (Nat → Int32)) (g_k_turn : (Nat → Int32)) (g_k_taken : (Nat → Int32)) (g_k_warmth : (Nat → Nat → UInt32)) (g_k_kind : (Nat → Nat → Int32)) (g_k_figure : (Nat → Nat → Int32)) (g_k_airCell : (Nat → Nat → Int32)) (g_k_way : (Nat → Nat → Int32)) (g_k_seat : (Nat → Nat → Int32)) (g_k_shawls : (Nat → Nat → Int32)) (g_k_count : (Nat → Int32)) (g_k_steps : (Nat → Nat → Int32)) (g_k_numbers : (Nat → Nat → Int32)) (n0 : Int32) (z0 : Int32) (z1 : Int64) (z2 : Int32) (z3 : Int32) (z4 : (Nat → Int32)) (z5 : (Nat → Int64)) (z6 : (Nat → Int32)) (z7 : (Nat → Int32)) (z8 : (Nat → Int32)) (z9 : (Nat → Int32)) (z10 : (Nat → Int32)) (z11 : (Nat → Int32)) (z12 : (Nat → Nat → UInt32)) (z13 : (Nat → Nat → Int32)) (z14 : (Nat → Nat → Int32)) (z15 : (Nat → Nat → Int32)) (z16 : (Nat → Nat → Int32)) (z17 : (Nat → Nat → Int32)) (z18 : (Nat → Nat → Int32)) (z19 : (Nat → Int32)) (z20 : (Nat → Nat → Int32)) (z21 : (Nat → Nat → Int32)) (hf : f_X6_shuts g_n_shutBits g_n_airs g_n_crownedBits g_n_sitters g_n_onBits g_n_turn g_n_taken g_n_warmth g_n_kind g_n_figure g_n_airCell g_n_way g_n_seat g_n_shawls g_n_count g_n_steps g_n_numbers g_past_next g_past_count g_refused g_k_shutBits g_k_airs g_k_crownedBits g_k_sitters g_k_onBits g_k_turn g_k_taken g_k_warmth g_k_kind g_k_figure g_k_airCell g_k_way g_k_seat g_k_shawls g_k_count g_k_steps g_k_numbers n0 = some (z0, z1, z2, z3, z4, z5, z6, z7, z8, z9, z10, z11, z12, z13, z14, z15, z16, z17, z18, z19, z20, z21)) : Ct l D y yX6_shuts wsX6_shuts 4 103 [.ref (a 0), .int n0] ((w_X6_shuts y a g_hasImage g_toldCount g_n_shutBits g_n_airs g_n_crownedBits g_n_sitters g_n_onBits g_n_turn g_n_taken g_n_warmth g_n_kind g_n_figure g_n_airCell g_n_way g_n_seat g_n_shawls g_n_count g_n_steps g_n_numbers g_past_next g_past_count g_refused) ++ (w_blob y (fun k => a (34 + (1 + k))) g_k_shutBits g_k_airs g_k_crownedBits g_k_sitters g_k_onBits g_k_turn g_k_taken g_k_warmth g_k_kind g_k_figure g_k_airCell g_k_way g_k_seat g_k_shawls g_k_count g_k_steps g_k_numbers)) ((w_X6_shuts y a g_hasImage g_toldCount z1 g_n_airs g_n_crownedBits g_n_sitters g_n_onBits g_n_turn g_n_taken g_n_warmth g_n_kind g_n_figure g_n_airCell g_n_way g_n_seat g_n_shawls g_n_count g_n_steps g_n_numbers z2 z3 z4) ++ (w_blob y (fun k => a (34 + (1 + k))) z5 z6 z7 z8 z9 z10 z11 z12 z13 z14 z15 z16 z17 z18 z19 z20 z21)) (some (.int z0)) := by
  refine ct_head (cc := cX6_shuts) (n := 2) (ret := (some .int)) (by decide) rfl (Nat.le_of_ble_eq_true rfl) ?_
  intro p e s m below meth c A ls hx hb hr hml hown hlocks hts hA hAe hP hK hD hl
  have hS : va_S A s.heap s.heap [] := va_S.rf
  have hl : lv_has ls 2 [(0, .ref (a 0)), (1, .int n0)] := hl
  have hown : s.vm.findClass RX6 = some m.cls := hown
  have hw1 := hts (.fieldLink RX6 10 "DraughtsTake" "now" "LDraughtsTake$House;") (List.mem_of_getElem? (i := 1) rfl)
  have hw2 := hts (.fieldLink RX6 25 "DraughtsTake" "past" "LDraughtsTake$Past;") (List.mem_of_getElem? (i := 2) rfl)
  have hiX6 : ∀ w ∈ wsX60, w ∈ wsX6_shuts := fun w h => List.mem_cons_of_mem _ (List.mem_append_left _ (List.mem_append_left _ (List.mem_append_left _ (List.mem_append_right _ (h)))))
  unfold f_X6_shuts at hf
  refine lv_iload_n hx hb dX6_shuts_0 rfl (lv_at hl 1 rfl) ?_
  obtain ⟨x1, hy2, hf⟩ := dq_b hf
  refine ct_callS0 (own := RX6) (As := [.int n0]) (rest := []) ⟨hx, hb, hml, hown, hts⟩ (m_X6_isCell l D y n0 x1 hy2) (va_cwS 1 hts gX6_shuts_X6_isCell rfl rfl rfl (by decide +kernel) ⟨Nat.le_of_ble_eq_true rfl, Nat.le_of_ble_eq_true rfl⟩) rfl hl.1 rfl (Nat.le_of_ble_eq_true rfl) dX6_shuts_1 ⟨Nat.zero_le _, Nat.zero_le _⟩ hK hP hD hS hA (fun H locs hP hD hS => ?_)
  refine lv_if_ne (tgt := 13) hx hb dX6_shuts_4 (by decide) (fun c3 => ?_) (fun c3 => ?_)
  · have hf := dq_f hf c3
    clear c3
    refine lv_aload_n hx hb dX6_shuts_13 rfl (lv_at hl 0 rfl) ?_
    refine va_get (D := D) (ci := 5) (v := .ref (a 1)) (C := RX6) (T := TX6) (N := 12) hx hb hts hiX6 hown hK hP 0 rfl rfl 0 (by decide) hw1 (fun _ h9 => h9) rfl dX6_shuts_14 ?_
    refine lv_iload_n hx hb dX6_shuts_17 rfl (lv_at hl 1 rfl) ?_
    obtain ⟨x4, hy5, hf⟩ := dq_b hf
    refine ct_callVL (ci := 1) (q0 := 0) (own := RX6) (As := [.int n0]) (rest := []) (L' := (w_X6_shuts y a g_hasImage g_toldCount g_n_shutBits g_n_airs g_n_crownedBits g_n_sitters g_n_onBits g_n_turn g_n_taken g_n_warmth g_n_kind g_n_figure g_n_airCell g_n_way g_n_seat g_n_shawls g_n_count g_n_steps g_n_numbers g_past_next g_past_count g_refused)) (B := (w_blob y (fun k => a (34 + (1 + k))) g_k_shutBits g_k_airs g_k_crownedBits g_k_sitters g_k_onBits g_k_turn g_k_taken g_k_warmth g_k_kind g_k_figure g_k_airCell g_k_way g_k_seat g_k_shawls g_k_count g_k_steps g_k_numbers)) ⟨hx, hb, hml, hown, hts⟩ (m_X2_isTaken l D y (fun k => a (1 + k)) g_n_shutBits g_n_airs g_n_crownedBits g_n_sitters g_n_onBits g_n_turn g_n_taken g_n_warmth g_n_kind g_n_figure g_n_airCell g_n_way g_n_seat g_n_shawls g_n_count g_n_steps g_n_numbers n0 x4 hy5) (cwV 1 hts gX6_shuts_X2_isTaken rfl rfl rfl (by decide +kernel) ⟨Nat.le_of_ble_eq_true rfl, Nat.le_of_ble_eq_true rfl⟩) rfl rfl rfl hl.1 rfl (Nat.le_of_ble_eq_true rfl) dX6_shuts_18 ⟨Nat.zero_le _, Nat.zero_le _⟩ hK hP hD hS hA [1, 2, 3, 4, 5, 6, 7, 8, 9, 10, 11] [0, 12, 13] rfl rfl rfl (by decide) (by decide) 14 rfl rfl (by decide +kernel) (fun H locs hP hD hS => ?_)
    refine lv_if_eq (tgt := 31) hx hb dX6_shuts_21 (by decide) (fun c6 => ?_) (fun c6 => ?_)
    · have hf := dq_t hf c6
      clear c6
      refine lv_aload_n hx hb dX6_shuts_31 rfl (lv_at hl 0 rfl) ?_
      refine va_get (D := D) (ci := 5) (v := .ref (a 34)) (C := RX6) (T := TX6) (N := 12) hx hb hts hiX6 hown hK hP 0 rfl rfl 4 (by decide) hw2 (fun _ h9 => h9) rfl dX6_shuts_32 ?_
      refine lv_aload_n hx hb dX6_shuts_35 rfl (lv_at hl 0 rfl) ?_
      refine va_get (D := D) (ci := 5) (v := .ref (a 1)) (C := RX6) (T := TX6) (N := 12) hx hb hts hiX6 hown hK hP 0 rfl rfl 0 (by decide) hw1 (fun _ h9 => h9) rfl dX6_shuts_36 ?_
      obtain ⟨g_past_next_7, g_past_count_8, g_k_shutBits_9, g_k_airs_10, g_k_crownedBits_11, g_k_sitters_12, g_k_onBits_13, g_k_turn_14, g_k_taken_15, g_k_warmth_16, g_k_kind_17, g_k_figure_18, g_k_airCell_19, g_k_way_20, g_k_seat_21, g_k_shawls_22, g_k_count_23, g_k_steps_24, g_k_numbers_25, hy26, hf⟩ := dq_b19 hf
      refine ct_callVB (ci := 2) (q0 := 0) (own := RX6) (As := [.ref (a 1)]) (rest := []) (L' := (w_X6_shuts y a g_hasImage g_toldCount g_n_shutBits g_n_airs g_n_crownedBits g_n_sitters g_n_onBits g_n_turn g_n_taken g_n_warmth g_n_kind g_n_figure g_n_airCell g_n_way g_n_seat g_n_shawls g_n_count g_n_steps g_n_numbers g_past_next_7 g_past_count_8 g_refused)) (B' := (w_blob y (fun k => a (34 + (1 + k))) g_k_shutBits_9 g_k_airs_10 g_k_crownedBits_11 g_k_sitters_12 g_k_onBits_13 g_k_turn_14 g_k_taken_15 g_k_warmth_16 g_k_kind_17 g_k_figure_18 g_k_airCell_19 g_k_way_20 g_k_seat_21 g_k_shawls_22 g_k_count_23 g_k_steps_24 g_k_numbers_25)) ⟨hx, hb, hml, hown, hts⟩ (m_X3_keep l D y (fun k => a (34 + k)) (fun k => a (1 + k)) g_past_next g_past_count g_n_shutBits g_n_airs g_n_crownedBits g_n_sitters g_n_onBits g_n_turn g_n_taken g_n_warmth g_n_kind g_n_figure g_n_airCell g_n_way g_n_seat g_n_shawls g_n_count g_n_steps g_n_numbers g_k_shutBits g_k_airs g_k_crownedBits g_k_sitters g_k_onBits g_k_turn g_k_taken g_k_warmth g_k_kind g_k_figure g_k_airCell g_k_way g_k_seat g_k_shawls g_k_count g_k_steps g_k_numbers g_past_next_7 g_past_count_8 g_k_shutBits_9 g_k_airs_10 g_k_crownedBits_11 g_k_sitters_12 g_k_onBits_13 g_k_turn_14 g_k_taken_15 g_k_warmth_16 g_k_kind_17 g_k_figure_18 g_k_airCell_19 g_k_way_20 g_k_seat_21 g_k_shawls_22 g_k_count_23 g_k_steps_24 g_k_numbers_25 hy26) (cwV 1 hts gX6_shuts_X3_keep rfl rfl rfl (by decide +kernel) ⟨Nat.le_of_ble_eq_true rfl, Nat.le_of_ble_eq_true rfl⟩) rfl rfl rfl hl.1 rfl (Nat.le_of_ble_eq_true rfl) dX6_shuts_39 ⟨Nat.zero_le _, Nat.zero_le _⟩ hK hP hD hS hA [12, 1, 2, 3, 4, 5, 6, 7, 8, 9, 10, 11] [0, 13] rfl rfl rfl (by decide) (by decide) 14 rfl rfl (by decide +kernel) w_blob_len (fun H locs hP hD hS => ?_)
      refine lv_aload_n hx hb dX6_shuts_42 rfl (lv_at hl 0 rfl) ?_
      refine va_get (D := D) (ci := 5) (v := .ref (a 1)) (C := RX6) (T := TX6) (N := 12) hx hb hts hiX6 hown hK hP 0 rfl rfl 0 (by decide) hw1 (fun _ h9 => h9) rfl dX6_shuts_43 ?_
      refine lv_iload_n hx hb dX6_shuts_46 rfl (lv_at hl 1 rfl) ?_
      obtain ⟨g_n_shutBits_27, hy28, hf⟩ := dq_b hf
      refine ct_callVL (ci := 1) (q0 := 0) (own := RX6) (As := [.int n0]) (rest := []) (L' := (w_X6_shuts y a g_hasImage g_toldCount g_n_shutBits_27 g_n_airs g_n_crownedBits g_n_sitters g_n_onBits g_n_turn g_n_taken g_n_warmth g_n_kind g_n_figure g_n_airCell g_n_way g_n_seat g_n_shawls g_n_count g_n_steps g_n_numbers g_past_next_7 g_past_count_8 g_refused)) (B := (w_blob y (fun k => a (34 + (1 + k))) g_k_shutBits_9 g_k_airs_10 g_k_crownedBits_11 g_k_sitters_12 g_k_onBits_13 g_k_turn_14 g_k_taken_15 g_k_warmth_16 g_k_kind_17 g_k_figure_18 g_k_airCell_19 g_k_way_20 g_k_seat_21 g_k_shawls_22 g_k_count_23 g_k_steps_24 g_k_numbers_25)) ⟨hx, hb, hml, hown, hts⟩ (m_X2_toggleShut l D y (fun k => a (1 + k)) g_n_shutBits g_n_airs g_n_crownedBits g_n_sitters g_n_onBits g_n_turn g_n_taken g_n_warmth g_n_kind g_n_figure g_n_airCell g_n_way g_n_seat g_n_shawls g_n_count g_n_steps g_n_numbers n0 g_n_shutBits_27 hy28) (cwV 1 hts gX6_shuts_X2_toggleShut rfl rfl rfl (by decide +kernel) ⟨Nat.le_of_ble_eq_true rfl, Nat.le_of_ble_eq_true rfl⟩) rfl rfl rfl hl.1 rfl (Nat.le_of_ble_eq_true rfl) dX6_shuts_47 ⟨Nat.zero_le _, Nat.zero_le _⟩ hK hP hD hS hA [1, 2, 3, 4, 5, 6, 7, 8, 9, 10, 11] [0, 12, 13] rfl rfl rfl (by decide) (by decide) 14 rfl rfl (by decide +kernel) (fun H locs hP hD hS => ?_)
      refine lv_aload_n hx hb dX6_shuts_50 rfl (lv_at hl 0 rfl) ?_
      refine va_get (D := D) (ci := 5) (v := .ref (a 1)) (C := RX6) (T := TX6) (N := 12) hx hb hts hiX6 hown hK hP 0 rfl rfl 0 (by decide) hw1 (fun _ h9 => h9) rfl dX6_shuts_51 ?_
      refine lv_iload_n hx hb dX6_shuts_54 rfl (lv_at hl 1 rfl) ?_
      obtain ⟨x29, hy30, hf⟩ := dq_b hf
      refine ct_callVL (ci := 1) (q0 := 0) (own := RX6) (As := [.int n0]) (rest := []) (L' := (w_X6_shuts y a g_hasImage g_toldCount g_n_shutBits_27 g_n_airs g_n_crownedBits g_n_sitters g_n_onBits g_n_turn g_n_taken g_n_warmth g_n_kind g_n_figure g_n_airCell g_n_way g_n_seat g_n_shawls g_n_count g_n_steps g_n_numbers g_past_next_7 g_past_count_8 g_refused)) (B := (w_blob y (fun k => a (34 + (1 + k))) g_k_shutBits_9 g_k_airs_10 g_k_crownedBits_11 g_k_sitters_12 g_k_onBits_13 g_k_turn_14 g_k_taken_15 g_k_warmth_16 g_k_kind_17 g_k_figure_18 g_k_airCell_19 g_k_way_20 g_k_seat_21 g_k_shawls_22 g_k_count_23 g_k_steps_24 g_k_numbers_25)) ⟨hx, hb, hml, hown, hts⟩ (m_X2_isShut l D y (fun k => a (1 + k)) g_n_shutBits_27 g_n_airs g_n_crownedBits g_n_sitters g_n_onBits g_n_turn g_n_taken g_n_warmth g_n_kind g_n_figure g_n_airCell g_n_way g_n_seat g_n_shawls g_n_count g_n_steps g_n_numbers n0 x29 hy30) (cwV 1 hts gX6_shuts_X2_isShut rfl rfl rfl (by decide +kernel) ⟨Nat.le_of_ble_eq_true rfl, Nat.le_of_ble_eq_true rfl⟩) rfl rfl rfl hl.1 rfl (Nat.le_of_ble_eq_true rfl) dX6_shuts_55 ⟨Nat.zero_le _, Nat.zero_le _⟩ hK hP hD hS hA [1, 2, 3, 4, 5, 6, 7, 8, 9, 10, 11] [0, 12, 13] rfl rfl rfl (by decide) (by decide) 14 rfl rfl (by decide +kernel) (fun H locs hP hD hS => ?_)
      refine lv_if_eq (tgt := 65) hx hb dX6_shuts_58 (by decide) (fun c31 => ?_) (fun c31 => ?_)
      · have hf := dq_t hf c31
        clear c31
        refine lv_iconst (v := 0) hx hb dX6_shuts_65 (by decide) ?_
        obtain ⟨rfl, rfl, rfl, rfl, rfl, rfl, rfl, rfl, rfl, rfl, rfl, rfl, rfl, rfl, rfl, rfl, rfl, rfl, rfl, rfl, rfl, rfl⟩ := dq_r22 hf
        exact ct_iret hx hb hr hlocks hAe hP hK hD hS dX6_shuts_66
      · have hf := dq_f hf c31
        clear c31
        refine lv_iconst (v := 1) hx hb dX6_shuts_61 (by decide) ?_
        refine lv_goto (tgt := 66) hx hb dX6_shuts_62 (by decide) ?_
        obtain ⟨rfl, rfl, rfl, rfl, rfl, rfl, rfl, rfl, rfl, rfl, rfl, rfl, rfl, rfl, rfl, rfl, rfl, rfl, rfl, rfl, rfl, rfl⟩ := dq_r22 hf
        exact ct_iret hx hb hr hlocks hAe hP hK hD hS dX6_shuts_66
    · have hf := dq_f hf c6
      clear c6
      refine lv_aload_n hx hb dX6_shuts_24 rfl (lv_at hl 0 rfl) ?_
      refine lv_bipush (v := -3) hx hb dX6_shuts_25 (by decide) ?_
      obtain ⟨x32, g_refused_33, hy34, hf⟩ := dq_b2 hf
      refine ct_callVL (ci := 5) (q0 := 0) (own := RX6) (As := [.int (-3 : Int32)]) (rest := []) (L' := (w_X6_shuts y a g_hasImage g_toldCount g_n_shutBits g_n_airs g_n_crownedBits g_n_sitters g_n_onBits g_n_turn g_n_taken g_n_warmth g_n_kind g_n_figure g_n_airCell g_n_way g_n_seat g_n_shawls g_n_count g_n_steps g_n_numbers g_past_next g_past_count g_refused_33)) (B := (w_blob y (fun k => a (34 + (1 + k))) g_k_shutBits g_k_airs g_k_crownedBits g_k_sitters g_k_onBits g_k_turn g_k_taken g_k_warmth g_k_kind g_k_figure g_k_airCell g_k_way g_k_seat g_k_shawls g_k_count g_k_steps g_k_numbers)) ⟨hx, hb, hml, hown, hts⟩ (m_X6_refuse l D y a g_hasImage g_toldCount g_refused (-3 : Int32) x32 g_refused_33 hy34) (cwV 1 hts gX6_shuts_X6_refuse rfl rfl rfl (by decide +kernel) ⟨Nat.le_of_ble_eq_true rfl, Nat.le_of_ble_eq_true rfl⟩) rfl rfl rfl hl.1 rfl (Nat.le_of_ble_eq_true rfl) dX6_shuts_27 ⟨Nat.zero_le _, Nat.zero_le _⟩ hK hP hD hS hA [0, 13] [1, 2, 3, 4, 5, 6, 7, 8, 9, 10, 11, 12] rfl rfl rfl (by decide) (by decide) 14 rfl rfl (by decide +kernel) (fun H locs hP hD hS => ?_)
      obtain ⟨rfl, rfl, rfl, rfl, rfl, rfl, rfl, rfl, rfl, rfl, rfl, rfl, rfl, rfl, rfl, rfl, rfl, rfl, rfl, rfl, rfl, rfl⟩ := dq_r22 hf
      exact ct_iret hx hb hr hlocks hAe hP hK hD hS dX6_shuts_30
  · have hf := dq_t hf c3
    clear c3
    refine lv_aload_n hx hb dX6_shuts_7 rfl (lv_at hl 0 rfl) ?_
    refine lv_iconst (v := -1) hx hb dX6_shuts_8 (by decide) ?_
    obtain ⟨x35, g_refused_36, hy37, hf⟩ := dq_b2 hf
    refine ct_callVL (ci := 5) (q0 := 0) (own := RX6) (As := [.int (-1 : Int32)]) (rest := []) (L' := (w_X6_shuts y a g_hasImage g_toldCount g_n_shutBits g_n_airs g_n_crownedBits g_n_sitters g_n_onBits g_n_turn g_n_taken g_n_warmth g_n_kind g_n_figure g_n_airCell g_n_way g_n_seat g_n_shawls g_n_count g_n_steps g_n_numbers g_past_next g_past_count g_refused_36)) (B := (w_blob y (fun k => a (34 + (1 + k))) g_k_shutBits g_k_airs g_k_crownedBits g_k_sitters g_k_onBits g_k_turn g_k_taken g_k_warmth g_k_kind g_k_figure g_k_airCell g_k_way g_k_seat g_k_shawls g_k_count g_k_steps g_k_numbers)) ⟨hx, hb, hml, hown, hts⟩ (m_X6_refuse l D y a g_hasImage g_toldCount g_refused (-1 : Int32) x35 g_refused_36 hy37) (cwV 1 hts gX6_shuts_X6_refuse rfl rfl rfl (by decide +kernel) ⟨Nat.le_of_ble_eq_true rfl, Nat.le_of_ble_eq_true rfl⟩) rfl rfl rfl hl.1 rfl (Nat.le_of_ble_eq_true rfl) dX6_shuts_9 ⟨Nat.zero_le _, Nat.zero_le _⟩ hK hP hD hS hA [0, 13] [1, 2, 3, 4, 5, 6, 7, 8, 9, 10, 11, 12] rfl rfl rfl (by decide) (by decide) 14 rfl rfl (by decide +kernel) (fun H locs hP hD hS => ?_)
    obtain ⟨rfl, rfl, rfl, rfl, rfl, rfl, rfl, rfl, rfl, rfl, rfl, rfl, rfl, rfl, rfl, rfl, rfl, rfl, rfl, rfl, rfl, rfl⟩ := dq_r22 hf
    exact ct_iret hx hb hr hlocks hAe hP hK hD hS dX6_shuts_12
noncomputable def f_X6_refusalOf (n0 : Int32) (n1 : Int32) (n2 : Int32) : Option Int32 := dq_if (n1 ≤ n0) (dq_if (n0 ≤ n2) (some (0 : Int32)) (some (-6 : Int32))) (some (-4 : Int32))
-- DraughtsTake.refusalOf(III)I
set_option maxHeartbeats 4000000 in
set_option maxRecDepth 100000 in
theorem m_X6_refusalOf (l : Launch) (D : va_G) (y : Nat → ClassId) (n0 : Int32) (n1 : Int32) (n2 : Int32) (z0 : Int32) (hf : f_X6_refusalOf n0 n1 n2 = some z0) : Ct l D y yX6_refusalOf wsX6_refusalOf 0 0 [.int n0, .int n1, .int n2] [] [] (some (.int z0)) := by
  refine ct_head (cc := cX6_refusalOf) (n := 3) (ret := (some .int)) (by decide) rfl (Nat.le_of_ble_eq_true rfl) ?_
  intro p e s m below meth c A ls hx hb hr hml hown hlocks hts hA hAe hP hK hD hl
  have hS : va_S A s.heap s.heap [] := va_S.rf
  have hl : lv_has ls 3 [(0, .int n0), (1, .int n1), (2, .int n2)] := hl
  have hown : s.vm.findClass RX6 = some m.cls := hown
  unfold f_X6_refusalOf at hf
  refine lv_iload_n hx hb dX6_refusalOf_0 rfl (lv_at hl 0 rfl) ?_
  refine lv_iload_n hx hb dX6_refusalOf_1 rfl (lv_at hl 1 rfl) ?_
  refine lv_icmp_ge (tgt := 8) hx hb dX6_refusalOf_2 (by decide) (fun c1 => ?_) (fun c1 => ?_)
  · have hf := dq_t hf c1
    clear c1
    refine lv_iload_n hx hb dX6_refusalOf_8 rfl (lv_at hl 0 rfl) ?_
    refine lv_iload_n hx hb dX6_refusalOf_9 rfl (lv_at hl 2 rfl) ?_
    refine lv_icmp_le (tgt := 18) hx hb dX6_refusalOf_10 (by decide) (fun c2 => ?_) (fun c2 => ?_)
    · have hf := dq_t hf c2
      clear c2
      refine lv_iconst (v := 0) hx hb dX6_refusalOf_18 (by decide) ?_
      obtain rfl := dq_r1 hf
      exact ct_iret hx hb hr hlocks hAe hP hK hD hS dX6_refusalOf_19
    · have hf := dq_f hf c2
      clear c2
      refine lv_bipush (v := -6) hx hb dX6_refusalOf_13 (by decide) ?_
      refine lv_goto (tgt := 19) hx hb dX6_refusalOf_15 (by decide) ?_
      obtain rfl := dq_r1 hf
      exact ct_iret hx hb hr hlocks hAe hP hK hD hS dX6_refusalOf_19
  · have hf := dq_f hf c1
    clear c1
    refine lv_bipush (v := -4) hx hb dX6_refusalOf_5 (by decide) ?_
    obtain rfl := dq_r1 hf
    exact ct_iret hx hb hr hlocks hAe hP hK hD hS dX6_refusalOf_7
