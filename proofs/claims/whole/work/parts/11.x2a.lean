def w_X2_take (y : Nat → ClassId) (a : Nat → Nat) (b : Nat → Nat) (h_shutBits : Int64) (h_airs : Int32) (h_crownedBits : Int32) (h_sitters : Int32) (h_onBits : Int32) (h_turn : Int32) (h_taken : Int32) (h_warmth : (Nat → UInt32)) (h_kind : (Nat → Int32)) (h_figure : (Nat → Int32)) (h_airCell : (Nat → Int32)) (h_way : (Nat → Int32)) (h_seat : (Nat → Int32)) (h_shawls : (Nat → Int32)) (h_count : Int32) (h_steps : (Nat → Int32)) (h_numbers : (Nat → Int32)) (o_shutBits : Int64) (o_airs : Int32) (o_crownedBits : Int32) (o_sitters : Int32) (o_onBits : Int32) (o_turn : Int32) (o_taken : Int32) (o_warmth : (Nat → UInt32)) (o_kind : (Nat → Int32)) (o_figure : (Nat → Int32)) (o_airCell : (Nat → Int32)) (o_way : (Nat → Int32)) (o_seat : (Nat → Int32)) (o_shawls : (Nat → Int32)) (o_count : Int32) (o_steps : (Nat → Int32)) (o_numbers : (Nat → Int32)) : va_W := [((a 0), .inr (1, [.ref (a 1), .long h_shutBits, .int h_airs, .ref (a 2), .ref (a 3), .ref (a 4), .ref (a 5), .int h_crownedBits, .int h_sitters, .ref (a 6), .ref (a 7), .int h_onBits, .int h_turn, .int h_taken, .ref (a 8)])), ((a 1), .inl (y 0, 36, .inr (.inr (.inl h_warmth)))), ((a 2), .inl (y 1, 5, .inl h_kind)), ((a 3), .inl (y 1, 5, .inl h_figure)), ((a 4), .inl (y 1, 5, .inl h_airCell)), ((a 5), .inl (y 1, 5, .inl h_way)), ((a 6), .inl (y 1, 6, .inl h_seat)), ((a 7), .inl (y 1, 6, .inl h_shawls)), ((a 8), .inr (0, [.ref (a 9), .ref (a 10), .int h_count])), ((a 9), .inl (y 1, 6, .inl h_steps)), ((a 10), .inl (y 1, 6, .inl h_numbers)), ((b 0), .inr (1, [.ref (b 1), .long o_shutBits, .int o_airs, .ref (b 2), .ref (b 3), .ref (b 4), .ref (b 5), .int o_crownedBits, .int o_sitters, .ref (b 6), .ref (b 7), .int o_onBits, .int o_turn, .int o_taken, .ref (b 8)])), ((b 1), .inl (y 0, 36, .inr (.inr (.inl o_warmth)))), ((b 2), .inl (y 1, 5, .inl o_kind)), ((b 3), .inl (y 1, 5, .inl o_figure)), ((b 4), .inl (y 1, 5, .inl o_airCell)), ((b 5), .inl (y 1, 5, .inl o_way)), ((b 6), .inl (y 1, 6, .inl o_seat)), ((b 7), .inl (y 1, 6, .inl o_shawls)), ((b 8), .inr (0, [.ref (b 9), .ref (b 10), .int o_count])), ((b 9), .inl (y 1, 6, .inl o_steps)), ((b 10), .inl (y 1, 6, .inl o_numbers))]
noncomputable def f_X2_take (h_warmth : (Nat → UInt32)) (h_kind : (Nat → Int32)) (h_figure : (Nat → Int32)) (h_airCell : (Nat → Int32)) (h_way : (Nat → Int32)) (h_seat : (Nat → Int32)) (h_shawls : (Nat → Int32)) (h_steps : (Nat → Int32)) (h_numbers : (Nat → Int32)) (o_shutBits : Int64) (o_airs : Int32) (o_crownedBits : Int32) (o_sitters : Int32) (o_onBits : Int32) (o_turn : Int32) (o_taken : Int32) (o_warmth : (Nat → UInt32)) (o_kind : (Nat → Int32)) (o_figure : (Nat → Int32)) (o_airCell : (Nat → Int32)) (o_way : (Nat → Int32)) (o_seat : (Nat → Int32)) (o_shawls : (Nat → Int32)) (o_count : Int32) (o_steps : (Nat → Int32)) (o_numbers : (Nat → Int32)) : Option (Int64 × Int32 × Int32 × Int32 × Int32 × Int32 × Int32 × (Nat → UInt32) × (Nat → Int32) × (Nat → Int32) × (Nat → Int32) × (Nat → Int32) × (Nat → Int32) × (Nat → Int32) × Int32 × (Nat → Int32) × (Nat → Int32)) := dq_let (va_cpy o_warmth h_warmth (0 : Int32).toNatClampNeg (0 : Int32).toNatClampNeg (36 : Int32).toNatClampNeg) (fun (h_warmth_1 : (Nat → UInt32)) => dq_let (va_cpy o_kind h_kind (0 : Int32).toNatClampNeg (0 : Int32).toNatClampNeg (5 : Int32).toNatClampNeg) (fun (h_kind_2 : (Nat → Int32)) => dq_let (va_cpy o_figure h_figure (0 : Int32).toNatClampNeg (0 : Int32).toNatClampNeg (5 : Int32).toNatClampNeg) (fun (h_figure_3 : (Nat → Int32)) => dq_let (va_cpy o_airCell h_airCell (0 : Int32).toNatClampNeg (0 : Int32).toNatClampNeg (5 : Int32).toNatClampNeg) (fun (h_airCell_4 : (Nat → Int32)) => dq_let (va_cpy o_way h_way (0 : Int32).toNatClampNeg (0 : Int32).toNatClampNeg (5 : Int32).toNatClampNeg) (fun (h_way_5 : (Nat → Int32)) => dq_let (va_cpy o_seat h_seat (0 : Int32).toNatClampNeg (0 : Int32).toNatClampNeg (6 : Int32).toNatClampNeg) (fun (h_seat_6 : (Nat → Int32)) => dq_let (va_cpy o_shawls h_shawls (0 : Int32).toNatClampNeg (0 : Int32).toNatClampNeg (6 : Int32).toNatClampNeg) (fun (h_shawls_7 : (Nat → Int32)) => dq_bd3 (f_X1_take h_steps h_numbers o_count o_steps o_numbers) (fun (h_count_8 : Int32) (h_steps_9 : (Nat → Int32)) (h_numbers_10 : (Nat → Int32)) => some (o_shutBits, o_airs, o_crownedBits, o_sitters, o_onBits, o_turn, o_taken, h_warmth_1, h_kind_2, h_figure_3, h_airCell_4, h_way_5, h_seat_6, h_shawls_7, h_count_8, h_steps_9, h_numbers_10)))))))))
def wA_X2_take : List Cond := .code yX2_take cX2_take 2 none :: wsL_law
-- DraughtsTake$House.take(LDraughtsTake$House;)V
set_option maxHeartbeats 4000000 in
set_option maxRecDepth 100000 in
theorem m_X2_take (l : Launch) (D : va_G) (y : Nat → ClassId) (a : (Nat → Nat)) (b : (Nat → Nat)) (h_shutBits : Int64) (h_airs : Int32) (h_crownedBits : Int32) (h_sitters : Int32) (h_onBits : Int32) (h_turn : Int32) (h_taken : Int32) (h_warmth : (Nat → UInt32)) (h_kind : (Nat → Int32)) (h_figure : (Nat → Int32)) (h_airCell : (Nat → Int32)) (h_way : (Nat → Int32)) (h_seat : (Nat → Int32)) (h_shawls : (Nat → Int32)) (h_count : Int32) (h_steps : (Nat → Int32)) (h_numbers : (Nat → Int32)) (o_shutBits : Int64) (o_airs : Int32) (o_crownedBits : Int32) (o_sitters : Int32) (o_onBits : Int32) (o_turn : Int32) (o_taken : Int32) (o_warmth : (Nat → UInt32)) (o_kind : (Nat → Int32)) (o_figure : (Nat → Int32)) (o_airCell : (Nat → Int32)) (o_way : (Nat → Int32)) (o_seat : (Nat → Int32)) (o_shawls : (Nat → Int32)) (o_count : Int32) (o_steps : (Nat → Int32)) (o_numbers : (Nat → Int32)) (z0 : Int64) (z1 : Int32) (z2 : Int32) (z3 : Int32) (z4 : Int32) (z5 : Int32) (z6 : Int32) (z7 : (Nat → UInt32)) (z8 : (Nat → Int32)) (z9 : (Nat → Int32)) (z10 : (Nat → Int32)) (z11 : (Nat → Int32)) (z12 : (Nat → Int32)) (z13 : (Nat → Int32)) (z14 : Int32) (z15 : (Nat → Int32)) (z16 : (Nat → Int32)) (hf : f_X2_take h_warmth h_kind h_figure h_airCell h_way h_seat h_shawls h_steps h_numbers o_shutBits o_airs o_crownedBits o_sitters o_onBits o_turn o_taken o_warmth o_kind o_figure o_airCell o_way o_seat o_shawls o_count o_steps o_numbers = some (z0, z1, z2, z3, z4, z5, z6, z7, z8, z9, z10, z11, z12, z13, z14, z15, z16)) : Ct l D y yX2_take wA_X2_take 2 61 [.ref (a 0), .ref (b 0)] (w_X2_take y a b h_shutBits h_airs h_crownedBits h_sitters h_onBits h_turn h_taken h_warmth h_kind h_figure h_airCell h_way h_seat h_shawls h_count h_steps h_numbers o_shutBits o_airs o_crownedBits o_sitters o_onBits o_turn o_taken o_warmth o_kind o_figure o_airCell o_way o_seat o_shawls o_count o_steps o_numbers) (w_X2_take y a b z0 z1 z2 z3 z4 z5 z6 z7 z8 z9 z10 z11 z12 z13 z14 z15 z16 o_shutBits o_airs o_crownedBits o_sitters o_onBits o_turn o_taken o_warmth o_kind o_figure o_airCell o_way o_seat o_shawls o_count o_steps o_numbers) none := by
  refine ct_head (cc := cX2_take) (n := 2) (ret := none) (by decide) rfl (Nat.le_of_ble_eq_true rfl) ?_
  intro p e s m below meth c A ls hx hb hr hml hown hlocks hts hA hAe hP hK hD hl
  have hS : va_S A s.heap s.heap [] := va_S.rf
  have hl : lv_has ls 2 [(0, .ref (a 0)), (1, .ref (b 0))] := hl
  have hown : s.vm.findClass RX2 = some m.cls := hown
  have hts : ∀ w ∈ wsL_law, w.before [.ref (a 0), .ref (b 0)].toArray s = true := fun w h => hts w (List.mem_cons_of_mem _ h)
  unfold f_X2_take at hf
  refine lv_aload_n hx hb dX2_take_0 rfl (lv_at hl 1 rfl) ?_
  refine va_get (D := D) (ci := 1) (v := .ref (b 1)) (C := RX2) (T := TX2) (N := 15) hx hb hts iwX2 hown hK hP 11 rfl rfl 0 (by decide) (hts _ wl_40) (fun _ h9 => h9) rfl dX2_take_1 ?_
  refine lv_iconst (v := 0) hx hb dX2_take_4 (by decide) ?_
  refine lv_aload_n hx hb dX2_take_5 rfl (lv_at hl 0 rfl) ?_
  refine va_get (D := D) (ci := 1) (v := .ref (a 1)) (C := RX2) (T := TX2) (N := 15) hx hb hts iwX2 hown hK hP 0 rfl rfl 0 (by decide) (hts _ wl_40) (fun _ h9 => h9) rfl dX2_take_6 ?_
  refine lv_iconst (v := 0) hx hb dX2_take_9 (by decide) ?_
  refine lv_bipush (v := 36) hx hb dX2_take_10 (by decide) ?_
  refine dq_copyF (c0 := y 0) (c1 := y 0) (n0 := 36) (n1 := 36) (f := o_warmth) (g := h_warmth) hx hb (hml.trans hl.1.symm) hown (hts _ wl_180) (hts _ wl_181) (hts _ wl_182) (hts _ wl_183) hK hP hD hS 12 1 0 0 rfl rfl rfl rfl (by decide) (by decide) (by decide) (by decide) (by decide) (Nat.le_of_ble_eq_true rfl) (Nat.le_of_ble_eq_true (by decide +kernel)) dX2_take_12 (fun h_warmth_1 eh_warmth_1 H locs hP hD hS => ?_)
  have hf := dq_l hf h_warmth_1 eh_warmth_1
  clear eh_warmth_1
  have hP : va_P D vwCl (w_X2_take y a b h_shutBits h_airs h_crownedBits h_sitters h_onBits h_turn h_taken h_warmth_1 h_kind h_figure h_airCell h_way h_seat h_shawls h_count h_steps h_numbers o_shutBits o_airs o_crownedBits o_sitters o_onBits o_turn o_taken o_warmth o_kind o_figure o_airCell o_way o_seat o_shawls o_count o_steps o_numbers) H := hP
  have hD : va_D A (w_X2_take y a b h_shutBits h_airs h_crownedBits h_sitters h_onBits h_turn h_taken h_warmth_1 h_kind h_figure h_airCell h_way h_seat h_shawls h_count h_steps h_numbers o_shutBits o_airs o_crownedBits o_sitters o_onBits o_turn o_taken o_warmth o_kind o_figure o_airCell o_way o_seat o_shawls o_count o_steps o_numbers) := hD
  refine lv_aload_n hx hb dX2_take_15 rfl (lv_at hl 0 rfl) ?_
  refine lv_aload_n hx hb dX2_take_16 rfl (lv_at hl 1 rfl) ?_
  refine va_get (D := D) (ci := 1) (v := .long o_shutBits) (C := RX2) (T := TX2) (N := 15) hx hb hts iwX2 hown hK hP 11 rfl rfl 1 (by decide) (hts _ wl_184) (fun _ h9 => h9) rfl dX2_take_17 ?_
  refine va_put (D := D) (ci := 1) (v := .long o_shutBits) (ty := .long) (C := RX2) (T := TX2) (N := 15) hx hb hts iwX2 tyX2 tyX2_ok nmX2 hown hK hP hD hS 0 rfl rfl 1 (by decide) (hts _ wl_184) (fun _ h9 => h9) rfl (tyX2_ok 1 (by decide)) rfl rfl (Nat.le_of_ble_eq_true rfl) dX2_take_20 (fun H locs hP hD hS => ?_)
  have hP : va_P D vwCl (w_X2_take y a b o_shutBits h_airs h_crownedBits h_sitters h_onBits h_turn h_taken h_warmth_1 h_kind h_figure h_airCell h_way h_seat h_shawls h_count h_steps h_numbers o_shutBits o_airs o_crownedBits o_sitters o_onBits o_turn o_taken o_warmth o_kind o_figure o_airCell o_way o_seat o_shawls o_count o_steps o_numbers) H := hP
  have hD : va_D A (w_X2_take y a b o_shutBits h_airs h_crownedBits h_sitters h_onBits h_turn h_taken h_warmth_1 h_kind h_figure h_airCell h_way h_seat h_shawls h_count h_steps h_numbers o_shutBits o_airs o_crownedBits o_sitters o_onBits o_turn o_taken o_warmth o_kind o_figure o_airCell o_way o_seat o_shawls o_count o_steps o_numbers) := hD
  refine lv_aload_n hx hb dX2_take_23 rfl (lv_at hl 0 rfl) ?_
  refine lv_aload_n hx hb dX2_take_24 rfl (lv_at hl 1 rfl) ?_
  refine va_get (D := D) (ci := 1) (v := .int o_airs) (C := RX2) (T := TX2) (N := 15) hx hb hts iwX2 hown hK hP 11 rfl rfl 2 (by decide) (hts _ wl_185) (fun _ h9 => h9) rfl dX2_take_25 ?_
  refine va_put (D := D) (ci := 1) (v := .int o_airs) (ty := .int) (C := RX2) (T := TX2) (N := 15) hx hb hts iwX2 tyX2 tyX2_ok nmX2 hown hK hP hD hS 0 rfl rfl 2 (by decide) (hts _ wl_185) (fun _ h9 => h9) rfl (tyX2_ok 2 (by decide)) rfl rfl (Nat.le_of_ble_eq_true rfl) dX2_take_28 (fun H locs hP hD hS => ?_)
  have hP : va_P D vwCl (w_X2_take y a b o_shutBits o_airs h_crownedBits h_sitters h_onBits h_turn h_taken h_warmth_1 h_kind h_figure h_airCell h_way h_seat h_shawls h_count h_steps h_numbers o_shutBits o_airs o_crownedBits o_sitters o_onBits o_turn o_taken o_warmth o_kind o_figure o_airCell o_way o_seat o_shawls o_count o_steps o_numbers) H := hP
  have hD : va_D A (w_X2_take y a b o_shutBits o_airs h_crownedBits h_sitters h_onBits h_turn h_taken h_warmth_1 h_kind h_figure h_airCell h_way h_seat h_shawls h_count h_steps h_numbers o_shutBits o_airs o_crownedBits o_sitters o_onBits o_turn o_taken o_warmth o_kind o_figure o_airCell o_way o_seat o_shawls o_count o_steps o_numbers) := hD
  refine lv_aload_n hx hb dX2_take_31 rfl (lv_at hl 1 rfl) ?_
  refine va_get (D := D) (ci := 1) (v := .ref (b 2)) (C := RX2) (T := TX2) (N := 15) hx hb hts iwX2 hown hK hP 11 rfl rfl 3 (by decide) (hts _ wl_41) (fun _ h9 => h9) rfl dX2_take_32 ?_
  refine lv_iconst (v := 0) hx hb dX2_take_35 (by decide) ?_
  refine lv_aload_n hx hb dX2_take_36 rfl (lv_at hl 0 rfl) ?_
  refine va_get (D := D) (ci := 1) (v := .ref (a 2)) (C := RX2) (T := TX2) (N := 15) hx hb hts iwX2 hown hK hP 0 rfl rfl 3 (by decide) (hts _ wl_41) (fun _ h9 => h9) rfl dX2_take_37 ?_
  refine lv_iconst (v := 0) hx hb dX2_take_40 (by decide) ?_
  refine lv_iconst (v := 5) hx hb dX2_take_41 (by decide) ?_
  refine dq_copyI (c0 := y 1) (c1 := y 1) (n0 := 5) (n1 := 5) (f := o_kind) (g := h_kind) hx hb (hml.trans hl.1.symm) hown (hts _ wl_180) (hts _ wl_181) (hts _ wl_182) (hts _ wl_183) hK hP hD hS 13 2 1 1 rfl rfl rfl rfl (by decide) (by decide) (by decide) (by decide) (by decide) (Nat.le_of_ble_eq_true rfl) (Nat.le_of_ble_eq_true (by decide +kernel)) dX2_take_42 (fun h_kind_2 eh_kind_2 H locs hP hD hS => ?_)
  have hf := dq_l hf h_kind_2 eh_kind_2
  clear eh_kind_2
  have hP : va_P D vwCl (w_X2_take y a b o_shutBits o_airs h_crownedBits h_sitters h_onBits h_turn h_taken h_warmth_1 h_kind_2 h_figure h_airCell h_way h_seat h_shawls h_count h_steps h_numbers o_shutBits o_airs o_crownedBits o_sitters o_onBits o_turn o_taken o_warmth o_kind o_figure o_airCell o_way o_seat o_shawls o_count o_steps o_numbers) H := hP
  have hD : va_D A (w_X2_take y a b o_shutBits o_airs h_crownedBits h_sitters h_onBits h_turn h_taken h_warmth_1 h_kind_2 h_figure h_airCell h_way h_seat h_shawls h_count h_steps h_numbers o_shutBits o_airs o_crownedBits o_sitters o_onBits o_turn o_taken o_warmth o_kind o_figure o_airCell o_way o_seat o_shawls o_count o_steps o_numbers) := hD
  refine lv_aload_n hx hb dX2_take_45 rfl (lv_at hl 1 rfl) ?_
  refine va_get (D := D) (ci := 1) (v := .ref (b 3)) (C := RX2) (T := TX2) (N := 15) hx hb hts iwX2 hown hK hP 11 rfl rfl 4 (by decide) (hts _ wl_42) (fun _ h9 => h9) rfl dX2_take_46 ?_
  refine lv_iconst (v := 0) hx hb dX2_take_49 (by decide) ?_
  refine lv_aload_n hx hb dX2_take_50 rfl (lv_at hl 0 rfl) ?_
  refine va_get (D := D) (ci := 1) (v := .ref (a 3)) (C := RX2) (T := TX2) (N := 15) hx hb hts iwX2 hown hK hP 0 rfl rfl 4 (by decide) (hts _ wl_42) (fun _ h9 => h9) rfl dX2_take_51 ?_
  refine lv_iconst (v := 0) hx hb dX2_take_54 (by decide) ?_
  refine lv_iconst (v := 5) hx hb dX2_take_55 (by decide) ?_
  refine dq_copyI (c0 := y 1) (c1 := y 1) (n0 := 5) (n1 := 5) (f := o_figure) (g := h_figure) hx hb (hml.trans hl.1.symm) hown (hts _ wl_180) (hts _ wl_181) (hts _ wl_182) (hts _ wl_183) hK hP hD hS 14 3 1 1 rfl rfl rfl rfl (by decide) (by decide) (by decide) (by decide) (by decide) (Nat.le_of_ble_eq_true rfl) (Nat.le_of_ble_eq_true (by decide +kernel)) dX2_take_56 (fun h_figure_3 eh_figure_3 H locs hP hD hS => ?_)
  have hf := dq_l hf h_figure_3 eh_figure_3
  clear eh_figure_3
  have hP : va_P D vwCl (w_X2_take y a b o_shutBits o_airs h_crownedBits h_sitters h_onBits h_turn h_taken h_warmth_1 h_kind_2 h_figure_3 h_airCell h_way h_seat h_shawls h_count h_steps h_numbers o_shutBits o_airs o_crownedBits o_sitters o_onBits o_turn o_taken o_warmth o_kind o_figure o_airCell o_way o_seat o_shawls o_count o_steps o_numbers) H := hP
  have hD : va_D A (w_X2_take y a b o_shutBits o_airs h_crownedBits h_sitters h_onBits h_turn h_taken h_warmth_1 h_kind_2 h_figure_3 h_airCell h_way h_seat h_shawls h_count h_steps h_numbers o_shutBits o_airs o_crownedBits o_sitters o_onBits o_turn o_taken o_warmth o_kind o_figure o_airCell o_way o_seat o_shawls o_count o_steps o_numbers) := hD
  refine lv_aload_n hx hb dX2_take_59 rfl (lv_at hl 1 rfl) ?_
  refine va_get (D := D) (ci := 1) (v := .ref (b 4)) (C := RX2) (T := TX2) (N := 15) hx hb hts iwX2 hown hK hP 11 rfl rfl 5 (by decide) (hts _ wl_43) (fun _ h9 => h9) rfl dX2_take_60 ?_
  refine lv_iconst (v := 0) hx hb dX2_take_63 (by decide) ?_
  refine lv_aload_n hx hb dX2_take_64 rfl (lv_at hl 0 rfl) ?_
  refine va_get (D := D) (ci := 1) (v := .ref (a 4)) (C := RX2) (T := TX2) (N := 15) hx hb hts iwX2 hown hK hP 0 rfl rfl 5 (by decide) (hts _ wl_43) (fun _ h9 => h9) rfl dX2_take_65 ?_
  refine lv_iconst (v := 0) hx hb dX2_take_68 (by decide) ?_
  refine lv_iconst (v := 5) hx hb dX2_take_69 (by decide) ?_
  refine dq_copyI (c0 := y 1) (c1 := y 1) (n0 := 5) (n1 := 5) (f := o_airCell) (g := h_airCell) hx hb (hml.trans hl.1.symm) hown (hts _ wl_180) (hts _ wl_181) (hts _ wl_182) (hts _ wl_183) hK hP hD hS 15 4 1 1 rfl rfl rfl rfl (by decide) (by decide) (by decide) (by decide) (by decide) (Nat.le_of_ble_eq_true rfl) (Nat.le_of_ble_eq_true (by decide +kernel)) dX2_take_70 (fun h_airCell_4 eh_airCell_4 H locs hP hD hS => ?_)
  have hf := dq_l hf h_airCell_4 eh_airCell_4
  clear eh_airCell_4
  have hP : va_P D vwCl (w_X2_take y a b o_shutBits o_airs h_crownedBits h_sitters h_onBits h_turn h_taken h_warmth_1 h_kind_2 h_figure_3 h_airCell_4 h_way h_seat h_shawls h_count h_steps h_numbers o_shutBits o_airs o_crownedBits o_sitters o_onBits o_turn o_taken o_warmth o_kind o_figure o_airCell o_way o_seat o_shawls o_count o_steps o_numbers) H := hP
  have hD : va_D A (w_X2_take y a b o_shutBits o_airs h_crownedBits h_sitters h_onBits h_turn h_taken h_warmth_1 h_kind_2 h_figure_3 h_airCell_4 h_way h_seat h_shawls h_count h_steps h_numbers o_shutBits o_airs o_crownedBits o_sitters o_onBits o_turn o_taken o_warmth o_kind o_figure o_airCell o_way o_seat o_shawls o_count o_steps o_numbers) := hD
  refine lv_aload_n hx hb dX2_take_73 rfl (lv_at hl 1 rfl) ?_
  refine va_get (D := D) (ci := 1) (v := .ref (b 5)) (C := RX2) (T := TX2) (N := 15) hx hb hts iwX2 hown hK hP 11 rfl rfl 6 (by decide) (hts _ wl_44) (fun _ h9 => h9) rfl dX2_take_74 ?_
  refine lv_iconst (v := 0) hx hb dX2_take_77 (by decide) ?_
  refine lv_aload_n hx hb dX2_take_78 rfl (lv_at hl 0 rfl) ?_
  refine va_get (D := D) (ci := 1) (v := .ref (a 5)) (C := RX2) (T := TX2) (N := 15) hx hb hts iwX2 hown hK hP 0 rfl rfl 6 (by decide) (hts _ wl_44) (fun _ h9 => h9) rfl dX2_take_79 ?_
  refine lv_iconst (v := 0) hx hb dX2_take_82 (by decide) ?_
  refine lv_iconst (v := 5) hx hb dX2_take_83 (by decide) ?_
  refine dq_copyI (c0 := y 1) (c1 := y 1) (n0 := 5) (n1 := 5) (f := o_way) (g := h_way) hx hb (hml.trans hl.1.symm) hown (hts _ wl_180) (hts _ wl_181) (hts _ wl_182) (hts _ wl_183) hK hP hD hS 16 5 1 1 rfl rfl rfl rfl (by decide) (by decide) (by decide) (by decide) (by decide) (Nat.le_of_ble_eq_true rfl) (Nat.le_of_ble_eq_true (by decide +kernel)) dX2_take_84 (fun h_way_5 eh_way_5 H locs hP hD hS => ?_)
  have hf := dq_l hf h_way_5 eh_way_5
  clear eh_way_5
  have hP : va_P D vwCl (w_X2_take y a b o_shutBits o_airs h_crownedBits h_sitters h_onBits h_turn h_taken h_warmth_1 h_kind_2 h_figure_3 h_airCell_4 h_way_5 h_seat h_shawls h_count h_steps h_numbers o_shutBits o_airs o_crownedBits o_sitters o_onBits o_turn o_taken o_warmth o_kind o_figure o_airCell o_way o_seat o_shawls o_count o_steps o_numbers) H := hP
  have hD : va_D A (w_X2_take y a b o_shutBits o_airs h_crownedBits h_sitters h_onBits h_turn h_taken h_warmth_1 h_kind_2 h_figure_3 h_airCell_4 h_way_5 h_seat h_shawls h_count h_steps h_numbers o_shutBits o_airs o_crownedBits o_sitters o_onBits o_turn o_taken o_warmth o_kind o_figure o_airCell o_way o_seat o_shawls o_count o_steps o_numbers) := hD
  refine lv_aload_n hx hb dX2_take_87 rfl (lv_at hl 0 rfl) ?_
  refine lv_aload_n hx hb dX2_take_88 rfl (lv_at hl 1 rfl) ?_
  refine va_get (D := D) (ci := 1) (v := .int o_crownedBits) (C := RX2) (T := TX2) (N := 15) hx hb hts iwX2 hown hK hP 11 rfl rfl 7 (by decide) (hts _ wl_186) (fun _ h9 => h9) rfl dX2_take_89 ?_
  refine va_put (D := D) (ci := 1) (v := .int o_crownedBits) (ty := .int) (C := RX2) (T := TX2) (N := 15) hx hb hts iwX2 tyX2 tyX2_ok nmX2 hown hK hP hD hS 0 rfl rfl 7 (by decide) (hts _ wl_186) (fun _ h9 => h9) rfl (tyX2_ok 7 (by decide)) rfl rfl (Nat.le_of_ble_eq_true rfl) dX2_take_92 (fun H locs hP hD hS => ?_)
  have hP : va_P D vwCl (w_X2_take y a b o_shutBits o_airs o_crownedBits h_sitters h_onBits h_turn h_taken h_warmth_1 h_kind_2 h_figure_3 h_airCell_4 h_way_5 h_seat h_shawls h_count h_steps h_numbers o_shutBits o_airs o_crownedBits o_sitters o_onBits o_turn o_taken o_warmth o_kind o_figure o_airCell o_way o_seat o_shawls o_count o_steps o_numbers) H := hP
  have hD : va_D A (w_X2_take y a b o_shutBits o_airs o_crownedBits h_sitters h_onBits h_turn h_taken h_warmth_1 h_kind_2 h_figure_3 h_airCell_4 h_way_5 h_seat h_shawls h_count h_steps h_numbers o_shutBits o_airs o_crownedBits o_sitters o_onBits o_turn o_taken o_warmth o_kind o_figure o_airCell o_way o_seat o_shawls o_count o_steps o_numbers) := hD
  refine lv_aload_n hx hb dX2_take_95 rfl (lv_at hl 0 rfl) ?_
  refine lv_aload_n hx hb dX2_take_96 rfl (lv_at hl 1 rfl) ?_
  refine va_get (D := D) (ci := 1) (v := .int o_sitters) (C := RX2) (T := TX2) (N := 15) hx hb hts iwX2 hown hK hP 11 rfl rfl 8 (by decide) (hts _ wl_187) (fun _ h9 => h9) rfl dX2_take_97 ?_
  refine va_put (D := D) (ci := 1) (v := .int o_sitters) (ty := .int) (C := RX2) (T := TX2) (N := 15) hx hb hts iwX2 tyX2 tyX2_ok nmX2 hown hK hP hD hS 0 rfl rfl 8 (by decide) (hts _ wl_187) (fun _ h9 => h9) rfl (tyX2_ok 8 (by decide)) rfl rfl (Nat.le_of_ble_eq_true rfl) dX2_take_100 (fun H locs hP hD hS => ?_)
  have hP : va_P D vwCl (w_X2_take y a b o_shutBits o_airs o_crownedBits o_sitters h_onBits h_turn h_taken h_warmth_1 h_kind_2 h_figure_3 h_airCell_4 h_way_5 h_seat h_shawls h_count h_steps h_numbers o_shutBits o_airs o_crownedBits o_sitters o_onBits o_turn o_taken o_warmth o_kind o_figure o_airCell o_way o_seat o_shawls o_count o_steps o_numbers) H := hP
  have hD : va_D A (w_X2_take y a b o_shutBits o_airs o_crownedBits o_sitters h_onBits h_turn h_taken h_warmth_1 h_kind_2 h_figure_3 h_airCell_4 h_way_5 h_seat h_shawls h_count h_steps h_numbers o_shutBits o_airs o_crownedBits o_sitters o_onBits o_turn o_taken o_warmth o_kind o_figure o_airCell o_way o_seat o_shawls o_count o_steps o_numbers) := hD
  refine lv_aload_n hx hb dX2_take_103 rfl (lv_at hl 1 rfl) ?_
  refine va_get (D := D) (ci := 1) (v := .ref (b 6)) (C := RX2) (T := TX2) (N := 15) hx hb hts iwX2 hown hK hP 11 rfl rfl 9 (by decide) (hts _ wl_45) (fun _ h9 => h9) rfl dX2_take_104 ?_
  refine lv_iconst (v := 0) hx hb dX2_take_107 (by decide) ?_
  refine lv_aload_n hx hb dX2_take_108 rfl (lv_at hl 0 rfl) ?_
  refine va_get (D := D) (ci := 1) (v := .ref (a 6)) (C := RX2) (T := TX2) (N := 15) hx hb hts iwX2 hown hK hP 0 rfl rfl 9 (by decide) (hts _ wl_45) (fun _ h9 => h9) rfl dX2_take_109 ?_
  refine lv_iconst (v := 0) hx hb dX2_take_112 (by decide) ?_
  refine lv_bipush (v := 6) hx hb dX2_take_113 (by decide) ?_
  refine dq_copyI (c0 := y 1) (c1 := y 1) (n0 := 6) (n1 := 6) (f := o_seat) (g := h_seat) hx hb (hml.trans hl.1.symm) hown (hts _ wl_180) (hts _ wl_181) (hts _ wl_182) (hts _ wl_183) hK hP hD hS 17 6 1 1 rfl rfl rfl rfl (by decide) (by decide) (by decide) (by decide) (by decide) (Nat.le_of_ble_eq_true rfl) (Nat.le_of_ble_eq_true (by decide +kernel)) dX2_take_115 (fun h_seat_6 eh_seat_6 H locs hP hD hS => ?_)
  have hf := dq_l hf h_seat_6 eh_seat_6
  clear eh_seat_6
  have hP : va_P D vwCl (w_X2_take y a b o_shutBits o_airs o_crownedBits o_sitters h_onBits h_turn h_taken h_warmth_1 h_kind_2 h_figure_3 h_airCell_4 h_way_5 h_seat_6 h_shawls h_count h_steps h_numbers o_shutBits o_airs o_crownedBits o_sitters o_onBits o_turn o_taken o_warmth o_kind o_figure o_airCell o_way o_seat o_shawls o_count o_steps o_numbers) H := hP
  have hD : va_D A (w_X2_take y a b o_shutBits o_airs o_crownedBits o_sitters h_onBits h_turn h_taken h_warmth_1 h_kind_2 h_figure_3 h_airCell_4 h_way_5 h_seat_6 h_shawls h_count h_steps h_numbers o_shutBits o_airs o_crownedBits o_sitters o_onBits o_turn o_taken o_warmth o_kind o_figure o_airCell o_way o_seat o_shawls o_count o_steps o_numbers) := hD
  refine lv_aload_n hx hb dX2_take_118 rfl (lv_at hl 1 rfl) ?_
  refine va_get (D := D) (ci := 1) (v := .ref (b 7)) (C := RX2) (T := TX2) (N := 15) hx hb hts iwX2 hown hK hP 11 rfl rfl 10 (by decide) (hts _ wl_46) (fun _ h9 => h9) rfl dX2_take_119 ?_
  refine lv_iconst (v := 0) hx hb dX2_take_122 (by decide) ?_
  refine lv_aload_n hx hb dX2_take_123 rfl (lv_at hl 0 rfl) ?_
  refine va_get (D := D) (ci := 1) (v := .ref (a 7)) (C := RX2) (T := TX2) (N := 15) hx hb hts iwX2 hown hK hP 0 rfl rfl 10 (by decide) (hts _ wl_46) (fun _ h9 => h9) rfl dX2_take_124 ?_
  refine lv_iconst (v := 0) hx hb dX2_take_127 (by decide) ?_
  refine lv_bipush (v := 6) hx hb dX2_take_128 (by decide) ?_
  refine dq_copyI (c0 := y 1) (c1 := y 1) (n0 := 6) (n1 := 6) (f := o_shawls) (g := h_shawls) hx hb (hml.trans hl.1.symm) hown (hts _ wl_180) (hts _ wl_181) (hts _ wl_182) (hts _ wl_183) hK hP hD hS 18 7 1 1 rfl rfl rfl rfl (by decide) (by decide) (by decide) (by decide) (by decide) (Nat.le_of_ble_eq_true rfl) (Nat.le_of_ble_eq_true (by decide +kernel)) dX2_take_130 (fun h_shawls_7 eh_shawls_7 H locs hP hD hS => ?_)
  have hf := dq_l hf h_shawls_7 eh_shawls_7
  clear eh_shawls_7
  have hP : va_P D vwCl (w_X2_take y a b o_shutBits o_airs o_crownedBits o_sitters h_onBits h_turn h_taken h_warmth_1 h_kind_2 h_figure_3 h_airCell_4 h_way_5 h_seat_6 h_shawls_7 h_count h_steps h_numbers o_shutBits o_airs o_crownedBits o_sitters o_onBits o_turn o_taken o_warmth o_kind o_figure o_airCell o_way o_seat o_shawls o_count o_steps o_numbers) H := hP
  have hD : va_D A (w_X2_take y a b o_shutBits o_airs o_crownedBits o_sitters h_onBits h_turn h_taken h_warmth_1 h_kind_2 h_figure_3 h_airCell_4 h_way_5 h_seat_6 h_shawls_7 h_count h_steps h_numbers o_shutBits o_airs o_crownedBits o_sitters o_onBits o_turn o_taken o_warmth o_kind o_figure o_airCell o_way o_seat o_shawls o_count o_steps o_numbers) := hD
  refine lv_aload_n hx hb dX2_take_133 rfl (lv_at hl 0 rfl) ?_
  refine lv_aload_n hx hb dX2_take_134 rfl (lv_at hl 1 rfl) ?_
  refine va_get (D := D) (ci := 1) (v := .int o_onBits) (C := RX2) (T := TX2) (N := 15) hx hb hts iwX2 hown hK hP 11 rfl rfl 11 (by decide) (hts _ wl_188) (fun _ h9 => h9) rfl dX2_take_135 ?_
  refine va_put (D := D) (ci := 1) (v := .int o_onBits) (ty := .int) (C := RX2) (T := TX2) (N := 15) hx hb hts iwX2 tyX2 tyX2_ok nmX2 hown hK hP hD hS 0 rfl rfl 11 (by decide) (hts _ wl_188) (fun _ h9 => h9) rfl (tyX2_ok 11 (by decide)) rfl rfl (Nat.le_of_ble_eq_true rfl) dX2_take_138 (fun H locs hP hD hS => ?_)
  have hP : va_P D vwCl (w_X2_take y a b o_shutBits o_airs o_crownedBits o_sitters o_onBits h_turn h_taken h_warmth_1 h_kind_2 h_figure_3 h_airCell_4 h_way_5 h_seat_6 h_shawls_7 h_count h_steps h_numbers o_shutBits o_airs o_crownedBits o_sitters o_onBits o_turn o_taken o_warmth o_kind o_figure o_airCell o_way o_seat o_shawls o_count o_steps o_numbers) H := hP
  have hD : va_D A (w_X2_take y a b o_shutBits o_airs o_crownedBits o_sitters o_onBits h_turn h_taken h_warmth_1 h_kind_2 h_figure_3 h_airCell_4 h_way_5 h_seat_6 h_shawls_7 h_count h_steps h_numbers o_shutBits o_airs o_crownedBits o_sitters o_onBits o_turn o_taken o_warmth o_kind o_figure o_airCell o_way o_seat o_shawls o_count o_steps o_numbers) := hD
  refine lv_aload_n hx hb dX2_take_141 rfl (lv_at hl 0 rfl) ?_
  refine lv_aload_n hx hb dX2_take_142 rfl (lv_at hl 1 rfl) ?_
  refine va_get (D := D) (ci := 1) (v := .int o_turn) (C := RX2) (T := TX2) (N := 15) hx hb hts iwX2 hown hK hP 11 rfl rfl 12 (by decide) (hts _ wl_189) (fun _ h9 => h9) rfl dX2_take_143 ?_
  refine va_put (D := D) (ci := 1) (v := .int o_turn) (ty := .int) (C := RX2) (T := TX2) (N := 15) hx hb hts iwX2 tyX2 tyX2_ok nmX2 hown hK hP hD hS 0 rfl rfl 12 (by decide) (hts _ wl_189) (fun _ h9 => h9) rfl (tyX2_ok 12 (by decide)) rfl rfl (Nat.le_of_ble_eq_true rfl) dX2_take_146 (fun H locs hP hD hS => ?_)
  have hP : va_P D vwCl (w_X2_take y a b o_shutBits o_airs o_crownedBits o_sitters o_onBits o_turn h_taken h_warmth_1 h_kind_2 h_figure_3 h_airCell_4 h_way_5 h_seat_6 h_shawls_7 h_count h_steps h_numbers o_shutBits o_airs o_crownedBits o_sitters o_onBits o_turn o_taken o_warmth o_kind o_figure o_airCell o_way o_seat o_shawls o_count o_steps o_numbers) H := hP
  have hD : va_D A (w_X2_take y a b o_shutBits o_airs o_crownedBits o_sitters o_onBits o_turn h_taken h_warmth_1 h_kind_2 h_figure_3 h_airCell_4 h_way_5 h_seat_6 h_shawls_7 h_count h_steps h_numbers o_shutBits o_airs o_crownedBits o_sitters o_onBits o_turn o_taken o_warmth o_kind o_figure o_airCell o_way o_seat o_shawls o_count o_steps o_numbers) := hD
  refine lv_aload_n hx hb dX2_take_149 rfl (lv_at hl 0 rfl) ?_
  refine lv_aload_n hx hb dX2_take_150 rfl (lv_at hl 1 rfl) ?_
  refine va_get (D := D) (ci := 1) (v := .int o_taken) (C := RX2) (T := TX2) (N := 15) hx hb hts iwX2 hown hK hP 11 rfl rfl 13 (by decide) (hts _ wl_190) (fun _ h9 => h9) rfl dX2_take_151 ?_
  refine va_put (D := D) (ci := 1) (v := .int o_taken) (ty := .int) (C := RX2) (T := TX2) (N := 15) hx hb hts iwX2 tyX2 tyX2_ok nmX2 hown hK hP hD hS 0 rfl rfl 13 (by decide) (hts _ wl_190) (fun _ h9 => h9) rfl (tyX2_ok 13 (by decide)) rfl rfl (Nat.le_of_ble_eq_true rfl) dX2_take_154 (fun H locs hP hD hS => ?_)
  have hP : va_P D vwCl (w_X2_take y a b o_shutBits o_airs o_crownedBits o_sitters o_onBits o_turn o_taken h_warmth_1 h_kind_2 h_figure_3 h_airCell_4 h_way_5 h_seat_6 h_shawls_7 h_count h_steps h_numbers o_shutBits o_airs o_crownedBits o_sitters o_onBits o_turn o_taken o_warmth o_kind o_figure o_airCell o_way o_seat o_shawls o_count o_steps o_numbers) H := hP
  have hD : va_D A (w_X2_take y a b o_shutBits o_airs o_crownedBits o_sitters o_onBits o_turn o_taken h_warmth_1 h_kind_2 h_figure_3 h_airCell_4 h_way_5 h_seat_6 h_shawls_7 h_count h_steps h_numbers o_shutBits o_airs o_crownedBits o_sitters o_onBits o_turn o_taken o_warmth o_kind o_figure o_airCell o_way o_seat o_shawls o_count o_steps o_numbers) := hD
  refine lv_aload_n hx hb dX2_take_157 rfl (lv_at hl 0 rfl) ?_
  refine va_get (D := D) (ci := 1) (v := .ref (a 8)) (C := RX2) (T := TX2) (N := 15) hx hb hts iwX2 hown hK hP 0 rfl rfl 14 (by decide) (hts _ wl_50) (fun _ h9 => h9) rfl dX2_take_158 ?_
  refine lv_aload_n hx hb dX2_take_161 rfl (lv_at hl 1 rfl) ?_
  refine va_get (D := D) (ci := 1) (v := .ref (b 8)) (C := RX2) (T := TX2) (N := 15) hx hb hts iwX2 hown hK hP 11 rfl rfl 14 (by decide) (hts _ wl_50) (fun _ h9 => h9) rfl dX2_take_162 ?_
  obtain ⟨h_count_8, h_steps_9, h_numbers_10, hy11, hf⟩ := dq_b3 hf
  refine ct_callV (ci := 0) (q0 := 0) (own := RX2) (As := [.ref (b 8)]) (rest := []) (ws' := (w_X2_take y a b o_shutBits o_airs o_crownedBits o_sitters o_onBits o_turn o_taken h_warmth_1 h_kind_2 h_figure_3 h_airCell_4 h_way_5 h_seat_6 h_shawls_7 h_count_8 h_steps_9 h_numbers_10 o_shutBits o_airs o_crownedBits o_sitters o_onBits o_turn o_taken o_warmth o_kind o_figure o_airCell o_way o_seat o_shawls o_count o_steps o_numbers)) ⟨hx, hb, hml, hown, hts⟩ (m_X1_take l D y (fun k => a (8 + k)) (fun k => b (8 + k)) h_count h_steps h_numbers o_count o_steps o_numbers h_count_8 h_steps_9 h_numbers_10 hy11) (cwV 1 hts (gA_V wl_191 wl_192 wl_193 wl_49 wl_194) rfl rfl rfl (by decide +kernel) ⟨Nat.le_of_ble_eq_true rfl, Nat.le_of_ble_eq_true rfl⟩) rfl rfl rfl hl.1 rfl (Nat.le_of_ble_eq_true rfl) dX2_take_165 ⟨Nat.zero_le _, Nat.zero_le _⟩ hK hP hD hS hA [8, 9, 10, 19, 20, 21] [0, 1, 2, 3, 4, 5, 6, 7, 11, 12, 13, 14, 15, 16, 17, 18] rfl rfl rfl (by decide) (by decide) 22 rfl (by decide +kernel) (fun H locs hP hD hS => ?_)
  obtain ⟨rfl, rfl, rfl, rfl, rfl, rfl, rfl, rfl, rfl, rfl, rfl, rfl, rfl, rfl, rfl, rfl, rfl⟩ := dq_r17 hf
  exact ct_vret hx hb hr hlocks hAe hP hK hD hS dX2_take_168
def w_X2 (y : Nat → ClassId) (a : Nat → Nat) (h_shutBits : Int64) (h_airs : Int32) (h_crownedBits : Int32) (h_sitters : Int32) (h_onBits : Int32) (h_turn : Int32) (h_taken : Int32) (h_warmth : (Nat → UInt32)) (h_kind : (Nat → Int32)) (h_figure : (Nat → Int32)) (h_airCell : (Nat → Int32)) (h_way : (Nat → Int32)) (h_seat : (Nat → Int32)) (h_shawls : (Nat → Int32)) (h_count : Int32) (h_steps : (Nat → Int32)) (h_numbers : (Nat → Int32)) : va_W := [((a 0), .inr (1, [.ref (a 1), .long h_shutBits, .int h_airs, .ref (a 2), .ref (a 3), .ref (a 4), .ref (a 5), .int h_crownedBits, .int h_sitters, .ref (a 6), .ref (a 7), .int h_onBits, .int h_turn, .int h_taken, .ref (a 8)])), ((a 1), .inl (y 0, 36, .inr (.inr (.inl h_warmth)))), ((a 2), .inl (y 1, 5, .inl h_kind)), ((a 3), .inl (y 1, 5, .inl h_figure)), ((a 4), .inl (y 1, 5, .inl h_airCell)), ((a 5), .inl (y 1, 5, .inl h_way)), ((a 6), .inl (y 1, 6, .inl h_seat)), ((a 7), .inl (y 1, 6, .inl h_shawls)), ((a 8), .inr (0, [.ref (a 9), .ref (a 10), .int h_count])), ((a 9), .inl (y 1, 6, .inl h_steps)), ((a 10), .inl (y 1, 6, .inl h_numbers))]
noncomputable def f_X2_isShut (h_shutBits : Int64) (n0 : Int32) : Option Int32 := dq_if ((lg_cmp ((h_shutBits >>> (n0.toInt64 &&& 63)) &&& (1 : Int64)) (1 : Int64)) = 0) (some (1 : Int32)) (some (0 : Int32))
def wA_X2_isShut : List Cond := .code yX2_isShut cX2_isShut 2 (some .boolean) :: wsL_law
-- DraughtsTake$House.isShut(I)Z
set_option maxHeartbeats 4000000 in
set_option maxRecDepth 100000 in
theorem m_X2_isShut (l : Launch) (D : va_G) (y : Nat → ClassId) (a : (Nat → Nat)) (h_shutBits : Int64) (h_airs : Int32) (h_crownedBits : Int32) (h_sitters : Int32) (h_onBits : Int32) (h_turn : Int32) (h_taken : Int32) (h_warmth : (Nat → UInt32)) (h_kind : (Nat → Int32)) (h_figure : (Nat → Int32)) (h_airCell : (Nat → Int32)) (h_way : (Nat → Int32)) (h_seat : (Nat → Int32)) (h_shawls : (Nat → Int32)) (h_count : Int32) (h_steps : (Nat → Int32)) (h_numbers : (Nat → Int32)) (n0 : Int32) (z0 : Int32) (hf : f_X2_isShut h_shutBits n0 = some z0) : Ct l D y yX2_isShut wA_X2_isShut 0 0 [.ref (a 0), .int n0] (w_X2 y a h_shutBits h_airs h_crownedBits h_sitters h_onBits h_turn h_taken h_warmth h_kind h_figure h_airCell h_way h_seat h_shawls h_count h_steps h_numbers) (w_X2 y a h_shutBits h_airs h_crownedBits h_sitters h_onBits h_turn h_taken h_warmth h_kind h_figure h_airCell h_way h_seat h_shawls h_count h_steps h_numbers) (some (.int z0)) := by
  refine ct_head (cc := cX2_isShut) (n := 2) (ret := (some .boolean)) (by decide) rfl (Nat.le_of_ble_eq_true rfl) ?_
  intro p e s m below meth c A ls hx hb hr hml hown hlocks hts hA hAe hP hK hD hl
  have hS : va_S A s.heap s.heap [] := va_S.rf
  have hl : lv_has ls 2 [(0, .ref (a 0)), (1, .int n0)] := hl
  have hown : s.vm.findClass RX2 = some m.cls := hown
  have hts : ∀ w ∈ wsL_law, w.before [.ref (a 0), .int n0].toArray s = true := fun w h => hts w (List.mem_cons_of_mem _ h)
  unfold f_X2_isShut at hf
  refine lv_aload_n hx hb dX2_isShut_0 rfl (lv_at hl 0 rfl) ?_
  refine va_get (D := D) (ci := 1) (v := .long h_shutBits) (C := RX2) (T := TX2) (N := 15) hx hb hts iwX2 hown hK hP 0 rfl rfl 1 (by decide) (hts _ wl_184) (fun _ h9 => h9) rfl dX2_isShut_1 ?_
  refine lv_iload_n hx hb dX2_isShut_4 rfl (lv_at hl 1 rfl) ?_
  refine lv_lshr hx hb dX2_isShut_5 rfl ?_
  refine lv_lconst (v := 1) hx hb dX2_isShut_6 (by decide) ?_
  refine lv_land hx hb dX2_isShut_7 ?_
  refine lv_lconst (v := 1) hx hb dX2_isShut_8 (by decide) ?_
  refine W.lcmp hx hb dX2_isShut_9 ?_
  refine lv_if_ne (tgt := 17) hx hb dX2_isShut_10 (by decide) (fun c1 => ?_) (fun c1 => ?_)
  · have hf := dq_f hf c1
    clear c1
    refine lv_iconst (v := 0) hx hb dX2_isShut_17 (by decide) ?_
    obtain rfl := dq_r1 hf
    exact ct_zret hx hb hr rfl hlocks hAe hP hK hD hS dX2_isShut_18
  · have hf := dq_t hf c1
    clear c1
    refine lv_iconst (v := 1) hx hb dX2_isShut_13 (by decide) ?_
    refine lv_goto (tgt := 18) hx hb dX2_isShut_14 (by decide) ?_
    obtain rfl := dq_r1 hf
    exact ct_zret hx hb hr rfl hlocks hAe hP hK hD hS dX2_isShut_18
noncomputable def f_X2_toggleShut (h_shutBits : Int64) (n0 : Int32) : Option Int64 := dq_let (h_shutBits ^^^ ((1 : Int64) <<< (n0.toInt64 &&& 63))) (fun (x1 : Int64) => some x1)
def wA_X2_toggleShut : List Cond := .code yX2_toggleShut cX2_toggleShut 2 none :: wsL_law
-- DraughtsTake$House.toggleShut(I)V
set_option maxHeartbeats 4000000 in
set_option maxRecDepth 100000 in
theorem m_X2_toggleShut (l : Launch) (D : va_G) (y : Nat → ClassId) (a : (Nat → Nat)) (h_shutBits : Int64) (h_airs : Int32) (h_crownedBits : Int32) (h_sitters : Int32) (h_onBits : Int32) (h_turn : Int32) (h_taken : Int32) (h_warmth : (Nat → UInt32)) (h_kind : (Nat → Int32)) (h_figure : (Nat → Int32)) (h_airCell : (Nat → Int32)) (h_way : (Nat → Int32)) (h_seat : (Nat → Int32)) (h_shawls : (Nat → Int32)) (h_count : Int32) (h_steps : (Nat → Int32)) (h_numbers : (Nat → Int32)) (n0 : Int32) (z0 : Int64) (hf : f_X2_toggleShut h_shutBits n0 = some z0) : Ct l D y yX2_toggleShut wA_X2_toggleShut 0 0 [.ref (a 0), .int n0] (w_X2 y a h_shutBits h_airs h_crownedBits h_sitters h_onBits h_turn h_taken h_warmth h_kind h_figure h_airCell h_way h_seat h_shawls h_count h_steps h_numbers) (w_X2 y a z0 h_airs h_crownedBits h_sitters h_onBits h_turn h_taken h_warmth h_kind h_figure h_airCell h_way h_seat h_shawls h_count h_steps h_numbers) none := by
  refine ct_head (cc := cX2_toggleShut) (n := 2) (ret := none) (by decide) rfl (Nat.le_of_ble_eq_true rfl) ?_
  intro p e s m below meth c A ls hx hb hr hml hown hlocks hts hA hAe hP hK hD hl
  have hS : va_S A s.heap s.heap [] := va_S.rf
  have hl : lv_has ls 2 [(0, .ref (a 0)), (1, .int n0)] := hl
  have hown : s.vm.findClass RX2 = some m.cls := hown
  have hts : ∀ w ∈ wsL_law, w.before [.ref (a 0), .int n0].toArray s = true := fun w h => hts w (List.mem_cons_of_mem _ h)
  unfold f_X2_toggleShut at hf
  refine lv_aload_n hx hb dX2_toggleShut_0 rfl (lv_at hl 0 rfl) ?_
  refine lv_dup hx hb dX2_toggleShut_1 rfl ?_
  refine va_get (D := D) (ci := 1) (v := .long h_shutBits) (C := RX2) (T := TX2) (N := 15) hx hb hts iwX2 hown hK hP 0 rfl rfl 1 (by decide) (hts _ wl_184) (fun _ h9 => h9) rfl dX2_toggleShut_2 ?_
  refine lv_lconst (v := 1) hx hb dX2_toggleShut_5 (by decide) ?_
  refine lv_iload_n hx hb dX2_toggleShut_6 rfl (lv_at hl 1 rfl) ?_
  refine lv_lshl hx hb dX2_toggleShut_7 rfl ?_
  refine lv_lxor hx hb dX2_toggleShut_8 ?_
  refine lv_topl (fun x1 ex1 => ?_)
  have hf := dq_l hf x1 ex1
  clear ex1
  refine va_put (D := D) (ci := 1) (v := .long x1) (ty := .long) (C := RX2) (T := TX2) (N := 15) hx hb hts iwX2 tyX2 tyX2_ok nmX2 hown hK hP hD hS 0 rfl rfl 1 (by decide) (hts _ wl_184) (fun _ h9 => h9) rfl (tyX2_ok 1 (by decide)) rfl rfl (Nat.le_of_ble_eq_true rfl) dX2_toggleShut_9 (fun H locs hP hD hS => ?_)
  have hP : va_P D vwCl (w_X2 y a x1 h_airs h_crownedBits h_sitters h_onBits h_turn h_taken h_warmth h_kind h_figure h_airCell h_way h_seat h_shawls h_count h_steps h_numbers) H := hP
  have hD : va_D A (w_X2 y a x1 h_airs h_crownedBits h_sitters h_onBits h_turn h_taken h_warmth h_kind h_figure h_airCell h_way h_seat h_shawls h_count h_steps h_numbers) := hD
  obtain rfl := dq_r1 hf
  exact ct_vret hx hb hr hlocks hAe hP hK hD hS dX2_toggleShut_12
noncomputable def f_X2_isOn (h_onBits : Int32) (n0 : Int32) : Option Int32 := dq_if (((h_onBits >>> (n0 &&& 31)) &&& (1 : Int32)) = (1 : Int32)) (some (1 : Int32)) (some (0 : Int32))
def wA_X2_isOn : List Cond := .code yX2_isOn cX2_isOn 2 (some .boolean) :: wsL_law
-- DraughtsTake$House.isOn(I)Z
set_option maxHeartbeats 4000000 in
set_option maxRecDepth 100000 in
theorem m_X2_isOn (l : Launch) (D : va_G) (y : Nat → ClassId) (a : (Nat → Nat)) (h_shutBits : Int64) (h_airs : Int32) (h_crownedBits : Int32) (h_sitters : Int32) (h_onBits : Int32) (h_turn : Int32) (h_taken : Int32) (h_warmth : (Nat → UInt32)) (h_kind : (Nat → Int32)) (h_figure : (Nat → Int32)) (h_airCell : (Nat → Int32)) (h_way : (Nat → Int32)) (h_seat : (Nat → Int32)) (h_shawls : (Nat → Int32)) (h_count : Int32) (h_steps : (Nat → Int32)) (h_numbers : (Nat → Int32)) (n0 : Int32) (z0 : Int32) (hf : f_X2_isOn h_onBits n0 = some z0) : Ct l D y yX2_isOn wA_X2_isOn 0 0 [.ref (a 0), .int n0] (w_X2 y a h_shutBits h_airs h_crownedBits h_sitters h_onBits h_turn h_taken h_warmth h_kind h_figure h_airCell h_way h_seat h_shawls h_count h_steps h_numbers) (w_X2 y a h_shutBits h_airs h_crownedBits h_sitters h_onBits h_turn h_taken h_warmth h_kind h_figure h_airCell h_way h_seat h_shawls h_count h_steps h_numbers) (some (.int z0)) := by
  refine ct_head (cc := cX2_isOn) (n := 2) (ret := (some .boolean)) (by decide) rfl (Nat.le_of_ble_eq_true rfl) ?_
  intro p e s m below meth c A ls hx hb hr hml hown hlocks hts hA hAe hP hK hD hl
  have hS : va_S A s.heap s.heap [] := va_S.rf
  have hl : lv_has ls 2 [(0, .ref (a 0)), (1, .int n0)] := hl
  have hown : s.vm.findClass RX2 = some m.cls := hown
  have hts : ∀ w ∈ wsL_law, w.before [.ref (a 0), .int n0].toArray s = true := fun w h => hts w (List.mem_cons_of_mem _ h)
  unfold f_X2_isOn at hf
  refine lv_aload_n hx hb dX2_isOn_0 rfl (lv_at hl 0 rfl) ?_
  refine va_get (D := D) (ci := 1) (v := .int h_onBits) (C := RX2) (T := TX2) (N := 15) hx hb hts iwX2 hown hK hP 0 rfl rfl 11 (by decide) (hts _ wl_188) (fun _ h9 => h9) rfl dX2_isOn_1 ?_
  refine lv_iload_n hx hb dX2_isOn_4 rfl (lv_at hl 1 rfl) ?_
  refine lv_ishr hx hb dX2_isOn_5 ?_
  refine lv_iconst (v := 1) hx hb dX2_isOn_6 (by decide) ?_
  refine lv_iand hx hb dX2_isOn_7 ?_
  refine lv_iconst (v := 1) hx hb dX2_isOn_8 (by decide) ?_
  refine lv_icmp_ne (tgt := 16) hx hb dX2_isOn_9 (by decide) (fun c1 => ?_) (fun c1 => ?_)
  · have hf := dq_f hf c1
    clear c1
    refine lv_iconst (v := 0) hx hb dX2_isOn_16 (by decide) ?_
    obtain rfl := dq_r1 hf
    exact ct_zret hx hb hr rfl hlocks hAe hP hK hD hS dX2_isOn_17
  · have hf := dq_t hf c1
    clear c1
    refine lv_iconst (v := 1) hx hb dX2_isOn_12 (by decide) ?_
    refine lv_goto (tgt := 17) hx hb dX2_isOn_13 (by decide) ?_
    obtain rfl := dq_r1 hf
    exact ct_zret hx hb hr rfl hlocks hAe hP hK hD hS dX2_isOn_17
noncomputable def f_X2_isCrowned (h_crownedBits : Int32) (n0 : Int32) : Option Int32 := dq_if (((h_crownedBits >>> (n0 &&& 31)) &&& (1 : Int32)) = (1 : Int32)) (some (1 : Int32)) (some (0 : Int32))
def wA_X2_isCrowned : List Cond := .code yX2_isCrowned cX2_isCrowned 2 (some .boolean) :: wsL_law
-- DraughtsTake$House.isCrowned(I)Z
set_option maxHeartbeats 4000000 in
set_option maxRecDepth 100000 in
theorem m_X2_isCrowned (l : Launch) (D : va_G) (y : Nat → ClassId) (a : (Nat → Nat)) (h_shutBits : Int64) (h_airs : Int32) (h_crownedBits : Int32) (h_sitters : Int32) (h_onBits : Int32) (h_turn : Int32) (h_taken : Int32) (h_warmth : (Nat → UInt32)) (h_kind : (Nat → Int32)) (h_figure : (Nat → Int32)) (h_airCell : (Nat → Int32)) (h_way : (Nat → Int32)) (h_seat : (Nat → Int32)) (h_shawls : (Nat → Int32)) (h_count : Int32) (h_steps : (Nat → Int32)) (h_numbers : (Nat → Int32)) (n0 : Int32) (z0 : Int32) (hf : f_X2_isCrowned h_crownedBits n0 = some z0) : Ct l D y yX2_isCrowned wA_X2_isCrowned 0 0 [.ref (a 0), .int n0] (w_X2 y a h_shutBits h_airs h_crownedBits h_sitters h_onBits h_turn h_taken h_warmth h_kind h_figure h_airCell h_way h_seat h_shawls h_count h_steps h_numbers) (w_X2 y a h_shutBits h_airs h_crownedBits h_sitters h_onBits h_turn h_taken h_warmth h_kind h_figure h_airCell h_way h_seat h_shawls h_count h_steps h_numbers) (some (.int z0)) := by
  refine ct_head (cc := cX2_isCrowned) (n := 2) (ret := (some .boolean)) (by decide) rfl (Nat.le_of_ble_eq_true rfl) ?_
  intro p e s m below meth c A ls hx hb hr hml hown hlocks hts hA hAe hP hK hD hl
  have hS : va_S A s.heap s.heap [] := va_S.rf
  have hl : lv_has ls 2 [(0, .ref (a 0)), (1, .int n0)] := hl
  have hown : s.vm.findClass RX2 = some m.cls := hown
  have hts : ∀ w ∈ wsL_law, w.before [.ref (a 0), .int n0].toArray s = true := fun w h => hts w (List.mem_cons_of_mem _ h)
  unfold f_X2_isCrowned at hf
  refine lv_aload_n hx hb dX2_isCrowned_0 rfl (lv_at hl 0 rfl) ?_
  refine va_get (D := D) (ci := 1) (v := .int h_crownedBits) (C := RX2) (T := TX2) (N := 15) hx hb hts iwX2 hown hK hP 0 rfl rfl 7 (by decide) (hts _ wl_186) (fun _ h9 => h9) rfl dX2_isCrowned_1 ?_
  refine lv_iload_n hx hb dX2_isCrowned_4 rfl (lv_at hl 1 rfl) ?_
  refine lv_ishr hx hb dX2_isCrowned_5 ?_
  refine lv_iconst (v := 1) hx hb dX2_isCrowned_6 (by decide) ?_
  refine lv_iand hx hb dX2_isCrowned_7 ?_
  refine lv_iconst (v := 1) hx hb dX2_isCrowned_8 (by decide) ?_
  refine lv_icmp_ne (tgt := 16) hx hb dX2_isCrowned_9 (by decide) (fun c1 => ?_) (fun c1 => ?_)
  · have hf := dq_f hf c1
    clear c1
    refine lv_iconst (v := 0) hx hb dX2_isCrowned_16 (by decide) ?_
    obtain rfl := dq_r1 hf
    exact ct_zret hx hb hr rfl hlocks hAe hP hK hD hS dX2_isCrowned_17
  · have hf := dq_t hf c1
    clear c1
    refine lv_iconst (v := 1) hx hb dX2_isCrowned_12 (by decide) ?_
    refine lv_goto (tgt := 17) hx hb dX2_isCrowned_13 (by decide) ?_
    obtain rfl := dq_r1 hf
    exact ct_zret hx hb hr rfl hlocks hAe hP hK hD hS dX2_isCrowned_17
noncomputable def f_X2_airOn_b2 (n0 : Int32) (h_airs : Int32) (h_airCell : (Nat → Int32))  : Nat → Int32 → Option Int32
  | 0, _ => none
  | m2 + 1, x1 => dq_if (h_airs ≤ x1) (some (-9 : Int32)) (dq_gd (vp_in x1 5) (dq_if ((h_airCell x1.toNatClampNeg) = n0) (some x1) (dq_let (x1 + (1 : Int32)) (fun (x5 : Int32) => (f_X2_airOn_b2 n0 h_airs h_airCell m2) x5))))
noncomputable def f_X2_airOn (h_airs : Int32) (h_airCell : (Nat → Int32)) (n0 : Int32) : Option Int32 := f_X2_airOn_b2 n0 h_airs h_airCell 4096 (0 : Int32)
def wA_X2_airOn : List Cond := .code yX2_airOn cX2_airOn 3 (some .int) :: wsL_law
-- DraughtsTake$House.airOn(I)I
set_option maxHeartbeats 4000000 in
set_option maxRecDepth 100000 in
theorem m_X2_airOn (l : Launch) (D : va_G) (y : Nat → ClassId) (a : (Nat → Nat)) (h_shutBits : Int64) (h_airs : Int32) (h_crownedBits : Int32) (h_sitters : Int32) (h_onBits : Int32) (h_turn : Int32) (h_taken : Int32) (h_warmth : (Nat → UInt32)) (h_kind : (Nat → Int32)) (h_figure : (Nat → Int32)) (h_airCell : (Nat → Int32)) (h_way : (Nat → Int32)) (h_seat : (Nat → Int32)) (h_shawls : (Nat → Int32)) (h_count : Int32) (h_steps : (Nat → Int32)) (h_numbers : (Nat → Int32)) (n0 : Int32) (z0 : Int32) (hf : f_X2_airOn h_airs h_airCell n0 = some z0) : Ct l D y yX2_airOn wA_X2_airOn 0 0 [.ref (a 0), .int n0] (w_X2 y a h_shutBits h_airs h_crownedBits h_sitters h_onBits h_turn h_taken h_warmth h_kind h_figure h_airCell h_way h_seat h_shawls h_count h_steps h_numbers) (w_X2 y a h_shutBits h_airs h_crownedBits h_sitters h_onBits h_turn h_taken h_warmth h_kind h_figure h_airCell h_way h_seat h_shawls h_count h_steps h_numbers) (some (.int z0)) := by
  refine ct_head (cc := cX2_airOn) (n := 3) (ret := (some .int)) (by decide) rfl (Nat.le_of_ble_eq_true rfl) ?_
  intro p e s m below meth c A ls hx hb hr hml hown hlocks hts hA hAe hP hK hD hl
  have hS : va_S A s.heap s.heap [] := va_S.rf
  have hl : lv_has ls 3 [(0, .ref (a 0)), (1, .int n0)] := hl
  have hown : s.vm.findClass RX2 = some m.cls := hown
  have hts : ∀ w ∈ wsL_law, w.before [.ref (a 0), .int n0].toArray s = true := fun w h => hts w (List.mem_cons_of_mem _ h)
  unfold f_X2_airOn at hf
  refine lv_iconst (v := 0) hx hb dX2_airOn_0 (by decide) ?_
  refine lv_istore_n (lv' := [(2, .int (0 : Int32)), (0, .ref (a 0)), (1, .int n0)]) hx hb dX2_airOn_1 rfl hl (by decide) rfl (fun ls hl => ?_)
  have J2 : ∀ (m2 : Nat) (x1 : Int32), f_X2_airOn_b2 n0 h_airs h_airCell m2 x1 = some z0 → ∀ (H : Heap) (locs : List Loc), va_P D vwCl (w_X2 y a h_shutBits h_airs h_crownedBits h_sitters h_onBits h_turn h_taken h_warmth h_kind h_figure h_airCell h_way h_seat h_shawls h_count h_steps h_numbers) H → va_D A (w_X2 y a h_shutBits h_airs h_crownedBits h_sitters h_onBits h_turn h_taken h_warmth h_kind h_figure h_airCell h_way h_seat h_shawls h_count h_steps h_numbers) → va_S A s.heap H locs → ∀ ls : Array Slot, lv_has ls 3 [(0, .ref (a 0)), (1, .int n0), (2, .int x1)] → W p l e ({ frames := 0, cells := 0, slots := 0, locals := 0 } : Room) s m [.ref (a 0), .int n0].toArray below meth c H locs 0 0 (MQ below (dQ D y (some (.int z0)) s.heap.size (w_X2 y a h_shutBits h_airs h_crownedBits h_sitters h_onBits h_turn h_taken h_warmth h_kind h_figure h_airCell h_way h_seat h_shawls h_count h_steps h_numbers) (w_X2 y a h_shutBits h_airs h_crownedBits h_sitters h_onBits h_turn h_taken h_warmth h_kind h_figure h_airCell h_way h_seat h_shawls h_count h_steps h_numbers)) [.ref (a 0), .int n0].toArray s 0 0 A) (F0 m 2 ls []) := by
    intro m2
    induction m2 with
    | zero => intro x1 hf; exact absurd hf (by unfold f_X2_airOn_b2; exact fun h => by cases h)
    | succ m2 I2 =>
      intro x1 hf H locs hP hD hS ls hl
      unfold f_X2_airOn_b2 at hf
      refine lv_iload_n hx hb dX2_airOn_2 rfl (lv_at hl 2 rfl) ?_
      refine lv_aload_n hx hb dX2_airOn_3 rfl (lv_at hl 0 rfl) ?_
      refine va_get (D := D) (ci := 1) (v := .int h_airs) (C := RX2) (T := TX2) (N := 15) hx hb hts iwX2 hown hK hP 0 rfl rfl 2 (by decide) (hts _ wl_185) (fun _ h9 => h9) rfl dX2_airOn_4 ?_
      refine lv_icmp_ge (tgt := 28) hx hb dX2_airOn_7 (by decide) (fun c2 => ?_) (fun c2 => ?_)
      · have hf := dq_t hf c2
        clear c2
        refine lv_bipush (v := -9) hx hb dX2_airOn_28 (by decide) ?_
        obtain rfl := dq_r1 hf
        exact ct_iret hx hb hr hlocks hAe hP hK hD hS dX2_airOn_30
      · have hf := dq_f hf c2
        clear c2
        refine lv_aload_n hx hb dX2_airOn_10 rfl (lv_at hl 0 rfl) ?_
        refine va_get (D := D) (ci := 1) (v := .ref (a 4)) (C := RX2) (T := TX2) (N := 15) hx hb hts iwX2 hown hK hP 0 rfl rfl 5 (by decide) (hts _ wl_43) (fun _ h9 => h9) rfl dX2_airOn_11 ?_
        refine lv_iload_n hx hb dX2_airOn_14 rfl (lv_at hl 2 rfl) ?_
        obtain ⟨h3, hf⟩ := dq_g hf
        refine va_iald (cA := y 1) (n := 5) (f := h_airCell) hx hb hK hP 4 1 rfl rfl h3 dX2_airOn_15 ?_
        refine lv_iload_n hx hb dX2_airOn_16 rfl (lv_at hl 1 rfl) ?_
        refine lv_icmp_ne (tgt := 22) hx hb dX2_airOn_17 (by decide) (fun c4 => ?_) (fun c4 => ?_)
        · have hf := dq_f hf c4
          clear c4
          obtain ⟨x5, ex5⟩ : ∃ z : Int32, z = (x1 + (1 : Int32)) := ⟨_, rfl⟩
          have hf := dq_l hf x5 ex5
          refine lv_iinc (v := x5) (lv' := [(2, .int x5), (0, .ref (a 0)), (1, .int n0)]) hx hb dX2_airOn_22 hl (k := 2) rfl (by rw [ex5]; rfl) (by decide) rfl (fun ls hl => ?_)
          clear ex5
          refine lv_goto (tgt := 2) hx hb dX2_airOn_25 (by decide) ?_
          exact I2 _ hf _ _ hP hD hS _ (lv_sub hl [1, 2, 0] rfl)
        · have hf := dq_t hf c4
          clear c4
          refine lv_iload_n hx hb dX2_airOn_20 rfl (lv_at hl 2 rfl) ?_
          obtain rfl := dq_r1 hf
          exact ct_iret hx hb hr hlocks hAe hP hK hD hS dX2_airOn_21
  exact J2 4096 _ hf _ _ hP hD hS _ (lv_sub hl [1, 2, 0] rfl)
noncomputable def f_X2_sitterOn_b2 (n0 : Int32) (h_sitters : Int32) (h_onBits : Int32) (h_seat : (Nat → Int32))  : Nat → Int32 → Option Int32
  | 0, _ => none
  | m2 + 1, x1 => dq_if (h_sitters ≤ x1) (some (-9 : Int32)) (dq_gd (vp_in x1 6) (dq_if ((h_seat x1.toNatClampNeg) = n0) (dq_if (((h_onBits >>> (x1 &&& 31)) &&& (1 : Int32)) = (1 : Int32)) (some x1) (dq_let (x1 + (1 : Int32)) (fun (x7 : Int32) => (f_X2_sitterOn_b2 n0 h_sitters h_onBits h_seat m2) x7))) (dq_let (x1 + (1 : Int32)) (fun (x5 : Int32) => (f_X2_sitterOn_b2 n0 h_sitters h_onBits h_seat m2) x5))))
noncomputable def f_X2_sitterOn (h_sitters : Int32) (h_onBits : Int32) (h_seat : (Nat → Int32)) (n0 : Int32) : Option Int32 := f_X2_sitterOn_b2 n0 h_sitters h_onBits h_seat 4096 (0 : Int32)
def wA_X2_sitterOn : List Cond := .code yX2_sitterOn cX2_sitterOn 3 (some .int) :: wsL_law
-- DraughtsTake$House.sitterOn(I)I
set_option maxHeartbeats 4000000 in
set_option maxRecDepth 100000 in
theorem m_X2_sitterOn (l : Launch) (D : va_G) (y : Nat → ClassId) (a : (Nat → Nat)) (h_shutBits : Int64) (h_airs : Int32) (h_crownedBits : Int32) (h_sitters : Int32) (h_onBits : Int32) (h_turn : Int32) (h_taken : Int32) (h_warmth : (Nat → UInt32)) (h_kind : (Nat → Int32)) (h_figure : (Nat → Int32)) (h_airCell : (Nat → Int32)) (h_way : (Nat → Int32)) (h_seat : (Nat → Int32)) (h_shawls : (Nat → Int32)) (h_count : Int32) (h_steps : (Nat → Int32)) (h_numbers : (Nat → Int32)) (n0 : Int32) (z0 : Int32) (hf : f_X2_sitterOn h_sitters h_onBits h_seat n0 = some z0) : Ct l D y yX2_sitterOn wA_X2_sitterOn 0 0 [.ref (a 0), .int n0] (w_X2 y a h_shutBits h_airs h_crownedBits h_sitters h_onBits h_turn h_taken h_warmth h_kind h_figure h_airCell h_way h_seat h_shawls h_count h_steps h_numbers) (w_X2 y a h_shutBits h_airs h_crownedBits h_sitters h_onBits h_turn h_taken h_warmth h_kind h_figure h_airCell h_way h_seat h_shawls h_count h_steps h_numbers) (some (.int z0)) := by
  refine ct_head (cc := cX2_sitterOn) (n := 3) (ret := (some .int)) (by decide) rfl (Nat.le_of_ble_eq_true rfl) ?_
  intro p e s m below meth c A ls hx hb hr hml hown hlocks hts hA hAe hP hK hD hl
  have hS : va_S A s.heap s.heap [] := va_S.rf
  have hl : lv_has ls 3 [(0, .ref (a 0)), (1, .int n0)] := hl
  have hown : s.vm.findClass RX2 = some m.cls := hown
  have hts : ∀ w ∈ wsL_law, w.before [.ref (a 0), .int n0].toArray s = true := fun w h => hts w (List.mem_cons_of_mem _ h)
  unfold f_X2_sitterOn at hf
  refine lv_iconst (v := 0) hx hb dX2_sitterOn_0 (by decide) ?_
  refine lv_istore_n (lv' := [(2, .int (0 : Int32)), (0, .ref (a 0)), (1, .int n0)]) hx hb dX2_sitterOn_1 rfl hl (by decide) rfl (fun ls hl => ?_)
  have J2 : ∀ (m2 : Nat) (x1 : Int32), f_X2_sitterOn_b2 n0 h_sitters h_onBits h_seat m2 x1 = some z0 → ∀ (H : Heap) (locs : List Loc), va_P D vwCl (w_X2 y a h_shutBits h_airs h_crownedBits h_sitters h_onBits h_turn h_taken h_warmth h_kind h_figure h_airCell h_way h_seat h_shawls h_count h_steps h_numbers) H → va_D A (w_X2 y a h_shutBits h_airs h_crownedBits h_sitters h_onBits h_turn h_taken h_warmth h_kind h_figure h_airCell h_way h_seat h_shawls h_count h_steps h_numbers) → va_S A s.heap H locs → ∀ ls : Array Slot, lv_has ls 3 [(0, .ref (a 0)), (1, .int n0), (2, .int x1)] → W p l e ({ frames := 0, cells := 0, slots := 0, locals := 0 } : Room) s m [.ref (a 0), .int n0].toArray below meth c H locs 0 0 (MQ below (dQ D y (some (.int z0)) s.heap.size (w_X2 y a h_shutBits h_airs h_crownedBits h_sitters h_onBits h_turn h_taken h_warmth h_kind h_figure h_airCell h_way h_seat h_shawls h_count h_steps h_numbers) (w_X2 y a h_shutBits h_airs h_crownedBits h_sitters h_onBits h_turn h_taken h_warmth h_kind h_figure h_airCell h_way h_seat h_shawls h_count h_steps h_numbers)) [.ref (a 0), .int n0].toArray s 0 0 A) (F0 m 2 ls []) := by
    intro m2
    induction m2 with
    | zero => intro x1 hf; exact absurd hf (by unfold f_X2_sitterOn_b2; exact fun h => by cases h)
    | succ m2 I2 =>
      intro x1 hf H locs hP hD hS ls hl
      unfold f_X2_sitterOn_b2 at hf
      refine lv_iload_n hx hb dX2_sitterOn_2 rfl (lv_at hl 2 rfl) ?_
      refine lv_aload_n hx hb dX2_sitterOn_3 rfl (lv_at hl 0 rfl) ?_
      refine va_get (D := D) (ci := 1) (v := .int h_sitters) (C := RX2) (T := TX2) (N := 15) hx hb hts iwX2 hown hK hP 0 rfl rfl 8 (by decide) (hts _ wl_187) (fun _ h9 => h9) rfl dX2_sitterOn_4 ?_
      refine lv_icmp_ge (tgt := 40) hx hb dX2_sitterOn_7 (by decide) (fun c2 => ?_) (fun c2 => ?_)
      · have hf := dq_t hf c2
        clear c2
        refine lv_bipush (v := -9) hx hb dX2_sitterOn_40 (by decide) ?_
        obtain rfl := dq_r1 hf
        exact ct_iret hx hb hr hlocks hAe hP hK hD hS dX2_sitterOn_42
      · have hf := dq_f hf c2
        clear c2
        refine lv_aload_n hx hb dX2_sitterOn_10 rfl (lv_at hl 0 rfl) ?_
        refine va_get (D := D) (ci := 1) (v := .ref (a 6)) (C := RX2) (T := TX2) (N := 15) hx hb hts iwX2 hown hK hP 0 rfl rfl 9 (by decide) (hts _ wl_45) (fun _ h9 => h9) rfl dX2_sitterOn_11 ?_
        refine lv_iload_n hx hb dX2_sitterOn_14 rfl (lv_at hl 2 rfl) ?_
        obtain ⟨h3, hf⟩ := dq_g hf
        refine va_iald (cA := y 1) (n := 6) (f := h_seat) hx hb hK hP 6 1 rfl rfl h3 dX2_sitterOn_15 ?_
        refine lv_iload_n hx hb dX2_sitterOn_16 rfl (lv_at hl 1 rfl) ?_
        refine lv_icmp_ne (tgt := 34) hx hb dX2_sitterOn_17 (by decide) (fun c4 => ?_) (fun c4 => ?_)
        · have hf := dq_f hf c4
          clear c4
          obtain ⟨x5, ex5⟩ : ∃ z : Int32, z = (x1 + (1 : Int32)) := ⟨_, rfl⟩
          have hf := dq_l hf x5 ex5
          refine lv_iinc (v := x5) (lv' := [(2, .int x5), (0, .ref (a 0)), (1, .int n0)]) hx hb dX2_sitterOn_34 hl (k := 2) rfl (by rw [ex5]; rfl) (by decide) rfl (fun ls hl => ?_)
          clear ex5
          refine lv_goto (tgt := 2) hx hb dX2_sitterOn_37 (by decide) ?_
          exact I2 _ hf _ _ hP hD hS _ (lv_sub hl [1, 2, 0] rfl)
        · have hf := dq_t hf c4
          clear c4
          refine lv_aload_n hx hb dX2_sitterOn_20 rfl (lv_at hl 0 rfl) ?_
          refine va_get (D := D) (ci := 1) (v := .int h_onBits) (C := RX2) (T := TX2) (N := 15) hx hb hts iwX2 hown hK hP 0 rfl rfl 11 (by decide) (hts _ wl_188) (fun _ h9 => h9) rfl dX2_sitterOn_21 ?_
          refine lv_iload_n hx hb dX2_sitterOn_24 rfl (lv_at hl 2 rfl) ?_
          refine lv_ishr hx hb dX2_sitterOn_25 ?_
          refine lv_iconst (v := 1) hx hb dX2_sitterOn_26 (by decide) ?_
          refine lv_iand hx hb dX2_sitterOn_27 ?_
          refine lv_iconst (v := 1) hx hb dX2_sitterOn_28 (by decide) ?_
          refine lv_icmp_ne (tgt := 34) hx hb dX2_sitterOn_29 (by decide) (fun c6 => ?_) (fun c6 => ?_)
          · have hf := dq_f hf c6
            clear c6
            obtain ⟨x7, ex7⟩ : ∃ z : Int32, z = (x1 + (1 : Int32)) := ⟨_, rfl⟩
            have hf := dq_l hf x7 ex7
            refine lv_iinc (v := x7) (lv' := [(2, .int x7), (0, .ref (a 0)), (1, .int n0)]) hx hb dX2_sitterOn_34 hl (k := 2) rfl (by rw [ex7]; rfl) (by decide) rfl (fun ls hl => ?_)
            clear ex7
            refine lv_goto (tgt := 2) hx hb dX2_sitterOn_37 (by decide) ?_
            exact I2 _ hf _ _ hP hD hS _ (lv_sub hl [1, 2, 0] rfl)
          · have hf := dq_t hf c6
            clear c6
            refine lv_iload_n hx hb dX2_sitterOn_32 rfl (lv_at hl 2 rfl) ?_
            obtain rfl := dq_r1 hf
            exact ct_iret hx hb hr hlocks hAe hP hK hD hS dX2_sitterOn_33
  exact J2 4096 _ hf _ _ hP hD hS _ (lv_sub hl [1, 2, 0] rfl)
noncomputable def f_X2_isTaken (h_airs : Int32) (h_sitters : Int32) (h_onBits : Int32) (h_airCell : (Nat → Int32)) (h_seat : (Nat → Int32)) (n0 : Int32) : Option Int32 := dq_bd (f_X2_airOn h_airs h_airCell n0) (fun (x1 : Int32) => dq_if (x1 = (-9 : Int32)) (dq_bd (f_X2_sitterOn h_sitters h_onBits h_seat n0) (fun (x4 : Int32) => dq_if (x4 = (-9 : Int32)) (some (0 : Int32)) (some (1 : Int32)))) (some (1 : Int32)))
def wA_X2_isTaken : List Cond := .code yX2_isTaken cX2_isTaken 2 (some .boolean) :: wsL_law
-- DraughtsTake$House.isTaken(I)Z
set_option maxHeartbeats 4000000 in
set_option maxRecDepth 100000 in
theorem m_X2_isTaken (l : Launch) (D : va_G) (y : Nat → ClassId) (a : (Nat → Nat)) (h_shutBits : Int64) (h_airs : Int32) (h_crownedBits : Int32) (h_sitters : Int32) (h_onBits : Int32) (h_turn : Int32) (h_taken : Int32) (h_warmth : (Nat → UInt32)) (h_kind : (Nat → Int32)) (h_figure : (Nat → Int32)) (h_airCell : (Nat → Int32)) (h_way : (Nat → Int32)) (h_seat : (Nat → Int32)) (h_shawls : (Nat → Int32)) (h_count : Int32) (h_steps : (Nat → Int32)) (h_numbers : (Nat → Int32)) (n0 : Int32) (z0 : Int32) (hf : f_X2_isTaken h_airs h_sitters h_onBits h_airCell h_seat n0 = some z0) : Ct l D y yX2_isTaken wA_X2_isTaken 1 22 [.ref (a 0), .int n0] (w_X2 y a h_shutBits h_airs h_crownedBits h_sitters h_onBits h_turn h_taken h_warmth h_kind h_figure h_airCell h_way h_seat h_shawls h_count h_steps h_numbers) (w_X2 y a h_shutBits h_airs h_crownedBits h_sitters h_onBits h_turn h_taken h_warmth h_kind h_figure h_airCell h_way h_seat h_shawls h_count h_steps h_numbers) (some (.int z0)) := by
  refine ct_head (cc := cX2_isTaken) (n := 2) (ret := (some .boolean)) (by decide) rfl (Nat.le_of_ble_eq_true rfl) ?_
  intro p e s m below meth c A ls hx hb hr hml hown hlocks hts hA hAe hP hK hD hl
  have hS : va_S A s.heap s.heap [] := va_S.rf
  have hl : lv_has ls 2 [(0, .ref (a 0)), (1, .int n0)] := hl
  have hown : s.vm.findClass RX2 = some m.cls := hown
  have hts : ∀ w ∈ wsL_law, w.before [.ref (a 0), .int n0].toArray s = true := fun w h => hts w (List.mem_cons_of_mem _ h)
  unfold f_X2_isTaken at hf
  refine lv_aload_n hx hb dX2_isTaken_0 rfl (lv_at hl 0 rfl) ?_
  refine lv_iload_n hx hb dX2_isTaken_1 rfl (lv_at hl 1 rfl) ?_
  obtain ⟨x1, hy2, hf⟩ := dq_b hf
  refine ct_callV0 (ci := 1) (q0 := 0) (own := RX2) (As := [.int n0]) (rest := []) (ws' := (w_X2 y a h_shutBits h_airs h_crownedBits h_sitters h_onBits h_turn h_taken h_warmth h_kind h_figure h_airCell h_way h_seat h_shawls h_count h_steps h_numbers)) ⟨hx, hb, hml, hown, hts⟩ (m_X2_airOn l D y a h_shutBits h_airs h_crownedBits h_sitters h_onBits h_turn h_taken h_warmth h_kind h_figure h_airCell h_way h_seat h_shawls h_count h_steps h_numbers n0 x1 hy2) (cwV 1 hts (gA_V wl_223 wl_224 wl_225 wl_14 wl_226) rfl rfl rfl (by decide +kernel) ⟨Nat.le_of_ble_eq_true rfl, Nat.le_of_ble_eq_true rfl⟩) rfl rfl rfl hl.1 rfl (Nat.le_of_ble_eq_true rfl) dX2_isTaken_2 ⟨Nat.zero_le _, Nat.zero_le _⟩ hK hP hD hS hA (fun H locs hP hD hS => ?_)
  refine lv_bipush (v := -9) hx hb dX2_isTaken_5 (by decide) ?_
  refine lv_icmp_ne (tgt := 20) hx hb dX2_isTaken_7 (by decide) (fun c3 => ?_) (fun c3 => ?_)
  · have hf := dq_f hf c3
    clear c3
    refine lv_iconst (v := 1) hx hb dX2_isTaken_20 (by decide) ?_
    refine lv_goto (tgt := 25) hx hb dX2_isTaken_21 (by decide) ?_
    obtain rfl := dq_r1 hf
    exact ct_zret hx hb hr rfl hlocks hAe hP hK hD hS dX2_isTaken_25
  · have hf := dq_t hf c3
    clear c3
    refine lv_aload_n hx hb dX2_isTaken_10 rfl (lv_at hl 0 rfl) ?_
    refine lv_iload_n hx hb dX2_isTaken_11 rfl (lv_at hl 1 rfl) ?_
    obtain ⟨x4, hy5, hf⟩ := dq_b hf
    refine ct_callV0 (ci := 1) (q0 := 0) (own := RX2) (As := [.int n0]) (rest := []) (ws' := (w_X2 y a h_shutBits h_airs h_crownedBits h_sitters h_onBits h_turn h_taken h_warmth h_kind h_figure h_airCell h_way h_seat h_shawls h_count h_steps h_numbers)) ⟨hx, hb, hml, hown, hts⟩ (m_X2_sitterOn l D y a h_shutBits h_airs h_crownedBits h_sitters h_onBits h_turn h_taken h_warmth h_kind h_figure h_airCell h_way h_seat h_shawls h_count h_steps h_numbers n0 x4 hy5) (cwV 1 hts (gA_V wl_227 wl_228 wl_229 wl_14 wl_230) rfl rfl rfl (by decide +kernel) ⟨Nat.le_of_ble_eq_true rfl, Nat.le_of_ble_eq_true rfl⟩) rfl rfl rfl hl.1 rfl (Nat.le_of_ble_eq_true rfl) dX2_isTaken_12 ⟨Nat.zero_le _, Nat.zero_le _⟩ hK hP hD hS hA (fun H locs hP hD hS => ?_)
    refine lv_bipush (v := -9) hx hb dX2_isTaken_15 (by decide) ?_
    refine lv_icmp_eq (tgt := 24) hx hb dX2_isTaken_17 (by decide) (fun c6 => ?_) (fun c6 => ?_)
    · have hf := dq_t hf c6
      clear c6
      refine lv_iconst (v := 0) hx hb dX2_isTaken_24 (by decide) ?_
      obtain rfl := dq_r1 hf
      exact ct_zret hx hb hr rfl hlocks hAe hP hK hD hS dX2_isTaken_25
    · have hf := dq_f hf c6
      clear c6
      refine lv_iconst (v := 1) hx hb dX2_isTaken_20 (by decide) ?_
      refine lv_goto (tgt := 25) hx hb dX2_isTaken_21 (by decide) ?_
      obtain rfl := dq_r1 hf
      exact ct_zret hx hb hr rfl hlocks hAe hP hK hD hS dX2_isTaken_25
noncomputable def f_X2_isFree (h_shutBits : Int64) (h_airs : Int32) (h_sitters : Int32) (h_onBits : Int32) (h_airCell : (Nat → Int32)) (h_seat : (Nat → Int32)) (n0 : Int32) : Option Int32 := dq_bd (f_X2_isShut h_shutBits n0) (fun (x1 : Int32) => dq_if (x1 = 0) (dq_bd (f_X2_airOn h_airs h_airCell n0) (fun (x4 : Int32) => dq_if (x4 = (-9 : Int32)) (dq_bd (f_X2_sitterOn h_sitters h_onBits h_seat n0) (fun (x7 : Int32) => dq_if (x7 = (-9 : Int32)) (some (1 : Int32)) (some (0 : Int32)))) (some (0 : Int32)))) (some (0 : Int32)))
def wA_X2_isFree : List Cond := .code yX2_isFree cX2_isFree 2 (some .boolean) :: wsL_law
-- DraughtsTake$House.isFree(I)Z
set_option maxHeartbeats 4000000 in
set_option maxRecDepth 100000 in
theorem m_X2_isFree (l : Launch) (D : va_G) (y : Nat → ClassId) (a : (Nat → Nat)) (h_shutBits : Int64) (h_airs : Int32) (h_crownedBits : Int32) (h_sitters : Int32) (h_onBits : Int32) (h_turn : Int32) (h_taken : Int32) (h_warmth : (Nat → UInt32)) (h_kind : (Nat → Int32)) (h_figure : (Nat → Int32)) (h_airCell : (Nat → Int32)) (h_way : (Nat → Int32)) (h_seat : (Nat → Int32)) (h_shawls : (Nat → Int32)) (h_count : Int32) (h_steps : (Nat → Int32)) (h_numbers : (Nat → Int32)) (n0 : Int32) (z0 : Int32) (hf : f_X2_isFree h_shutBits h_airs h_sitters h_onBits h_airCell h_seat n0 = some z0) : Ct l D y yX2_isFree wA_X2_isFree 1 22 [.ref (a 0), .int n0] (w_X2 y a h_shutBits h_airs h_crownedBits h_sitters h_onBits h_turn h_taken h_warmth h_kind h_figure h_airCell h_way h_seat h_shawls h_count h_steps h_numbers) (w_X2 y a h_shutBits h_airs h_crownedBits h_sitters h_onBits h_turn h_taken h_warmth h_kind h_figure h_airCell h_way h_seat h_shawls h_count h_steps h_numbers) (some (.int z0)) := by
  refine ct_head (cc := cX2_isFree) (n := 2) (ret := (some .boolean)) (by decide) rfl (Nat.le_of_ble_eq_true rfl) ?_
  intro p e s m below meth c A ls hx hb hr hml hown hlocks hts hA hAe hP hK hD hl
  have hS : va_S A s.heap s.heap [] := va_S.rf
  have hl : lv_has ls 2 [(0, .ref (a 0)), (1, .int n0)] := hl
  have hown : s.vm.findClass RX2 = some m.cls := hown
  have hts : ∀ w ∈ wsL_law, w.before [.ref (a 0), .int n0].toArray s = true := fun w h => hts w (List.mem_cons_of_mem _ h)
  unfold f_X2_isFree at hf
  refine lv_aload_n hx hb dX2_isFree_0 rfl (lv_at hl 0 rfl) ?_
  refine lv_iload_n hx hb dX2_isFree_1 rfl (lv_at hl 1 rfl) ?_
  obtain ⟨x1, hy2, hf⟩ := dq_b hf
  refine ct_callV0 (ci := 1) (q0 := 0) (own := RX2) (As := [.int n0]) (rest := []) (ws' := (w_X2 y a h_shutBits h_airs h_crownedBits h_sitters h_onBits h_turn h_taken h_warmth h_kind h_figure h_airCell h_way h_seat h_shawls h_count h_steps h_numbers)) ⟨hx, hb, hml, hown, hts⟩ (m_X2_isShut l D y a h_shutBits h_airs h_crownedBits h_sitters h_onBits h_turn h_taken h_warmth h_kind h_figure h_airCell h_way h_seat h_shawls h_count h_steps h_numbers n0 x1 hy2) (cwV 1 hts (gA_V wl_219 wl_220 wl_221 wl_14 wl_222) rfl rfl rfl (by decide +kernel) ⟨Nat.le_of_ble_eq_true rfl, Nat.le_of_ble_eq_true rfl⟩) rfl rfl rfl hl.1 rfl (Nat.le_of_ble_eq_true rfl) dX2_isFree_2 ⟨Nat.zero_le _, Nat.zero_le _⟩ hK hP hD hS hA (fun H locs hP hD hS => ?_)
  refine lv_if_ne (tgt := 32) hx hb dX2_isFree_5 (by decide) (fun c3 => ?_) (fun c3 => ?_)
  · have hf := dq_f hf c3
    clear c3
    refine lv_iconst (v := 0) hx hb dX2_isFree_32 (by decide) ?_
    obtain rfl := dq_r1 hf
    exact ct_zret hx hb hr rfl hlocks hAe hP hK hD hS dX2_isFree_33
  · have hf := dq_t hf c3
    clear c3
    refine lv_aload_n hx hb dX2_isFree_8 rfl (lv_at hl 0 rfl) ?_
    refine lv_iload_n hx hb dX2_isFree_9 rfl (lv_at hl 1 rfl) ?_
    obtain ⟨x4, hy5, hf⟩ := dq_b hf
    refine ct_callV0 (ci := 1) (q0 := 0) (own := RX2) (As := [.int n0]) (rest := []) (ws' := (w_X2 y a h_shutBits h_airs h_crownedBits h_sitters h_onBits h_turn h_taken h_warmth h_kind h_figure h_airCell h_way h_seat h_shawls h_count h_steps h_numbers)) ⟨hx, hb, hml, hown, hts⟩ (m_X2_airOn l D y a h_shutBits h_airs h_crownedBits h_sitters h_onBits h_turn h_taken h_warmth h_kind h_figure h_airCell h_way h_seat h_shawls h_count h_steps h_numbers n0 x4 hy5) (cwV 1 hts (gA_V wl_223 wl_224 wl_225 wl_14 wl_226) rfl rfl rfl (by decide +kernel) ⟨Nat.le_of_ble_eq_true rfl, Nat.le_of_ble_eq_true rfl⟩) rfl rfl rfl hl.1 rfl (Nat.le_of_ble_eq_true rfl) dX2_isFree_10 ⟨Nat.zero_le _, Nat.zero_le _⟩ hK hP hD hS hA (fun H locs hP hD hS => ?_)
    refine lv_bipush (v := -9) hx hb dX2_isFree_13 (by decide) ?_
    refine lv_icmp_ne (tgt := 32) hx hb dX2_isFree_15 (by decide) (fun c6 => ?_) (fun c6 => ?_)
    · have hf := dq_f hf c6
      clear c6
      refine lv_iconst (v := 0) hx hb dX2_isFree_32 (by decide) ?_
      obtain rfl := dq_r1 hf
      exact ct_zret hx hb hr rfl hlocks hAe hP hK hD hS dX2_isFree_33
    · have hf := dq_t hf c6
      clear c6
      refine lv_aload_n hx hb dX2_isFree_18 rfl (lv_at hl 0 rfl) ?_
      refine lv_iload_n hx hb dX2_isFree_19 rfl (lv_at hl 1 rfl) ?_
      obtain ⟨x7, hy8, hf⟩ := dq_b hf
      refine ct_callV0 (ci := 1) (q0 := 0) (own := RX2) (As := [.int n0]) (rest := []) (ws' := (w_X2 y a h_shutBits h_airs h_crownedBits h_sitters h_onBits h_turn h_taken h_warmth h_kind h_figure h_airCell h_way h_seat h_shawls h_count h_steps h_numbers)) ⟨hx, hb, hml, hown, hts⟩ (m_X2_sitterOn l D y a h_shutBits h_airs h_crownedBits h_sitters h_onBits h_turn h_taken h_warmth h_kind h_figure h_airCell h_way h_seat h_shawls h_count h_steps h_numbers n0 x7 hy8) (cwV 1 hts (gA_V wl_227 wl_228 wl_229 wl_14 wl_230) rfl rfl rfl (by decide +kernel) ⟨Nat.le_of_ble_eq_true rfl, Nat.le_of_ble_eq_true rfl⟩) rfl rfl rfl hl.1 rfl (Nat.le_of_ble_eq_true rfl) dX2_isFree_20 ⟨Nat.zero_le _, Nat.zero_le _⟩ hK hP hD hS hA (fun H locs hP hD hS => ?_)
      refine lv_bipush (v := -9) hx hb dX2_isFree_23 (by decide) ?_
      refine lv_icmp_ne (tgt := 32) hx hb dX2_isFree_25 (by decide) (fun c9 => ?_) (fun c9 => ?_)
      · have hf := dq_f hf c9
        clear c9
        refine lv_iconst (v := 0) hx hb dX2_isFree_32 (by decide) ?_
        obtain rfl := dq_r1 hf
        exact ct_zret hx hb hr rfl hlocks hAe hP hK hD hS dX2_isFree_33
      · have hf := dq_t hf c9
        clear c9
        refine lv_iconst (v := 1) hx hb dX2_isFree_28 (by decide) ?_
        refine lv_goto (tgt := 33) hx hb dX2_isFree_29 (by decide) ?_
        obtain rfl := dq_r1 hf
        exact ct_zret hx hb hr rfl hlocks hAe hP hK hD hS dX2_isFree_33
noncomputable def f_X2_addAir (h_shutBits : Int64) (h_airs : Int32) (h_sitters : Int32) (h_onBits : Int32) (h_kind : (Nat → Int32)) (h_figure : (Nat → Int32)) (h_airCell : (Nat → Int32)) (h_way : (Nat → Int32)) (h_seat : (Nat → Int32)) (n0 : Int32) (n1 : Int32) (n2 : Int32) (n3 : Int32) : Option (Int32 × Int32 × (Nat → Int32) × (Nat → Int32) × (Nat → Int32) × (Nat → Int32)) := dq_if ((5 : Int32) ≤ h_airs) (some ((0 : Int32), h_airs, h_kind, h_figure, h_airCell, h_way)) (dq_bd (f_X2_isFree h_shutBits h_airs h_sitters h_onBits h_airCell h_seat n2) (fun (x2 : Int32) => dq_if (x2 = 0) (some ((0 : Int32), h_airs, h_kind, h_figure, h_airCell, h_way)) (dq_gd (vp_in h_airs 5) (dq_let (upd h_kind h_airs.toNatClampNeg n0) (fun (h_kind_6 : (Nat → Int32)) => dq_gd (vp_in h_airs 5) (dq_let (upd h_figure h_airs.toNatClampNeg n1) (fun (h_figure_8 : (Nat → Int32)) => dq_gd (vp_in h_airs 5) (dq_let (upd h_airCell h_airs.toNatClampNeg n2) (fun (h_airCell_10 : (Nat → Int32)) => dq_gd (vp_in h_airs 5) (dq_let (upd h_way h_airs.toNatClampNeg n3) (fun (h_way_12 : (Nat → Int32)) => dq_let (h_airs + (1 : Int32)) (fun (x13 : Int32) => some ((1 : Int32), x13, h_kind_6, h_figure_8, h_airCell_10, h_way_12)))))))))))))
def wA_X2_addAir : List Cond := .code yX2_addAir cX2_addAir 5 (some .boolean) :: wsL_law
-- DraughtsTake$House.addAir(IIII)Z
set_option maxHeartbeats 4000000 in
set_option maxRecDepth 100000 in
theorem m_X2_addAir (l : Launch) (D : va_G) (y : Nat → ClassId) (a : (Nat → Nat)) (h_shutBits : Int64) (h_airs : Int32) (h_crownedBits : Int32) (h_sitters : Int32) (h_onBits : Int32) (h_turn : Int32) (h_taken : Int32) (h_warmth : (Nat → UInt32)) (h_kind : (Nat → Int32)) (h_figure : (Nat → Int32)) (h_airCell : (Nat → Int32)) (h_way : (Nat → Int32)) (h_seat : (Nat → Int32)) (h_shawls : (Nat → Int32)) (h_count : Int32) (h_steps : (Nat → Int32)) (h_numbers : (Nat → Int32)) (n0 : Int32) (n1 : Int32) (n2 : Int32) (n3 : Int32) (z0 : Int32) (z1 : Int32) (z2 : (Nat → Int32)) (z3 : (Nat → Int32)) (z4 : (Nat → Int32)) (z5 : (Nat → Int32)) (hf : f_X2_addAir h_shutBits h_airs h_sitters h_onBits h_kind h_figure h_airCell h_way h_seat n0 n1 n2 n3 = some (z0, z1, z2, z3, z4, z5)) : Ct l D y yX2_addAir wA_X2_addAir 2 43 [.ref (a 0), .int n0, .int n1, .int n2, .int n3] (w_X2 y a h_shutBits h_airs h_crownedBits h_sitters h_onBits h_turn h_taken h_warmth h_kind h_figure h_airCell h_way h_seat h_shawls h_count h_steps h_numbers) (w_X2 y a h_shutBits z1 h_crownedBits h_sitters h_onBits h_turn h_taken h_warmth z2 z3 z4 z5 h_seat h_shawls h_count h_steps h_numbers) (some (.int z0)) := by
  refine ct_head (cc := cX2_addAir) (n := 5) (ret := (some .boolean)) (by decide) rfl (Nat.le_of_ble_eq_true rfl) ?_
  intro p e s m below meth c A ls hx hb hr hml hown hlocks hts hA hAe hP hK hD hl
  have hS : va_S A s.heap s.heap [] := va_S.rf
  have hl : lv_has ls 5 [(0, .ref (a 0)), (1, .int n0), (2, .int n1), (3, .int n2), (4, .int n3)] := hl
  have hown : s.vm.findClass RX2 = some m.cls := hown
  have hts : ∀ w ∈ wsL_law, w.before [.ref (a 0), .int n0, .int n1, .int n2, .int n3].toArray s = true := fun w h => hts w (List.mem_cons_of_mem _ h)
  unfold f_X2_addAir at hf
  refine lv_aload_n hx hb dX2_addAir_0 rfl (lv_at hl 0 rfl) ?_
  refine va_get (D := D) (ci := 1) (v := .int h_airs) (C := RX2) (T := TX2) (N := 15) hx hb hts iwX2 hown hK hP 0 rfl rfl 2 (by decide) (hts _ wl_185) (fun _ h9 => h9) rfl dX2_addAir_1 ?_
  refine lv_iconst (v := 5) hx hb dX2_addAir_4 (by decide) ?_
  refine lv_icmp_ge (tgt := 16) hx hb dX2_addAir_5 (by decide) (fun c1 => ?_) (fun c1 => ?_)
  · have hf := dq_t hf c1
    clear c1
    refine lv_iconst (v := 0) hx hb dX2_addAir_16 (by decide) ?_
    obtain ⟨rfl, rfl, rfl, rfl, rfl, rfl⟩ := dq_r6 hf
    exact ct_zret hx hb hr rfl hlocks hAe hP hK hD hS dX2_addAir_17
  · have hf := dq_f hf c1
    clear c1
    refine lv_aload_n hx hb dX2_addAir_8 rfl (lv_at hl 0 rfl) ?_
    refine lv_iload_n hx hb dX2_addAir_9 rfl (lv_at hl 3 rfl) ?_
    obtain ⟨x2, hy3, hf⟩ := dq_b hf
    refine ct_callV0 (ci := 1) (q0 := 0) (own := RX2) (As := [.int n2]) (rest := []) (ws' := (w_X2 y a h_shutBits h_airs h_crownedBits h_sitters h_onBits h_turn h_taken h_warmth h_kind h_figure h_airCell h_way h_seat h_shawls h_count h_steps h_numbers)) ⟨hx, hb, hml, hown, hts⟩ (m_X2_isFree l D y a h_shutBits h_airs h_crownedBits h_sitters h_onBits h_turn h_taken h_warmth h_kind h_figure h_airCell h_way h_seat h_shawls h_count h_steps h_numbers n2 x2 hy3) (cwV 1 hts (gA_V wl_215 wl_216 wl_217 wl_14 wl_218) rfl rfl rfl (by decide +kernel) ⟨Nat.le_of_ble_eq_true rfl, Nat.le_of_ble_eq_true rfl⟩) rfl rfl rfl hl.1 rfl (Nat.le_of_ble_eq_true rfl) dX2_addAir_10 ⟨Nat.zero_le _, Nat.zero_le _⟩ hK hP hD hS hA (fun H locs hP hD hS => ?_)
    refine lv_if_ne (tgt := 18) hx hb dX2_addAir_13 (by decide) (fun c4 => ?_) (fun c4 => ?_)
    · have hf := dq_f hf c4
      clear c4
      refine lv_aload_n hx hb dX2_addAir_18 rfl (lv_at hl 0 rfl) ?_
      refine va_get (D := D) (ci := 1) (v := .ref (a 2)) (C := RX2) (T := TX2) (N := 15) hx hb hts iwX2 hown hK hP 0 rfl rfl 3 (by decide) (hts _ wl_41) (fun _ h9 => h9) rfl dX2_addAir_19 ?_
      refine lv_aload_n hx hb dX2_addAir_22 rfl (lv_at hl 0 rfl) ?_
      refine va_get (D := D) (ci := 1) (v := .int h_airs) (C := RX2) (T := TX2) (N := 15) hx hb hts iwX2 hown hK hP 0 rfl rfl 2 (by decide) (hts _ wl_185) (fun _ h9 => h9) rfl dX2_addAir_23 ?_
      refine lv_iload_n hx hb dX2_addAir_26 rfl (lv_at hl 1 rfl) ?_
      obtain ⟨h5, hf⟩ := dq_g hf
      refine dq_iast (cA := y 1) (n := 5) (f := h_kind) hx hb hK hP hD hS 2 1 rfl rfl h5 dX2_addAir_27 (fun h_kind_6 eh_kind_6 H locs hP hD hS => ?_)
      have hf := dq_l hf h_kind_6 eh_kind_6
      clear eh_kind_6
      have hP : va_P D vwCl (w_X2 y a h_shutBits h_airs h_crownedBits h_sitters h_onBits h_turn h_taken h_warmth h_kind_6 h_figure h_airCell h_way h_seat h_shawls h_count h_steps h_numbers) H := hP
      have hD : va_D A (w_X2 y a h_shutBits h_airs h_crownedBits h_sitters h_onBits h_turn h_taken h_warmth h_kind_6 h_figure h_airCell h_way h_seat h_shawls h_count h_steps h_numbers) := hD
      refine lv_aload_n hx hb dX2_addAir_28 rfl (lv_at hl 0 rfl) ?_
      refine va_get (D := D) (ci := 1) (v := .ref (a 3)) (C := RX2) (T := TX2) (N := 15) hx hb hts iwX2 hown hK hP 0 rfl rfl 4 (by decide) (hts _ wl_42) (fun _ h9 => h9) rfl dX2_addAir_29 ?_
      refine lv_aload_n hx hb dX2_addAir_32 rfl (lv_at hl 0 rfl) ?_
      refine va_get (D := D) (ci := 1) (v := .int h_airs) (C := RX2) (T := TX2) (N := 15) hx hb hts iwX2 hown hK hP 0 rfl rfl 2 (by decide) (hts _ wl_185) (fun _ h9 => h9) rfl dX2_addAir_33 ?_
      refine lv_iload_n hx hb dX2_addAir_36 rfl (lv_at hl 2 rfl) ?_
      obtain ⟨h7, hf⟩ := dq_g hf
      refine dq_iast (cA := y 1) (n := 5) (f := h_figure) hx hb hK hP hD hS 3 1 rfl rfl h7 dX2_addAir_37 (fun h_figure_8 eh_figure_8 H locs hP hD hS => ?_)
      have hf := dq_l hf h_figure_8 eh_figure_8
      clear eh_figure_8
      have hP : va_P D vwCl (w_X2 y a h_shutBits h_airs h_crownedBits h_sitters h_onBits h_turn h_taken h_warmth h_kind_6 h_figure_8 h_airCell h_way h_seat h_shawls h_count h_steps h_numbers) H := hP
      have hD : va_D A (w_X2 y a h_shutBits h_airs h_crownedBits h_sitters h_onBits h_turn h_taken h_warmth h_kind_6 h_figure_8 h_airCell h_way h_seat h_shawls h_count h_steps h_numbers) := hD
      refine lv_aload_n hx hb dX2_addAir_38 rfl (lv_at hl 0 rfl) ?_
      refine va_get (D := D) (ci := 1) (v := .ref (a 4)) (C := RX2) (T := TX2) (N := 15) hx hb hts iwX2 hown hK hP 0 rfl rfl 5 (by decide) (hts _ wl_43) (fun _ h9 => h9) rfl dX2_addAir_39 ?_
      refine lv_aload_n hx hb dX2_addAir_42 rfl (lv_at hl 0 rfl) ?_
      refine va_get (D := D) (ci := 1) (v := .int h_airs) (C := RX2) (T := TX2) (N := 15) hx hb hts iwX2 hown hK hP 0 rfl rfl 2 (by decide) (hts _ wl_185) (fun _ h9 => h9) rfl dX2_addAir_43 ?_
      refine lv_iload_n hx hb dX2_addAir_46 rfl (lv_at hl 3 rfl) ?_
      obtain ⟨h9, hf⟩ := dq_g hf
      refine dq_iast (cA := y 1) (n := 5) (f := h_airCell) hx hb hK hP hD hS 4 1 rfl rfl h9 dX2_addAir_47 (fun h_airCell_10 eh_airCell_10 H locs hP hD hS => ?_)
      have hf := dq_l hf h_airCell_10 eh_airCell_10
      clear eh_airCell_10
      have hP : va_P D vwCl (w_X2 y a h_shutBits h_airs h_crownedBits h_sitters h_onBits h_turn h_taken h_warmth h_kind_6 h_figure_8 h_airCell_10 h_way h_seat h_shawls h_count h_steps h_numbers) H := hP
      have hD : va_D A (w_X2 y a h_shutBits h_airs h_crownedBits h_sitters h_onBits h_turn h_taken h_warmth h_kind_6 h_figure_8 h_airCell_10 h_way h_seat h_shawls h_count h_steps h_numbers) := hD
      refine lv_aload_n hx hb dX2_addAir_48 rfl (lv_at hl 0 rfl) ?_
      refine va_get (D := D) (ci := 1) (v := .ref (a 5)) (C := RX2) (T := TX2) (N := 15) hx hb hts iwX2 hown hK hP 0 rfl rfl 6 (by decide) (hts _ wl_44) (fun _ h9 => h9) rfl dX2_addAir_49 ?_
      refine lv_aload_n hx hb dX2_addAir_52 rfl (lv_at hl 0 rfl) ?_
      refine va_get (D := D) (ci := 1) (v := .int h_airs) (C := RX2) (T := TX2) (N := 15) hx hb hts iwX2 hown hK hP 0 rfl rfl 2 (by decide) (hts _ wl_185) (fun _ h9 => h9) rfl dX2_addAir_53 ?_
      refine lv_iload hx hb dX2_addAir_56 (lv_at hl 4 rfl) ?_
      obtain ⟨h11, hf⟩ := dq_g hf
      refine dq_iast (cA := y 1) (n := 5) (f := h_way) hx hb hK hP hD hS 5 1 rfl rfl h11 dX2_addAir_58 (fun h_way_12 eh_way_12 H locs hP hD hS => ?_)
      have hf := dq_l hf h_way_12 eh_way_12
      clear eh_way_12
      have hP : va_P D vwCl (w_X2 y a h_shutBits h_airs h_crownedBits h_sitters h_onBits h_turn h_taken h_warmth h_kind_6 h_figure_8 h_airCell_10 h_way_12 h_seat h_shawls h_count h_steps h_numbers) H := hP
      have hD : va_D A (w_X2 y a h_shutBits h_airs h_crownedBits h_sitters h_onBits h_turn h_taken h_warmth h_kind_6 h_figure_8 h_airCell_10 h_way_12 h_seat h_shawls h_count h_steps h_numbers) := hD
      refine lv_aload_n hx hb dX2_addAir_59 rfl (lv_at hl 0 rfl) ?_
      refine lv_dup hx hb dX2_addAir_60 rfl ?_
      refine va_get (D := D) (ci := 1) (v := .int h_airs) (C := RX2) (T := TX2) (N := 15) hx hb hts iwX2 hown hK hP 0 rfl rfl 2 (by decide) (hts _ wl_185) (fun _ h9 => h9) rfl dX2_addAir_61 ?_
      refine lv_iconst (v := 1) hx hb dX2_addAir_64 (by decide) ?_
      refine lv_iadd hx hb dX2_addAir_65 ?_
      refine lv_topi (fun x13 ex13 => ?_)
      have hf := dq_l hf x13 ex13
      clear ex13
      refine va_put (D := D) (ci := 1) (v := .int x13) (ty := .int) (C := RX2) (T := TX2) (N := 15) hx hb hts iwX2 tyX2 tyX2_ok nmX2 hown hK hP hD hS 0 rfl rfl 2 (by decide) (hts _ wl_185) (fun _ h9 => h9) rfl (tyX2_ok 2 (by decide)) rfl rfl (Nat.le_of_ble_eq_true rfl) dX2_addAir_66 (fun H locs hP hD hS => ?_)
      have hP : va_P D vwCl (w_X2 y a h_shutBits x13 h_crownedBits h_sitters h_onBits h_turn h_taken h_warmth h_kind_6 h_figure_8 h_airCell_10 h_way_12 h_seat h_shawls h_count h_steps h_numbers) H := hP
      have hD : va_D A (w_X2 y a h_shutBits x13 h_crownedBits h_sitters h_onBits h_turn h_taken h_warmth h_kind_6 h_figure_8 h_airCell_10 h_way_12 h_seat h_shawls h_count h_steps h_numbers) := hD
      refine lv_iconst (v := 1) hx hb dX2_addAir_69 (by decide) ?_
      obtain ⟨rfl, rfl, rfl, rfl, rfl, rfl⟩ := dq_r6 hf
      exact ct_zret hx hb hr rfl hlocks hAe hP hK hD hS dX2_addAir_70
    · have hf := dq_t hf c4
      clear c4
      refine lv_iconst (v := 0) hx hb dX2_addAir_16 (by decide) ?_
      obtain ⟨rfl, rfl, rfl, rfl, rfl, rfl⟩ := dq_r6 hf
      exact ct_zret hx hb hr rfl hlocks hAe hP hK hD hS dX2_addAir_17
noncomputable def f_X2_addSitter (h_shutBits : Int64) (h_airs : Int32) (h_sitters : Int32) (h_onBits : Int32) (h_airCell : (Nat → Int32)) (h_seat : (Nat → Int32)) (h_shawls : (Nat → Int32)) (n0 : Int32) (n1 : Int32) : Option (Int32 × Int32 × Int32 × (Nat → Int32) × (Nat → Int32)) := dq_if ((6 : Int32) ≤ h_sitters) (some ((0 : Int32), h_sitters, h_onBits, h_seat, h_shawls)) (dq_bd (f_X2_isFree h_shutBits h_airs h_sitters h_onBits h_airCell h_seat n0) (fun (x2 : Int32) => dq_if (x2 = 0) (some ((0 : Int32), h_sitters, h_onBits, h_seat, h_shawls)) (dq_gd (vp_in h_sitters 6) (dq_let (upd h_seat h_sitters.toNatClampNeg n0) (fun (h_seat_6 : (Nat → Int32)) => dq_gd (vp_in h_sitters 6) (dq_let (upd h_shawls h_sitters.toNatClampNeg n1) (fun (h_shawls_8 : (Nat → Int32)) => dq_let (h_onBits ||| ((1 : Int32) <<< (h_sitters &&& 31))) (fun (x9 : Int32) => dq_let (h_sitters + (1 : Int32)) (fun (x10 : Int32) => some ((1 : Int32), x10, x9, h_seat_6, h_shawls_8))))))))))
def wA_X2_addSitter : List Cond := .code yX2_addSitter cX2_addSitter 3 (some .boolean) :: wsL_law
-- DraughtsTake$House.addSitter(II)Z
set_option maxHeartbeats 4000000 in
set_option maxRecDepth 100000 in
theorem m_X2_addSitter (l : Launch) (D : va_G) (y : Nat → ClassId) (a : (Nat → Nat)) (h_shutBits : Int64) (h_airs : Int32) (h_crownedBits : Int32) (h_sitters : Int32) (h_onBits : Int32) (h_turn : Int32) (h_taken : Int32) (h_warmth : (Nat → UInt32)) (h_kind : (Nat → Int32)) (h_figure : (Nat → Int32)) (h_airCell : (Nat → Int32)) (h_way : (Nat → Int32)) (h_seat : (Nat → Int32)) (h_shawls : (Nat → Int32)) (h_count : Int32) (h_steps : (Nat → Int32)) (h_numbers : (Nat → Int32)) (n0 : Int32) (n1 : Int32) (z0 : Int32) (z1 : Int32) (z2 : Int32) (z3 : (Nat → Int32)) (z4 : (Nat → Int32)) (hf : f_X2_addSitter h_shutBits h_airs h_sitters h_onBits h_airCell h_seat h_shawls n0 n1 = some (z0, z1, z2, z3, z4)) : Ct l D y yX2_addSitter wA_X2_addSitter 2 43 [.ref (a 0), .int n0, .int n1] (w_X2 y a h_shutBits h_airs h_crownedBits h_sitters h_onBits h_turn h_taken h_warmth h_kind h_figure h_airCell h_way h_seat h_shawls h_count h_steps h_numbers) (w_X2 y a h_shutBits h_airs h_crownedBits z1 z2 h_turn h_taken h_warmth h_kind h_figure h_airCell h_way z3 z4 h_count h_steps h_numbers) (some (.int z0)) := by
  refine ct_head (cc := cX2_addSitter) (n := 3) (ret := (some .boolean)) (by decide) rfl (Nat.le_of_ble_eq_true rfl) ?_
  intro p e s m below meth c A ls hx hb hr hml hown hlocks hts hA hAe hP hK hD hl
  have hS : va_S A s.heap s.heap [] := va_S.rf
  have hl : lv_has ls 3 [(0, .ref (a 0)), (1, .int n0), (2, .int n1)] := hl
  have hown : s.vm.findClass RX2 = some m.cls := hown
  have hts : ∀ w ∈ wsL_law, w.before [.ref (a 0), .int n0, .int n1].toArray s = true := fun w h => hts w (List.mem_cons_of_mem _ h)
  unfold f_X2_addSitter at hf
  refine lv_aload_n hx hb dX2_addSitter_0 rfl (lv_at hl 0 rfl) ?_
  refine va_get (D := D) (ci := 1) (v := .int h_sitters) (C := RX2) (T := TX2) (N := 15) hx hb hts iwX2 hown hK hP 0 rfl rfl 8 (by decide) (hts _ wl_187) (fun _ h9 => h9) rfl dX2_addSitter_1 ?_
  refine lv_bipush (v := 6) hx hb dX2_addSitter_4 (by decide) ?_
  refine lv_icmp_ge (tgt := 17) hx hb dX2_addSitter_6 (by decide) (fun c1 => ?_) (fun c1 => ?_)
  · have hf := dq_t hf c1
    clear c1
    refine lv_iconst (v := 0) hx hb dX2_addSitter_17 (by decide) ?_
    obtain ⟨rfl, rfl, rfl, rfl, rfl⟩ := dq_r5 hf
    exact ct_zret hx hb hr rfl hlocks hAe hP hK hD hS dX2_addSitter_18
  · have hf := dq_f hf c1
    clear c1
    refine lv_aload_n hx hb dX2_addSitter_9 rfl (lv_at hl 0 rfl) ?_
    refine lv_iload_n hx hb dX2_addSitter_10 rfl (lv_at hl 1 rfl) ?_
    obtain ⟨x2, hy3, hf⟩ := dq_b hf
    refine ct_callV0 (ci := 1) (q0 := 0) (own := RX2) (As := [.int n0]) (rest := []) (ws' := (w_X2 y a h_shutBits h_airs h_crownedBits h_sitters h_onBits h_turn h_taken h_warmth h_kind h_figure h_airCell h_way h_seat h_shawls h_count h_steps h_numbers)) ⟨hx, hb, hml, hown, hts⟩ (m_X2_isFree l D y a h_shutBits h_airs h_crownedBits h_sitters h_onBits h_turn h_taken h_warmth h_kind h_figure h_airCell h_way h_seat h_shawls h_count h_steps h_numbers n0 x2 hy3) (cwV 1 hts (gA_V wl_215 wl_216 wl_217 wl_14 wl_218) rfl rfl rfl (by decide +kernel) ⟨Nat.le_of_ble_eq_true rfl, Nat.le_of_ble_eq_true rfl⟩) rfl rfl rfl hl.1 rfl (Nat.le_of_ble_eq_true rfl) dX2_addSitter_11 ⟨Nat.zero_le _, Nat.zero_le _⟩ hK hP hD hS hA (fun H locs hP hD hS => ?_)
    refine lv_if_ne (tgt := 19) hx hb dX2_addSitter_14 (by decide) (fun c4 => ?_) (fun c4 => ?_)
    · have hf := dq_f hf c4
      clear c4
      refine lv_aload_n hx hb dX2_addSitter_19 rfl (lv_at hl 0 rfl) ?_
      refine va_get (D := D) (ci := 1) (v := .ref (a 6)) (C := RX2) (T := TX2) (N := 15) hx hb hts iwX2 hown hK hP 0 rfl rfl 9 (by decide) (hts _ wl_45) (fun _ h9 => h9) rfl dX2_addSitter_20 ?_
      refine lv_aload_n hx hb dX2_addSitter_23 rfl (lv_at hl 0 rfl) ?_
      refine va_get (D := D) (ci := 1) (v := .int h_sitters) (C := RX2) (T := TX2) (N := 15) hx hb hts iwX2 hown hK hP 0 rfl rfl 8 (by decide) (hts _ wl_187) (fun _ h9 => h9) rfl dX2_addSitter_24 ?_
      refine lv_iload_n hx hb dX2_addSitter_27 rfl (lv_at hl 1 rfl) ?_
      obtain ⟨h5, hf⟩ := dq_g hf
      refine dq_iast (cA := y 1) (n := 6) (f := h_seat) hx hb hK hP hD hS 6 1 rfl rfl h5 dX2_addSitter_28 (fun h_seat_6 eh_seat_6 H locs hP hD hS => ?_)
      have hf := dq_l hf h_seat_6 eh_seat_6
      clear eh_seat_6
      have hP : va_P D vwCl (w_X2 y a h_shutBits h_airs h_crownedBits h_sitters h_onBits h_turn h_taken h_warmth h_kind h_figure h_airCell h_way h_seat_6 h_shawls h_count h_steps h_numbers) H := hP
      have hD : va_D A (w_X2 y a h_shutBits h_airs h_crownedBits h_sitters h_onBits h_turn h_taken h_warmth h_kind h_figure h_airCell h_way h_seat_6 h_shawls h_count h_steps h_numbers) := hD
      refine lv_aload_n hx hb dX2_addSitter_29 rfl (lv_at hl 0 rfl) ?_
      refine va_get (D := D) (ci := 1) (v := .ref (a 7)) (C := RX2) (T := TX2) (N := 15) hx hb hts iwX2 hown hK hP 0 rfl rfl 10 (by decide) (hts _ wl_46) (fun _ h9 => h9) rfl dX2_addSitter_30 ?_
      refine lv_aload_n hx hb dX2_addSitter_33 rfl (lv_at hl 0 rfl) ?_
      refine va_get (D := D) (ci := 1) (v := .int h_sitters) (C := RX2) (T := TX2) (N := 15) hx hb hts iwX2 hown hK hP 0 rfl rfl 8 (by decide) (hts _ wl_187) (fun _ h9 => h9) rfl dX2_addSitter_34 ?_
      refine lv_iload_n hx hb dX2_addSitter_37 rfl (lv_at hl 2 rfl) ?_
      obtain ⟨h7, hf⟩ := dq_g hf
      refine dq_iast (cA := y 1) (n := 6) (f := h_shawls) hx hb hK hP hD hS 7 1 rfl rfl h7 dX2_addSitter_38 (fun h_shawls_8 eh_shawls_8 H locs hP hD hS => ?_)
      have hf := dq_l hf h_shawls_8 eh_shawls_8
      clear eh_shawls_8
      have hP : va_P D vwCl (w_X2 y a h_shutBits h_airs h_crownedBits h_sitters h_onBits h_turn h_taken h_warmth h_kind h_figure h_airCell h_way h_seat_6 h_shawls_8 h_count h_steps h_numbers) H := hP
      have hD : va_D A (w_X2 y a h_shutBits h_airs h_crownedBits h_sitters h_onBits h_turn h_taken h_warmth h_kind h_figure h_airCell h_way h_seat_6 h_shawls_8 h_count h_steps h_numbers) := hD
      refine lv_aload_n hx hb dX2_addSitter_39 rfl (lv_at hl 0 rfl) ?_
      refine lv_dup hx hb dX2_addSitter_40 rfl ?_
      refine va_get (D := D) (ci := 1) (v := .int h_onBits) (C := RX2) (T := TX2) (N := 15) hx hb hts iwX2 hown hK hP 0 rfl rfl 11 (by decide) (hts _ wl_188) (fun _ h9 => h9) rfl dX2_addSitter_41 ?_
      refine lv_iconst (v := 1) hx hb dX2_addSitter_44 (by decide) ?_
      refine lv_aload_n hx hb dX2_addSitter_45 rfl (lv_at hl 0 rfl) ?_
      refine va_get (D := D) (ci := 1) (v := .int h_sitters) (C := RX2) (T := TX2) (N := 15) hx hb hts iwX2 hown hK hP 0 rfl rfl 8 (by decide) (hts _ wl_187) (fun _ h9 => h9) rfl dX2_addSitter_46 ?_
      refine lv_ishl hx hb dX2_addSitter_49 ?_
      refine lv_ior hx hb dX2_addSitter_50 ?_
      refine lv_topi (fun x9 ex9 => ?_)
      have hf := dq_l hf x9 ex9
      clear ex9
      refine va_put (D := D) (ci := 1) (v := .int x9) (ty := .int) (C := RX2) (T := TX2) (N := 15) hx hb hts iwX2 tyX2 tyX2_ok nmX2 hown hK hP hD hS 0 rfl rfl 11 (by decide) (hts _ wl_188) (fun _ h9 => h9) rfl (tyX2_ok 11 (by decide)) rfl rfl (Nat.le_of_ble_eq_true rfl) dX2_addSitter_51 (fun H locs hP hD hS => ?_)
      have hP : va_P D vwCl (w_X2 y a h_shutBits h_airs h_crownedBits h_sitters x9 h_turn h_taken h_warmth h_kind h_figure h_airCell h_way h_seat_6 h_shawls_8 h_count h_steps h_numbers) H := hP
      have hD : va_D A (w_X2 y a h_shutBits h_airs h_crownedBits h_sitters x9 h_turn h_taken h_warmth h_kind h_figure h_airCell h_way h_seat_6 h_shawls_8 h_count h_steps h_numbers) := hD
      refine lv_aload_n hx hb dX2_addSitter_54 rfl (lv_at hl 0 rfl) ?_
      refine lv_dup hx hb dX2_addSitter_55 rfl ?_
      refine va_get (D := D) (ci := 1) (v := .int h_sitters) (C := RX2) (T := TX2) (N := 15) hx hb hts iwX2 hown hK hP 0 rfl rfl 8 (by decide) (hts _ wl_187) (fun _ h9 => h9) rfl dX2_addSitter_56 ?_
      refine lv_iconst (v := 1) hx hb dX2_addSitter_59 (by decide) ?_
      refine lv_iadd hx hb dX2_addSitter_60 ?_
      refine lv_topi (fun x10 ex10 => ?_)
      have hf := dq_l hf x10 ex10
      clear ex10
      refine va_put (D := D) (ci := 1) (v := .int x10) (ty := .int) (C := RX2) (T := TX2) (N := 15) hx hb hts iwX2 tyX2 tyX2_ok nmX2 hown hK hP hD hS 0 rfl rfl 8 (by decide) (hts _ wl_187) (fun _ h9 => h9) rfl (tyX2_ok 8 (by decide)) rfl rfl (Nat.le_of_ble_eq_true rfl) dX2_addSitter_61 (fun H locs hP hD hS => ?_)
      have hP : va_P D vwCl (w_X2 y a h_shutBits h_airs h_crownedBits x10 x9 h_turn h_taken h_warmth h_kind h_figure h_airCell h_way h_seat_6 h_shawls_8 h_count h_steps h_numbers) H := hP
      have hD : va_D A (w_X2 y a h_shutBits h_airs h_crownedBits x10 x9 h_turn h_taken h_warmth h_kind h_figure h_airCell h_way h_seat_6 h_shawls_8 h_count h_steps h_numbers) := hD
      refine lv_iconst (v := 1) hx hb dX2_addSitter_64 (by decide) ?_
      obtain ⟨rfl, rfl, rfl, rfl, rfl⟩ := dq_r5 hf
      exact ct_zret hx hb hr rfl hlocks hAe hP hK hD hS dX2_addSitter_65
    · have hf := dq_t hf c4
      clear c4
      refine lv_iconst (v := 0) hx hb dX2_addSitter_17 (by decide) ?_
      obtain ⟨rfl, rfl, rfl, rfl, rfl⟩ := dq_r5 hf
      exact ct_zret hx hb hr rfl hlocks hAe hP hK hD hS dX2_addSitter_18
noncomputable def f_X2_begin_b22 (h_count : Int32) (h_steps : (Nat → Int32)) (h_numbers : (Nat → Int32)) (x1 : Int32)  : Nat → Int32 → (Nat → UInt32) → Option (Int32 × (Nat → UInt32))
  | 0, _, _ => none
  | m22 + 1, x3, h_warmth_4 => dq_if ((36 : Int32) ≤ x3) (some (x1, h_warmth_4)) (dq_gd (vp_in x3 36) (dq_bd (f_X1_warmed h_count h_steps h_numbers (h_warmth_4 x3.toNatClampNeg)) (fun (x7 : UInt32) => dq_gd (vp_in x3 36) (dq_let (vf_upd h_warmth_4 x3.toNatClampNeg x7) (fun (h_warmth_10 : (Nat → UInt32)) => dq_let (x3 + (1 : Int32)) (fun (x11 : Int32) => (f_X2_begin_b22 h_count h_steps h_numbers x1 m22) x11 h_warmth_10))))))
noncomputable def f_X2_begin (h_turn : Int32) (h_warmth : (Nat → UInt32)) (h_count : Int32) (h_steps : (Nat → Int32)) (h_numbers : (Nat → Int32)) : Option (Int32 × (Nat → UInt32)) := dq_let (h_turn + (1 : Int32)) (fun (x1 : Int32) => dq_if (h_count ≤ 0) (some (x1, h_warmth)) (f_X2_begin_b22 h_count h_steps h_numbers x1 4096 (0 : Int32) h_warmth))
def wA_X2_begin : List Cond := .code yX2_begin cX2_begin 2 none :: wsL_law
-- DraughtsTake$House.begin()V
set_option maxHeartbeats 4000000 in
set_option maxRecDepth 100000 in
theorem m_X2_begin (l : Launch) (D : va_G) (y : Nat → ClassId) (a : (Nat → Nat)) (h_shutBits : Int64) (h_airs : Int32) (h_crownedBits : Int32) (h_sitters : Int32) (h_onBits : Int32) (h_turn : Int32) (h_taken : Int32) (h_warmth : (Nat → UInt32)) (h_kind : (Nat → Int32)) (h_figure : (Nat → Int32)) (h_airCell : (Nat → Int32)) (h_way : (Nat → Int32)) (h_seat : (Nat → Int32)) (h_shawls : (Nat → Int32)) (h_count : Int32) (h_steps : (Nat → Int32)) (h_numbers : (Nat → Int32)) (z0 : Int32) (z1 : (Nat → UInt32)) (hf : f_X2_begin h_turn h_warmth h_count h_steps h_numbers = some (z0, z1)) : Ct l D y yX2_begin wA_X2_begin 2 45 [.ref (a 0)] (w_X2 y a h_shutBits h_airs h_crownedBits h_sitters h_onBits h_turn h_taken h_warmth h_kind h_figure h_airCell h_way h_seat h_shawls h_count h_steps h_numbers) (w_X2 y a h_shutBits h_airs h_crownedBits h_sitters h_onBits z0 h_taken z1 h_kind h_figure h_airCell h_way h_seat h_shawls h_count h_steps h_numbers) none := by
  refine ct_head (cc := cX2_begin) (n := 2) (ret := none) (by decide) rfl (Nat.le_of_ble_eq_true rfl) ?_
  intro p e s m below meth c A ls hx hb hr hml hown hlocks hts hA hAe hP hK hD hl
  have hS : va_S A s.heap s.heap [] := va_S.rf
  have hl : lv_has ls 2 [(0, .ref (a 0))] := hl
  have hown : s.vm.findClass RX2 = some m.cls := hown
  have hts : ∀ w ∈ wsL_law, w.before [.ref (a 0)].toArray s = true := fun w h => hts w (List.mem_cons_of_mem _ h)
  unfold f_X2_begin at hf
  refine lv_aload_n hx hb dX2_begin_0 rfl (lv_at hl 0 rfl) ?_
  refine lv_dup hx hb dX2_begin_1 rfl ?_
  refine va_get (D := D) (ci := 1) (v := .int h_turn) (C := RX2) (T := TX2) (N := 15) hx hb hts iwX2 hown hK hP 0 rfl rfl 12 (by decide) (hts _ wl_189) (fun _ h9 => h9) rfl dX2_begin_2 ?_
  refine lv_iconst (v := 1) hx hb dX2_begin_5 (by decide) ?_
  refine lv_iadd hx hb dX2_begin_6 ?_
  refine lv_topi (fun x1 ex1 => ?_)
  have hf := dq_l hf x1 ex1
  clear ex1
  refine va_put (D := D) (ci := 1) (v := .int x1) (ty := .int) (C := RX2) (T := TX2) (N := 15) hx hb hts iwX2 tyX2 tyX2_ok nmX2 hown hK hP hD hS 0 rfl rfl 12 (by decide) (hts _ wl_189) (fun _ h9 => h9) rfl (tyX2_ok 12 (by decide)) rfl rfl (Nat.le_of_ble_eq_true rfl) dX2_begin_7 (fun H locs hP hD hS => ?_)
  have hP : va_P D vwCl (w_X2 y a h_shutBits h_airs h_crownedBits h_sitters h_onBits x1 h_taken h_warmth h_kind h_figure h_airCell h_way h_seat h_shawls h_count h_steps h_numbers) H := hP
  have hD : va_D A (w_X2 y a h_shutBits h_airs h_crownedBits h_sitters h_onBits x1 h_taken h_warmth h_kind h_figure h_airCell h_way h_seat h_shawls h_count h_steps h_numbers) := hD
  refine lv_aload_n hx hb dX2_begin_10 rfl (lv_at hl 0 rfl) ?_
  refine va_get (D := D) (ci := 1) (v := .ref (a 8)) (C := RX2) (T := TX2) (N := 15) hx hb hts iwX2 hown hK hP 0 rfl rfl 14 (by decide) (hts _ wl_50) (fun _ h9 => h9) rfl dX2_begin_11 ?_
  refine va_get (D := D) (ci := 0) (v := .int h_count) (C := RX1) (T := TX1) (N := 3) hx hb hts iwX1 hown hK hP 8 rfl rfl 2 (by decide) (hts _ wl_267) (fun _ h9 => h9) rfl dX2_begin_14 ?_
  refine lv_if_le (tgt := 53) hx hb dX2_begin_17 (by decide) (fun c2 => ?_) (fun c2 => ?_)
  · have hf := dq_t hf c2
    clear c2
    obtain ⟨rfl, rfl⟩ := dq_r2 hf
    exact ct_vret hx hb hr hlocks hAe hP hK hD hS dX2_begin_53
  · have hf := dq_f hf c2
    clear c2
    refine lv_iconst (v := 0) hx hb dX2_begin_20 (by decide) ?_
    refine lv_istore_n (lv' := [(1, .int (0 : Int32)), (0, .ref (a 0))]) hx hb dX2_begin_21 rfl hl (by decide) rfl (fun ls hl => ?_)
    have J22 : ∀ (m22 : Nat) (x3 : Int32) (h_warmth_4 : (Nat → UInt32)), f_X2_begin_b22 h_count h_steps h_numbers x1 m22 x3 h_warmth_4 = some (z0, z1) → ∀ (H : Heap) (locs : List Loc), va_P D vwCl (w_X2 y a h_shutBits h_airs h_crownedBits h_sitters h_onBits x1 h_taken h_warmth_4 h_kind h_figure h_airCell h_way h_seat h_shawls h_count h_steps h_numbers) H → va_D A (w_X2 y a h_shutBits h_airs h_crownedBits h_sitters h_onBits x1 h_taken h_warmth_4 h_kind h_figure h_airCell h_way h_seat h_shawls h_count h_steps h_numbers) → va_S A s.heap H locs → ∀ ls : Array Slot, lv_has ls 2 [(0, .ref (a 0)), (1, .int x3)] → W p l e ({ frames := 2, cells := 0, slots := 0, locals := 45 } : Room) s m [.ref (a 0)].toArray below meth c H locs 0 0 (MQ below (dQ D y none s.heap.size (w_X2 y a h_shutBits h_airs h_crownedBits h_sitters h_onBits h_turn h_taken h_warmth h_kind h_figure h_airCell h_way h_seat h_shawls h_count h_steps h_numbers) (w_X2 y a h_shutBits h_airs h_crownedBits h_sitters h_onBits z0 h_taken z1 h_kind h_figure h_airCell h_way h_seat h_shawls h_count h_steps h_numbers)) [.ref (a 0)].toArray s 0 0 A) (F0 m 22 ls []) := by
      intro m22
      induction m22 with
      | zero => intro x3 h_warmth_4 hf; exact absurd hf (by unfold f_X2_begin_b22; exact fun h => by cases h)
      | succ m22 I22 =>
        intro x3 h_warmth_4 hf H locs hP hD hS ls hl
        unfold f_X2_begin_b22 at hf
        refine lv_iload_n hx hb dX2_begin_22 rfl (lv_at hl 1 rfl) ?_
        refine lv_bipush (v := 36) hx hb dX2_begin_23 (by decide) ?_
        refine lv_icmp_ge (tgt := 53) hx hb dX2_begin_25 (by decide) (fun c5 => ?_) (fun c5 => ?_)
        · have hf := dq_t hf c5
          clear c5
          obtain ⟨rfl, rfl⟩ := dq_r2 hf
          exact ct_vret hx hb hr hlocks hAe hP hK hD hS dX2_begin_53
        · have hf := dq_f hf c5
          clear c5
          refine lv_aload_n hx hb dX2_begin_28 rfl (lv_at hl 0 rfl) ?_
          refine va_get (D := D) (ci := 1) (v := .ref (a 1)) (C := RX2) (T := TX2) (N := 15) hx hb hts iwX2 hown hK hP 0 rfl rfl 0 (by decide) (hts _ wl_40) (fun _ h9 => h9) rfl dX2_begin_29 ?_
          refine lv_iload_n hx hb dX2_begin_32 rfl (lv_at hl 1 rfl) ?_
          refine lv_aload_n hx hb dX2_begin_33 rfl (lv_at hl 0 rfl) ?_
          refine va_get (D := D) (ci := 1) (v := .ref (a 8)) (C := RX2) (T := TX2) (N := 15) hx hb hts iwX2 hown hK hP 0 rfl rfl 14 (by decide) (hts _ wl_50) (fun _ h9 => h9) rfl dX2_begin_34 ?_
          refine lv_aload_n hx hb dX2_begin_37 rfl (lv_at hl 0 rfl) ?_
          refine va_get (D := D) (ci := 1) (v := .ref (a 1)) (C := RX2) (T := TX2) (N := 15) hx hb hts iwX2 hown hK hP 0 rfl rfl 0 (by decide) (hts _ wl_40) (fun _ h9 => h9) rfl dX2_begin_38 ?_
          refine lv_iload_n hx hb dX2_begin_41 rfl (lv_at hl 1 rfl) ?_
          obtain ⟨h6, hf⟩ := dq_g hf
          refine va_fald (cA := y 0) (n := 36) (f := h_warmth_4) hx hb hK hP 1 0 rfl rfl h6 dX2_begin_42 ?_
          obtain ⟨x7, hy8, hf⟩ := dq_b hf
          refine ct_callV (ci := 0) (q0 := 0) (own := RX2) (As := [.float (h_warmth_4 x3.toNatClampNeg)]) (rest := [.int x3, .ref (a 1)]) (ws' := (w_X2 y a h_shutBits h_airs h_crownedBits h_sitters h_onBits x1 h_taken h_warmth_4 h_kind h_figure h_airCell h_way h_seat h_shawls h_count h_steps h_numbers)) ⟨hx, hb, hml, hown, hts⟩ (m_X1_warmed l D y (fun k => a (8 + k)) h_count h_steps h_numbers (h_warmth_4 x3.toNatClampNeg) x7 hy8) (cwV 1 hts (gA_V wl_268 wl_269 wl_270 wl_49 wl_271) rfl rfl rfl (by decide +kernel) ⟨Nat.le_of_ble_eq_true rfl, Nat.le_of_ble_eq_true rfl⟩) rfl rfl rfl hl.1 rfl (Nat.le_of_ble_eq_true rfl) dX2_begin_43 ⟨Nat.zero_le _, Nat.zero_le _⟩ hK hP hD hS hA [8, 9, 10] [0, 1, 2, 3, 4, 5, 6, 7] rfl rfl rfl (by decide) (by decide) 11 rfl (by decide +kernel) (fun H locs hP hD hS => ?_)
          obtain ⟨h9, hf⟩ := dq_g hf
          refine dq_fast (cA := y 0) (n := 36) (f := h_warmth_4) hx hb hK hP hD hS 1 0 rfl rfl h9 dX2_begin_46 (fun h_warmth_10 eh_warmth_10 H locs hP hD hS => ?_)
          have hf := dq_l hf h_warmth_10 eh_warmth_10
          clear eh_warmth_10
          have hP : va_P D vwCl (w_X2 y a h_shutBits h_airs h_crownedBits h_sitters h_onBits x1 h_taken h_warmth_10 h_kind h_figure h_airCell h_way h_seat h_shawls h_count h_steps h_numbers) H := hP
          have hD : va_D A (w_X2 y a h_shutBits h_airs h_crownedBits h_sitters h_onBits x1 h_taken h_warmth_10 h_kind h_figure h_airCell h_way h_seat h_shawls h_count h_steps h_numbers) := hD
          obtain ⟨x11, ex11⟩ : ∃ z : Int32, z = (x3 + (1 : Int32)) := ⟨_, rfl⟩
          have hf := dq_l hf x11 ex11
          refine lv_iinc (v := x11) (lv' := [(1, .int x11), (0, .ref (a 0))]) hx hb dX2_begin_47 hl (k := 1) rfl (by rw [ex11]; rfl) (by decide) rfl (fun ls hl => ?_)
          clear ex11
          refine lv_goto (tgt := 22) hx hb dX2_begin_50 (by decide) ?_
          exact I22 _ _ hf _ _ hP hD hS _ (lv_sub hl [1, 0] rfl)
    exact J22 4096 _ _ hf _ _ hP hD hS _ (lv_sub hl [1, 0] rfl)
noncomputable def f_X2_nextCell_b35 (x3 : Int32)  (x4 : Int32) (x5 : Int32) : Option Int32 := dq_let (x4 + x5) (fun (x6 : Int32) => dq_if (x3 < 0) (some (-1 : Int32)) (dq_if ((6 : Int32) ≤ x3) (some (-1 : Int32)) (dq_if (x6 < 0) (some (-1 : Int32)) (dq_if (x6 < (6 : Int32)) (some (((6 : Int32) * x3) + x6)) (some (-1 : Int32))))))
noncomputable def f_X2_nextCell_b19 (n0 : Int32) (n1 : Int32)  (x1 : Int32) (x2 : Int32) : Option Int32 := dq_let (x1 + x2) (fun (x3 : Int32) => dq_if ((2 : Int32) ≤ n1) (f_X2_nextCell_b35 x3 (n0 - n0 / (6 : Int32) * (6 : Int32)) (-1 : Int32)) (f_X2_nextCell_b35 x3 (n0 - n0 / (6 : Int32) * (6 : Int32)) (1 : Int32)))
noncomputable def f_X2_nextCell (n0 : Int32) (n1 : Int32) : Option Int32 := dq_if (n1 = (1 : Int32)) (f_X2_nextCell_b19 n0 n1 (n0 / (6 : Int32)) (1 : Int32)) (dq_if (n1 = (2 : Int32)) (f_X2_nextCell_b19 n0 n1 (n0 / (6 : Int32)) (1 : Int32)) (f_X2_nextCell_b19 n0 n1 (n0 / (6 : Int32)) (-1 : Int32)))
def wA_X2_nextCell : List Cond := .code yX2_nextCell cX2_nextCell 4 (some .int) :: wsL_law
-- DraughtsTake$House.nextCell(II)I
set_option maxHeartbeats 4000000 in
set_option maxRecDepth 100000 in
theorem m_X2_nextCell (l : Launch) (D : va_G) (y : Nat → ClassId) (n0 : Int32) (n1 : Int32) (z0 : Int32) (hf : f_X2_nextCell n0 n1 = some z0) : Ct l D y yX2_nextCell wA_X2_nextCell 0 0 [.int n0, .int n1] [] [] (some (.int z0)) := by
  refine ct_head (cc := cX2_nextCell) (n := 4) (ret := (some .int)) (by decide) rfl (Nat.le_of_ble_eq_true rfl) ?_
  intro p e s m below meth c A ls hx hb hr hml hown hlocks hts hA hAe hP hK hD hl
  have hS : va_S A s.heap s.heap [] := va_S.rf
  have hl : lv_has ls 4 [(0, .int n0), (1, .int n1)] := hl
  have hown : s.vm.findClass RX2 = some m.cls := hown
  have hts : ∀ w ∈ wsL_law, w.before [.int n0, .int n1].toArray s = true := fun w h => hts w (List.mem_cons_of_mem _ h)
  unfold f_X2_nextCell at hf
  refine lv_iload_n hx hb dX2_nextCell_0 rfl (lv_at hl 0 rfl) ?_
  refine lv_bipush (v := 6) hx hb dX2_nextCell_1 (by decide) ?_
  refine lv_idiv hx hb dX2_nextCell_3 (by decide) ?_
  refine lv_iload_n hx hb dX2_nextCell_4 rfl (lv_at hl 1 rfl) ?_
  refine lv_iconst (v := 1) hx hb dX2_nextCell_5 (by decide) ?_
  have J19 : ∀ (x1 : Int32) (x2 : Int32), f_X2_nextCell_b19 n0 n1 x1 x2 = some z0 → ∀ (H : Heap) (locs : List Loc), va_P D vwCl [] H → va_D A [] → va_S A s.heap H locs → ∀ ls : Array Slot, lv_has ls 4 [(0, .int n0), (1, .int n1)] → W p l e ({ frames := 0, cells := 0, slots := 0, locals := 0 } : Room) s m [.int n0, .int n1].toArray below meth c H locs 0 0 (MQ below (dQ D y (some (.int z0)) s.heap.size [] []) [.int n0, .int n1].toArray s 0 0 A) (F0 m 19 ls [.int x2, .int x1]) := by
    intro x1 x2 hf H locs hP hD hS ls hl
    unfold f_X2_nextCell_b19 at hf
    refine lv_iadd hx hb dX2_nextCell_19 ?_
    refine lv_topi (fun x3 ex3 => ?_)
    have hf := dq_l hf x3 ex3
    clear ex3
    refine lv_istore_n (lv' := [(2, .int x3), (0, .int n0), (1, .int n1)]) hx hb dX2_nextCell_20 rfl hl (by decide) rfl (fun ls hl => ?_)
    refine lv_iload_n hx hb dX2_nextCell_21 rfl (lv_at hl 1 rfl) ?_
    refine lv_bipush (v := 6) hx hb dX2_nextCell_22 (by decide) ?_
    refine lv_irem hx hb dX2_nextCell_24 (by decide) ?_
    refine lv_iload_n hx hb dX2_nextCell_25 rfl (lv_at hl 2 rfl) ?_
    refine lv_iconst (v := 2) hx hb dX2_nextCell_26 (by decide) ?_
    have J35 : ∀ (x4 : Int32) (x5 : Int32), f_X2_nextCell_b35 x3 x4 x5 = some z0 → ∀ (H : Heap) (locs : List Loc), va_P D vwCl [] H → va_D A [] → va_S A s.heap H locs → ∀ ls : Array Slot, lv_has ls 4 [(2, .int x3)] → W p l e ({ frames := 0, cells := 0, slots := 0, locals := 0 } : Room) s m [.int n0, .int n1].toArray below meth c H locs 0 0 (MQ below (dQ D y (some (.int z0)) s.heap.size [] []) [.int n0, .int n1].toArray s 0 0 A) (F0 m 35 ls [.int x5, .int x4]) := by
      intro x4 x5 hf H locs hP hD hS ls hl
      unfold f_X2_nextCell_b35 at hf
      refine lv_iadd hx hb dX2_nextCell_35 ?_
      refine lv_topi (fun x6 ex6 => ?_)
      have hf := dq_l hf x6 ex6
      clear ex6
      refine lv_istore_n (lv' := [(3, .int x6), (2, .int x3)]) hx hb dX2_nextCell_36 rfl hl (by decide) rfl (fun ls hl => ?_)
      refine lv_iload_n hx hb dX2_nextCell_37 rfl (lv_at hl 1 rfl) ?_
      refine lv_if_lt (tgt := 57) hx hb dX2_nextCell_38 (by decide) (fun c7 => ?_) (fun c7 => ?_)
      · have hf := dq_t hf c7
        clear c7
        refine lv_iconst (v := -1) hx hb dX2_nextCell_57 (by decide) ?_
        obtain rfl := dq_r1 hf
        exact ct_iret hx hb hr hlocks hAe hP hK hD hS dX2_nextCell_58
      · have hf := dq_f hf c7
        clear c7
        refine lv_iload_n hx hb dX2_nextCell_41 rfl (lv_at hl 1 rfl) ?_
        refine lv_bipush (v := 6) hx hb dX2_nextCell_42 (by decide) ?_
        refine lv_icmp_ge (tgt := 57) hx hb dX2_nextCell_44 (by decide) (fun c8 => ?_) (fun c8 => ?_)
        · have hf := dq_t hf c8
          clear c8
          refine lv_iconst (v := -1) hx hb dX2_nextCell_57 (by decide) ?_
          obtain rfl := dq_r1 hf
          exact ct_iret hx hb hr hlocks hAe hP hK hD hS dX2_nextCell_58
        · have hf := dq_f hf c8
          clear c8
          refine lv_iload_n hx hb dX2_nextCell_47 rfl (lv_at hl 0 rfl) ?_
          refine lv_if_lt (tgt := 57) hx hb dX2_nextCell_48 (by decide) (fun c9 => ?_) (fun c9 => ?_)
          · have hf := dq_t hf c9
            clear c9
            refine lv_iconst (v := -1) hx hb dX2_nextCell_57 (by decide) ?_
            obtain rfl := dq_r1 hf
            exact ct_iret hx hb hr hlocks hAe hP hK hD hS dX2_nextCell_58
          · have hf := dq_f hf c9
            clear c9
            refine lv_iload_n hx hb dX2_nextCell_51 rfl (lv_at hl 0 rfl) ?_
            refine lv_bipush (v := 6) hx hb dX2_nextCell_52 (by decide) ?_
            refine lv_icmp_lt (tgt := 59) hx hb dX2_nextCell_54 (by decide) (fun c10 => ?_) (fun c10 => ?_)
            · have hf := dq_t hf c10
              clear c10
              refine lv_bipush (v := 6) hx hb dX2_nextCell_59 (by decide) ?_
              refine lv_iload_n hx hb dX2_nextCell_61 rfl (lv_at hl 1 rfl) ?_
              refine lv_imul hx hb dX2_nextCell_62 ?_
              refine lv_iload_n hx hb dX2_nextCell_63 rfl (lv_at hl 0 rfl) ?_
              refine lv_iadd hx hb dX2_nextCell_64 ?_
              obtain rfl := dq_r1 hf
              exact ct_iret hx hb hr hlocks hAe hP hK hD hS dX2_nextCell_65
            · have hf := dq_f hf c10
              clear c10
              refine lv_iconst (v := -1) hx hb dX2_nextCell_57 (by decide) ?_
              obtain rfl := dq_r1 hf
              exact ct_iret hx hb hr hlocks hAe hP hK hD hS dX2_nextCell_58
    refine lv_icmp_ge (tgt := 34) hx hb dX2_nextCell_27 (by decide) (fun c11 => ?_) (fun c11 => ?_)
    · have hf := dq_t hf c11
      clear c11
      refine lv_iconst (v := -1) hx hb dX2_nextCell_34 (by decide) ?_
      exact J35 _ _ hf _ _ hP hD hS _ (lv_sub hl [0] rfl)
    · have hf := dq_f hf c11
      clear c11
      refine lv_iconst (v := 1) hx hb dX2_nextCell_30 (by decide) ?_
      refine lv_goto (tgt := 35) hx hb dX2_nextCell_31 (by decide) ?_
      exact J35 _ _ hf _ _ hP hD hS _ (lv_sub hl [0] rfl)
  refine lv_icmp_eq (tgt := 14) hx hb dX2_nextCell_6 (by decide) (fun c12 => ?_) (fun c12 => ?_)
  · have hf := dq_t hf c12
    clear c12
    refine lv_iconst (v := 1) hx hb dX2_nextCell_14 (by decide) ?_
    refine lv_goto (tgt := 19) hx hb dX2_nextCell_15 (by decide) ?_
    exact J19 _ _ hf _ _ hP hD hS _ (lv_sub hl [0, 1] rfl)
  · have hf := dq_f hf c12
    clear c12
    refine lv_iload_n hx hb dX2_nextCell_9 rfl (lv_at hl 1 rfl) ?_
    refine lv_iconst (v := 2) hx hb dX2_nextCell_10 (by decide) ?_
    refine lv_icmp_ne (tgt := 18) hx hb dX2_nextCell_11 (by decide) (fun c13 => ?_) (fun c13 => ?_)
    · have hf := dq_f hf c13
      clear c13
      refine lv_iconst (v := -1) hx hb dX2_nextCell_18 (by decide) ?_
      exact J19 _ _ hf _ _ hP hD hS _ (lv_sub hl [0, 1] rfl)
    · have hf := dq_t hf c13
      clear c13
      refine lv_iconst (v := 1) hx hb dX2_nextCell_14 (by decide) ?_
      refine lv_goto (tgt := 19) hx hb dX2_nextCell_15 (by decide) ?_
      exact J19 _ _ hf _ _ hP hD hS _ (lv_sub hl [0, 1] rfl)
noncomputable def f_X2_wayToLeap_b62 (h_shutBits : Int64) (h_airs : Int32) (h_sitters : Int32) (h_onBits : Int32) (h_airCell : (Nat → Int32)) (h_seat : (Nat → Int32)) (x4 : Int32) (x7 : Int32) (x9 : Int32) (k16 : (Int32 → Option Int32)) (x11 : Int32) : Option Int32 := dq_if (x11 < 0) (dq_let (x4 + (1 : Int32)) (fun (x13 : Int32) => k16 x13)) (dq_bd (f_X2_sitterOn h_sitters h_onBits h_seat x9) (fun (x14 : Int32) => dq_if (x14 = (-9 : Int32)) (dq_let (x4 + (1 : Int32)) (fun (x17 : Int32) => k16 x17)) (dq_bd (f_X2_isFree h_shutBits h_airs h_sitters h_onBits h_airCell h_seat x11) (fun (x18 : Int32) => dq_if (x18 = 0) (dq_let (x4 + (1 : Int32)) (fun (x21 : Int32) => k16 x21)) (some x7)))))
noncomputable def f_X2_wayToLeap_b16 (n0 : Int32) (h_shutBits : Int64) (h_airs : Int32) (h_sitters : Int32) (h_onBits : Int32) (h_airCell : (Nat → Int32)) (h_way : (Nat → Int32)) (h_seat : (Nat → Int32)) (x3 : Int32)  : Nat → Int32 → Option Int32
  | 0, _ => none
  | m16 + 1, x4 => dq_if (x3 ≤ x4) (some (-1 : Int32)) (dq_gd (vp_in n0 5) (dq_let (((h_way n0.toNatClampNeg) + x4) - ((h_way n0.toNatClampNeg) + x4) / (4 : Int32) * (4 : Int32)) (fun (x7 : Int32) => dq_gd (vp_in n0 5) (dq_bd (f_X2_nextCell (h_airCell n0.toNatClampNeg) x7) (fun (x9 : Int32) => dq_if (0 ≤ x9) (dq_bd (f_X2_nextCell x9 x7) (fun (x23 : Int32) => f_X2_wayToLeap_b62 h_shutBits h_airs h_sitters h_onBits h_airCell h_seat x4 x7 x9 (f_X2_wayToLeap_b16 n0 h_shutBits h_airs h_sitters h_onBits h_airCell h_way h_seat x3 m16) x23)) (f_X2_wayToLeap_b62 h_shutBits h_airs h_sitters h_onBits h_airCell h_seat x4 x7 x9 (f_X2_wayToLeap_b16 n0 h_shutBits h_airs h_sitters h_onBits h_airCell h_way h_seat x3 m16) (-1 : Int32)))))))
noncomputable def f_X2_wayToLeap_b13 (n0 : Int32) (h_shutBits : Int64) (h_airs : Int32) (h_sitters : Int32) (h_onBits : Int32) (h_airCell : (Nat → Int32)) (h_way : (Nat → Int32)) (h_seat : (Nat → Int32))  (x3 : Int32) : Option Int32 := f_X2_wayToLeap_b16 n0 h_shutBits h_airs h_sitters h_onBits h_airCell h_way h_seat x3 4096 (0 : Int32)
noncomputable def f_X2_wayToLeap (h_shutBits : Int64) (h_airs : Int32) (h_crownedBits : Int32) (h_sitters : Int32) (h_onBits : Int32) (h_airCell : (Nat → Int32)) (h_way : (Nat → Int32)) (h_seat : (Nat → Int32)) (n0 : Int32) : Option Int32 := dq_bd (f_X2_isCrowned h_crownedBits n0) (fun (x1 : Int32) => dq_if (x1 = 0) (f_X2_wayToLeap_b13 n0 h_shutBits h_airs h_sitters h_onBits h_airCell h_way h_seat (2 : Int32)) (f_X2_wayToLeap_b13 n0 h_shutBits h_airs h_sitters h_onBits h_airCell h_way h_seat (4 : Int32)))
def wA_X2_wayToLeap : List Cond := .code yX2_wayToLeap cX2_wayToLeap 7 (some .int) :: wsL_law
-- DraughtsTake$House.wayToLeap(I)I
set_option maxHeartbeats 4000000 in
set_option maxRecDepth 100000 in
theorem m_X2_wayToLeap (l : Launch) (D : va_G) (y : Nat → ClassId) (a : (Nat → Nat)) (h_shutBits : Int64) (h_airs : Int32) (h_crownedBits : Int32) (h_sitters : Int32) (h_onBits : Int32) (h_turn : Int32) (h_taken : Int32) (h_warmth : (Nat → UInt32)) (h_kind : (Nat → Int32)) (h_figure : (Nat → Int32)) (h_airCell : (Nat → Int32)) (h_way : (Nat → Int32)) (h_seat : (Nat → Int32)) (h_shawls : (Nat → Int32)) (h_count : Int32) (h_steps : (Nat → Int32)) (h_numbers : (Nat → Int32)) (n0 : Int32) (z0 : Int32) (hf : f_X2_wayToLeap h_shutBits h_airs h_crownedBits h_sitters h_onBits h_airCell h_way h_seat n0 = some z0) : Ct l D y yX2_wayToLeap wA_X2_wayToLeap 2 43 [.ref (a 0), .int n0] (w_X2 y a h_shutBits h_airs h_crownedBits h_sitters h_onBits h_turn h_taken h_warmth h_kind h_figure h_airCell h_way h_seat h_shawls h_count h_steps h_numbers) (w_X2 y a h_shutBits h_airs h_crownedBits h_sitters h_onBits h_turn h_taken h_warmth h_kind h_figure h_airCell h_way h_seat h_shawls h_count h_steps h_numbers) (some (.int z0)) := by
  refine ct_head (cc := cX2_wayToLeap) (n := 7) (ret := (some .int)) (by decide) rfl (Nat.le_of_ble_eq_true rfl) ?_
  intro p e s m below meth c A ls hx hb hr hml hown hlocks hts hA hAe hP hK hD hl
  have hS : va_S A s.heap s.heap [] := va_S.rf
  have hl : lv_has ls 7 [(0, .ref (a 0)), (1, .int n0)] := hl
  have hown : s.vm.findClass RX2 = some m.cls := hown
  have hts : ∀ w ∈ wsL_law, w.before [.ref (a 0), .int n0].toArray s = true := fun w h => hts w (List.mem_cons_of_mem _ h)
  unfold f_X2_wayToLeap at hf
  refine lv_aload_n hx hb dX2_wayToLeap_0 rfl (lv_at hl 0 rfl) ?_
  refine lv_iload_n hx hb dX2_wayToLeap_1 rfl (lv_at hl 1 rfl) ?_
  obtain ⟨x1, hy2, hf⟩ := dq_b hf
  refine ct_callV0 (ci := 1) (q0 := 0) (own := RX2) (As := [.int n0]) (rest := []) (ws' := (w_X2 y a h_shutBits h_airs h_crownedBits h_sitters h_onBits h_turn h_taken h_warmth h_kind h_figure h_airCell h_way h_seat h_shawls h_count h_steps h_numbers)) ⟨hx, hb, hml, hown, hts⟩ (m_X2_isCrowned l D y a h_shutBits h_airs h_crownedBits h_sitters h_onBits h_turn h_taken h_warmth h_kind h_figure h_airCell h_way h_seat h_shawls h_count h_steps h_numbers n0 x1 hy2) (cwV 1 hts (gA_V wl_302 wl_303 wl_304 wl_14 wl_305) rfl rfl rfl (by decide +kernel) ⟨Nat.le_of_ble_eq_true rfl, Nat.le_of_ble_eq_true rfl⟩) rfl rfl rfl hl.1 rfl (Nat.le_of_ble_eq_true rfl) dX2_wayToLeap_2 ⟨Nat.zero_le _, Nat.zero_le _⟩ hK hP hD hS hA (fun H locs hP hD hS => ?_)
  have J13 : ∀ (x3 : Int32), f_X2_wayToLeap_b13 n0 h_shutBits h_airs h_sitters h_onBits h_airCell h_way h_seat x3 = some z0 → ∀ (H : Heap) (locs : List Loc), va_P D vwCl (w_X2 y a h_shutBits h_airs h_crownedBits h_sitters h_onBits h_turn h_taken h_warmth h_kind h_figure h_airCell h_way h_seat h_shawls h_count h_steps h_numbers) H → va_D A (w_X2 y a h_shutBits h_airs h_crownedBits h_sitters h_onBits h_turn h_taken h_warmth h_kind h_figure h_airCell h_way h_seat h_shawls h_count h_steps h_numbers) → va_S A s.heap H locs → ∀ ls : Array Slot, lv_has ls 7 [(0, .ref (a 0)), (1, .int n0)] → W p l e ({ frames := 2, cells := 0, slots := 0, locals := 43 } : Room) s m [.ref (a 0), .int n0].toArray below meth c H locs 0 0 (MQ below (dQ D y (some (.int z0)) s.heap.size (w_X2 y a h_shutBits h_airs h_crownedBits h_sitters h_onBits h_turn h_taken h_warmth h_kind h_figure h_airCell h_way h_seat h_shawls h_count h_steps h_numbers) (w_X2 y a h_shutBits h_airs h_crownedBits h_sitters h_onBits h_turn h_taken h_warmth h_kind h_figure h_airCell h_way h_seat h_shawls h_count h_steps h_numbers)) [.ref (a 0), .int n0].toArray s 0 0 A) (F0 m 13 ls [.int x3]) := by
    intro x3 hf H locs hP hD hS ls hl
    unfold f_X2_wayToLeap_b13 at hf
    refine lv_istore_n (lv' := [(2, .int x3), (0, .ref (a 0)), (1, .int n0)]) hx hb dX2_wayToLeap_13 rfl hl (by decide) rfl (fun ls hl => ?_)
    refine lv_iconst (v := 0) hx hb dX2_wayToLeap_14 (by decide) ?_
    refine lv_istore_n (lv' := [(3, .int (0 : Int32)), (2, .int x3), (0, .ref (a 0)), (1, .int n0)]) hx hb dX2_wayToLeap_15 rfl hl (by decide) rfl (fun ls hl => ?_)
    have J16 : ∀ (m16 : Nat) (x4 : Int32), f_X2_wayToLeap_b16 n0 h_shutBits h_airs h_sitters h_onBits h_airCell h_way h_seat x3 m16 x4 = some z0 → ∀ (H : Heap) (locs : List Loc), va_P D vwCl (w_X2 y a h_shutBits h_airs h_crownedBits h_sitters h_onBits h_turn h_taken h_warmth h_kind h_figure h_airCell h_way h_seat h_shawls h_count h_steps h_numbers) H → va_D A (w_X2 y a h_shutBits h_airs h_crownedBits h_sitters h_onBits h_turn h_taken h_warmth h_kind h_figure h_airCell h_way h_seat h_shawls h_count h_steps h_numbers) → va_S A s.heap H locs → ∀ ls : Array Slot, lv_has ls 7 [(0, .ref (a 0)), (1, .int n0), (2, .int x3), (3, .int x4)] → W p l e ({ frames := 2, cells := 0, slots := 0, locals := 43 } : Room) s m [.ref (a 0), .int n0].toArray below meth c H locs 0 0 (MQ below (dQ D y (some (.int z0)) s.heap.size (w_X2 y a h_shutBits h_airs h_crownedBits h_sitters h_onBits h_turn h_taken h_warmth h_kind h_figure h_airCell h_way h_seat h_shawls h_count h_steps h_numbers) (w_X2 y a h_shutBits h_airs h_crownedBits h_sitters h_onBits h_turn h_taken h_warmth h_kind h_figure h_airCell h_way h_seat h_shawls h_count h_steps h_numbers)) [.ref (a 0), .int n0].toArray s 0 0 A) (F0 m 16 ls []) := by
      intro m16
      induction m16 with
      | zero => intro x4 hf; exact absurd hf (by unfold f_X2_wayToLeap_b16; exact fun h => by cases h)
      | succ m16 I16 =>
        intro x4 hf H locs hP hD hS ls hl
        unfold f_X2_wayToLeap_b16 at hf
        refine lv_iload_n hx hb dX2_wayToLeap_16 rfl (lv_at hl 3 rfl) ?_
        refine lv_iload_n hx hb dX2_wayToLeap_17 rfl (lv_at hl 2 rfl) ?_
        refine lv_icmp_ge (tgt := 98) hx hb dX2_wayToLeap_18 (by decide) (fun c5 => ?_) (fun c5 => ?_)
        · have hf := dq_t hf c5
          clear c5
          refine lv_iconst (v := -1) hx hb dX2_wayToLeap_98 (by decide) ?_
          obtain rfl := dq_r1 hf
          exact ct_iret hx hb hr hlocks hAe hP hK hD hS dX2_wayToLeap_99
        · have hf := dq_f hf c5
          clear c5
          refine lv_aload_n hx hb dX2_wayToLeap_21 rfl (lv_at hl 0 rfl) ?_
          refine va_get (D := D) (ci := 1) (v := .ref (a 5)) (C := RX2) (T := TX2) (N := 15) hx hb hts iwX2 hown hK hP 0 rfl rfl 6 (by decide) (hts _ wl_44) (fun _ h9 => h9) rfl dX2_wayToLeap_22 ?_
          refine lv_iload_n hx hb dX2_wayToLeap_25 rfl (lv_at hl 1 rfl) ?_
          obtain ⟨h6, hf⟩ := dq_g hf
          refine va_iald (cA := y 1) (n := 5) (f := h_way) hx hb hK hP 5 1 rfl rfl h6 dX2_wayToLeap_26 ?_
          refine lv_iload_n hx hb dX2_wayToLeap_27 rfl (lv_at hl 3 rfl) ?_
          refine lv_iadd hx hb dX2_wayToLeap_28 ?_
          refine lv_iconst (v := 4) hx hb dX2_wayToLeap_29 (by decide) ?_
          refine lv_irem hx hb dX2_wayToLeap_30 (by decide) ?_
          refine lv_topi (fun x7 ex7 => ?_)
          have hf := dq_l hf x7 ex7
          clear ex7
          refine lv_istore (lv' := [(4, .int x7), (0, .ref (a 0)), (1, .int n0), (2, .int x3), (3, .int x4)]) hx hb dX2_wayToLeap_31 hl (by decide) rfl (fun ls hl => ?_)
          refine lv_aload_n hx hb dX2_wayToLeap_33 rfl (lv_at hl 1 rfl) ?_
          refine va_get (D := D) (ci := 1) (v := .ref (a 4)) (C := RX2) (T := TX2) (N := 15) hx hb hts iwX2 hown hK hP 0 rfl rfl 5 (by decide) (hts _ wl_43) (fun _ h9 => h9) rfl dX2_wayToLeap_34 ?_
          refine lv_iload_n hx hb dX2_wayToLeap_37 rfl (lv_at hl 2 rfl) ?_
          obtain ⟨h8, hf⟩ := dq_g hf
          refine va_iald (cA := y 1) (n := 5) (f := h_airCell) hx hb hK hP 4 1 rfl rfl h8 dX2_wayToLeap_38 ?_
          refine lv_iload hx hb dX2_wayToLeap_39 (lv_at hl 0 rfl) ?_
          obtain ⟨x9, hy10, hf⟩ := dq_b hf
          refine ct_callS0 (own := RX2) (As := [.int (h_airCell n0.toNatClampNeg), .int x7]) (rest := []) ⟨hx, hb, hml, hown, hts⟩ (m_X2_nextCell l D y (h_airCell n0.toNatClampNeg) x7 x9 hy10) (va_cwS 2 hts (gA_S wl_306 wl_307 wl_14 wl_308) rfl rfl rfl (by decide +kernel) ⟨Nat.le_of_ble_eq_true rfl, Nat.le_of_ble_eq_true rfl⟩) rfl hl.1 rfl (Nat.le_of_ble_eq_true rfl) dX2_wayToLeap_41 ⟨Nat.zero_le _, Nat.zero_le _⟩ hK hP hD hS hA (fun H locs hP hD hS => ?_)
          refine lv_istore (lv' := [(5, .int x9), (4, .int x7), (0, .ref (a 0)), (1, .int n0), (2, .int x3), (3, .int x4)]) hx hb dX2_wayToLeap_44 hl (by decide) rfl (fun ls hl => ?_)
          refine lv_iload hx hb dX2_wayToLeap_46 (lv_at hl 0 rfl) ?_
          have J62 : ∀ (x11 : Int32), f_X2_wayToLeap_b62 h_shutBits h_airs h_sitters h_onBits h_airCell h_seat x4 x7 x9 (f_X2_wayToLeap_b16 n0 h_shutBits h_airs h_sitters h_onBits h_airCell h_way h_seat x3 m16) x11 = some z0 → ∀ (H : Heap) (locs : List Loc), va_P D vwCl (w_X2 y a h_shutBits h_airs h_crownedBits h_sitters h_onBits h_turn h_taken h_warmth h_kind h_figure h_airCell h_way h_seat h_shawls h_count h_steps h_numbers) H → va_D A (w_X2 y a h_shutBits h_airs h_crownedBits h_sitters h_onBits h_turn h_taken h_warmth h_kind h_figure h_airCell h_way h_seat h_shawls h_count h_steps h_numbers) → va_S A s.heap H locs → ∀ ls : Array Slot, lv_has ls 7 [(0, .ref (a 0)), (1, .int n0), (2, .int x3), (3, .int x4), (4, .int x7), (5, .int x9)] → W p l e ({ frames := 2, cells := 0, slots := 0, locals := 43 } : Room) s m [.ref (a 0), .int n0].toArray below meth c H locs 0 0 (MQ below (dQ D y (some (.int z0)) s.heap.size (w_X2 y a h_shutBits h_airs h_crownedBits h_sitters h_onBits h_turn h_taken h_warmth h_kind h_figure h_airCell h_way h_seat h_shawls h_count h_steps h_numbers) (w_X2 y a h_shutBits h_airs h_crownedBits h_sitters h_onBits h_turn h_taken h_warmth h_kind h_figure h_airCell h_way h_seat h_shawls h_count h_steps h_numbers)) [.ref (a 0), .int n0].toArray s 0 0 A) (F0 m 62 ls [.int x11]) := by
            intro x11 hf H locs hP hD hS ls hl
            unfold f_X2_wayToLeap_b62 at hf
            refine lv_istore (lv' := [(6, .int x11), (0, .ref (a 0)), (1, .int n0), (2, .int x3), (3, .int x4), (4, .int x7), (5, .int x9)]) hx hb dX2_wayToLeap_62 hl (by decide) rfl (fun ls hl => ?_)
            refine lv_iload hx hb dX2_wayToLeap_64 (lv_at hl 0 rfl) ?_
            refine lv_if_lt (tgt := 92) hx hb dX2_wayToLeap_66 (by decide) (fun c12 => ?_) (fun c12 => ?_)
            · have hf := dq_t hf c12
              clear c12
              obtain ⟨x13, ex13⟩ : ∃ z : Int32, z = (x4 + (1 : Int32)) := ⟨_, rfl⟩
              have hf := dq_l hf x13 ex13
              refine lv_iinc (v := x13) (lv' := [(3, .int x13), (6, .int x11), (0, .ref (a 0)), (1, .int n0), (2, .int x3), (4, .int x7), (5, .int x9)]) hx hb dX2_wayToLeap_92 hl (k := 4) rfl (by rw [ex13]; rfl) (by decide) rfl (fun ls hl => ?_)
              clear ex13
              refine lv_goto (tgt := 16) hx hb dX2_wayToLeap_95 (by decide) ?_
              exact I16 _ hf _ _ hP hD hS _ (lv_sub hl [2, 3, 4, 0] rfl)
            · have hf := dq_f hf c12
              clear c12
              refine lv_aload_n hx hb dX2_wayToLeap_69 rfl (lv_at hl 1 rfl) ?_
              refine lv_iload hx hb dX2_wayToLeap_70 (lv_at hl 6 rfl) ?_
              obtain ⟨x14, hy15, hf⟩ := dq_b hf
              refine ct_callV0 (ci := 1) (q0 := 0) (own := RX2) (As := [.int x9]) (rest := []) (ws' := (w_X2 y a h_shutBits h_airs h_crownedBits h_sitters h_onBits h_turn h_taken h_warmth h_kind h_figure h_airCell h_way h_seat h_shawls h_count h_steps h_numbers)) ⟨hx, hb, hml, hown, hts⟩ (m_X2_sitterOn l D y a h_shutBits h_airs h_crownedBits h_sitters h_onBits h_turn h_taken h_warmth h_kind h_figure h_airCell h_way h_seat h_shawls h_count h_steps h_numbers x9 x14 hy15) (cwV 1 hts (gA_V wl_227 wl_228 wl_229 wl_14 wl_230) rfl rfl rfl (by decide +kernel) ⟨Nat.le_of_ble_eq_true rfl, Nat.le_of_ble_eq_true rfl⟩) rfl rfl rfl hl.1 rfl (Nat.le_of_ble_eq_true rfl) dX2_wayToLeap_72 ⟨Nat.zero_le _, Nat.zero_le _⟩ hK hP hD hS hA (fun H locs hP hD hS => ?_)
              refine lv_bipush (v := -9) hx hb dX2_wayToLeap_75 (by decide) ?_
              refine lv_icmp_eq (tgt := 92) hx hb dX2_wayToLeap_77 (by decide) (fun c16 => ?_) (fun c16 => ?_)
              · have hf := dq_t hf c16
                clear c16
                obtain ⟨x17, ex17⟩ : ∃ z : Int32, z = (x4 + (1 : Int32)) := ⟨_, rfl⟩
                have hf := dq_l hf x17 ex17
                refine lv_iinc (v := x17) (lv' := [(3, .int x17), (6, .int x11), (0, .ref (a 0)), (1, .int n0), (2, .int x3), (4, .int x7), (5, .int x9)]) hx hb dX2_wayToLeap_92 hl (k := 4) rfl (by rw [ex17]; rfl) (by decide) rfl (fun ls hl => ?_)
                clear ex17
                refine lv_goto (tgt := 16) hx hb dX2_wayToLeap_95 (by decide) ?_
                exact I16 _ hf _ _ hP hD hS _ (lv_sub hl [2, 3, 4, 0] rfl)
              · have hf := dq_f hf c16
                clear c16
                refine lv_aload_n hx hb dX2_wayToLeap_80 rfl (lv_at hl 1 rfl) ?_
                refine lv_iload hx hb dX2_wayToLeap_81 (lv_at hl 0 rfl) ?_
                obtain ⟨x18, hy19, hf⟩ := dq_b hf
                refine ct_callV0 (ci := 1) (q0 := 0) (own := RX2) (As := [.int x11]) (rest := []) (ws' := (w_X2 y a h_shutBits h_airs h_crownedBits h_sitters h_onBits h_turn h_taken h_warmth h_kind h_figure h_airCell h_way h_seat h_shawls h_count h_steps h_numbers)) ⟨hx, hb, hml, hown, hts⟩ (m_X2_isFree l D y a h_shutBits h_airs h_crownedBits h_sitters h_onBits h_turn h_taken h_warmth h_kind h_figure h_airCell h_way h_seat h_shawls h_count h_steps h_numbers x11 x18 hy19) (cwV 1 hts (gA_V wl_215 wl_216 wl_217 wl_14 wl_218) rfl rfl rfl (by decide +kernel) ⟨Nat.le_of_ble_eq_true rfl, Nat.le_of_ble_eq_true rfl⟩) rfl rfl rfl hl.1 rfl (Nat.le_of_ble_eq_true rfl) dX2_wayToLeap_83 ⟨Nat.zero_le _, Nat.zero_le _⟩ hK hP hD hS hA (fun H locs hP hD hS => ?_)
                refine lv_if_eq (tgt := 92) hx hb dX2_wayToLeap_86 (by decide) (fun c20 => ?_) (fun c20 => ?_)
                · have hf := dq_t hf c20
                  clear c20
                  obtain ⟨x21, ex21⟩ : ∃ z : Int32, z = (x4 + (1 : Int32)) := ⟨_, rfl⟩
                  have hf := dq_l hf x21 ex21
                  refine lv_iinc (v := x21) (lv' := [(3, .int x21), (6, .int x11), (0, .ref (a 0)), (1, .int n0), (2, .int x3), (4, .int x7), (5, .int x9)]) hx hb dX2_wayToLeap_92 hl (k := 4) rfl (by rw [ex21]; rfl) (by decide) rfl (fun ls hl => ?_)
                  clear ex21
                  refine lv_goto (tgt := 16) hx hb dX2_wayToLeap_95 (by decide) ?_
                  exact I16 _ hf _ _ hP hD hS _ (lv_sub hl [2, 3, 4, 0] rfl)
                · have hf := dq_f hf c20
                  clear c20
                  refine lv_iload hx hb dX2_wayToLeap_89 (lv_at hl 5 rfl) ?_
                  obtain rfl := dq_r1 hf
                  exact ct_iret hx hb hr hlocks hAe hP hK hD hS dX2_wayToLeap_91
          refine lv_if_ge (tgt := 55) hx hb dX2_wayToLeap_48 (by decide) (fun c22 => ?_) (fun c22 => ?_)
          · have hf := dq_t hf c22
            clear c22
            refine lv_iload hx hb dX2_wayToLeap_55 (lv_at hl 0 rfl) ?_
            refine lv_iload hx hb dX2_wayToLeap_57 (lv_at hl 1 rfl) ?_
            obtain ⟨x23, hy24, hf⟩ := dq_b hf
            refine ct_callS0 (own := RX2) (As := [.int x9, .int x7]) (rest := []) ⟨hx, hb, hml, hown, hts⟩ (m_X2_nextCell l D y x9 x7 x23 hy24) (va_cwS 2 hts (gA_S wl_306 wl_307 wl_14 wl_308) rfl rfl rfl (by decide +kernel) ⟨Nat.le_of_ble_eq_true rfl, Nat.le_of_ble_eq_true rfl⟩) rfl hl.1 rfl (Nat.le_of_ble_eq_true rfl) dX2_wayToLeap_59 ⟨Nat.zero_le _, Nat.zero_le _⟩ hK hP hD hS hA (fun H locs hP hD hS => ?_)
            exact J62 _ hf _ _ hP hD hS _ (lv_sub hl [2, 3, 4, 5, 1, 0] rfl)
          · have hf := dq_f hf c22
            clear c22
            refine lv_iconst (v := -1) hx hb dX2_wayToLeap_51 (by decide) ?_
            refine lv_goto (tgt := 62) hx hb dX2_wayToLeap_52 (by decide) ?_
            exact J62 _ hf _ _ hP hD hS _ (lv_sub hl [2, 3, 4, 5, 1, 0] rfl)
    exact J16 4096 _ hf _ _ hP hD hS _ (lv_sub hl [2, 3, 1, 0] rfl)
  refine lv_if_eq (tgt := 12) hx hb dX2_wayToLeap_5 (by decide) (fun c25 => ?_) (fun c25 => ?_)
  · have hf := dq_t hf c25
    clear c25
    refine lv_iconst (v := 2) hx hb dX2_wayToLeap_12 (by decide) ?_
    exact J13 _ hf _ _ hP hD hS _ (lv_sub hl [0, 1] rfl)
  · have hf := dq_f hf c25
    clear c25
    refine lv_iconst (v := 4) hx hb dX2_wayToLeap_8 (by decide) ?_
    refine lv_goto (tgt := 13) hx hb dX2_wayToLeap_9 (by decide) ?_
    exact J13 _ hf _ _ hP hD hS _ (lv_sub hl [0, 1] rfl)
noncomputable def f_X2_leapOver (h_sitters : Int32) (h_onBits : Int32) (h_taken : Int32) (h_shawls : (Nat → Int32)) (n0 : Int32) : Option (Int32 × Int32 × (Nat → Int32)) := dq_if (n0 < 0) (some (h_onBits, h_taken, h_shawls)) (dq_if (n0 < h_sitters) (dq_let (if (9999 : Int32) < (h_taken + (1 : Int32)) then (9999 : Int32) else (h_taken + (1 : Int32))) (fun (x3 : Int32) => dq_gd (vp_in n0 6) (dq_if ((h_shawls n0.toNatClampNeg) ≤ 0) (dq_let (h_onBits &&& (((1 : Int32) <<< (n0 &&& 31)) ^^^ (-1 : Int32))) (fun (x6 : Int32) => some (x6, x3, h_shawls))) (dq_gd (vp_in n0 6) (dq_gd (vp_in n0 6) (dq_let (upd h_shawls n0.toNatClampNeg ((h_shawls n0.toNatClampNeg) - (1 : Int32))) (fun (h_shawls_9 : (Nat → Int32)) => some (h_onBits, x3, h_shawls_9)))))))) (some (h_onBits, h_taken, h_shawls)))
def wA_X2_leapOver : List Cond := .code yX2_leapOver cX2_leapOver 2 none :: wsL_law
-- DraughtsTake$House.leapOver(I)V
set_option maxHeartbeats 4000000 in
set_option maxRecDepth 100000 in
theorem m_X2_leapOver (l : Launch) (D : va_G) (y : Nat → ClassId) (a : (Nat → Nat)) (h_shutBits : Int64) (h_airs : Int32) (h_crownedBits : Int32) (h_sitters : Int32) (h_onBits : Int32) (h_turn : Int32) (h_taken : Int32) (h_warmth : (Nat → UInt32)) (h_kind : (Nat → Int32)) (h_figure : (Nat → Int32)) (h_airCell : (Nat → Int32)) (h_way : (Nat → Int32)) (h_seat : (Nat → Int32)) (h_shawls : (Nat → Int32)) (h_count : Int32) (h_steps : (Nat → Int32)) (h_numbers : (Nat → Int32)) (n0 : Int32) (z0 : Int32) (z1 : Int32) (z2 : (Nat → Int32)) (hf : f_X2_leapOver h_sitters h_onBits h_taken h_shawls n0 = some (z0, z1, z2)) : Ct l D y yX2_leapOver wA_X2_leapOver 1 21 [.ref (a 0), .int n0] (w_X2 y a h_shutBits h_airs h_crownedBits h_sitters h_onBits h_turn h_taken h_warmth h_kind h_figure h_airCell h_way h_seat h_shawls h_count h_steps h_numbers) (w_X2 y a h_shutBits h_airs h_crownedBits h_sitters z0 h_turn z1 h_warmth h_kind h_figure h_airCell h_way h_seat z2 h_count h_steps h_numbers) none := by
  refine ct_head (cc := cX2_leapOver) (n := 2) (ret := none) (by decide) rfl (Nat.le_of_ble_eq_true rfl) ?_
  intro p e s m below meth c A ls hx hb hr hml hown hlocks hts hA hAe hP hK hD hl
  have hS : va_S A s.heap s.heap [] := va_S.rf
  have hl : lv_has ls 2 [(0, .ref (a 0)), (1, .int n0)] := hl
  have hown : s.vm.findClass RX2 = some m.cls := hown
  have hts : ∀ w ∈ wsL_law, w.before [.ref (a 0), .int n0].toArray s = true := fun w h => hts w (List.mem_cons_of_mem _ h)
  unfold f_X2_leapOver at hf
  refine lv_iload_n hx hb dX2_leapOver_0 rfl (lv_at hl 1 rfl) ?_
  refine lv_if_lt (tgt := 12) hx hb dX2_leapOver_1 (by decide) (fun c1 => ?_) (fun c1 => ?_)
  · have hf := dq_t hf c1
    clear c1
    obtain ⟨rfl, rfl, rfl⟩ := dq_r3 hf
    exact ct_vret hx hb hr hlocks hAe hP hK hD hS dX2_leapOver_12
  · have hf := dq_f hf c1
    clear c1
    refine lv_iload_n hx hb dX2_leapOver_4 rfl (lv_at hl 1 rfl) ?_
    refine lv_aload_n hx hb dX2_leapOver_5 rfl (lv_at hl 0 rfl) ?_
    refine va_get (D := D) (ci := 1) (v := .int h_sitters) (C := RX2) (T := TX2) (N := 15) hx hb hts iwX2 hown hK hP 0 rfl rfl 8 (by decide) (hts _ wl_187) (fun _ h9 => h9) rfl dX2_leapOver_6 ?_
    refine lv_icmp_lt (tgt := 13) hx hb dX2_leapOver_9 (by decide) (fun c2 => ?_) (fun c2 => ?_)
    · have hf := dq_t hf c2
      clear c2
      refine lv_aload_n hx hb dX2_leapOver_13 rfl (lv_at hl 0 rfl) ?_
      refine lv_aload_n hx hb dX2_leapOver_14 rfl (lv_at hl 0 rfl) ?_
      refine va_get (D := D) (ci := 1) (v := .int h_taken) (C := RX2) (T := TX2) (N := 15) hx hb hts iwX2 hown hK hP 0 rfl rfl 13 (by decide) (hts _ wl_190) (fun _ h9 => h9) rfl dX2_leapOver_15 ?_
      refine lv_iconst (v := 1) hx hb dX2_leapOver_18 (by decide) ?_
      refine lv_iadd hx hb dX2_leapOver_19 ?_
      refine lv_sipush (v := 9999) hx hb dX2_leapOver_20 (by decide) ?_
      refine va_mmin hx hb (hml.trans hl.1.symm) hown (hts _ wl_313) (hts _ wl_314) (hts _ wl_293) (hts _ wl_315) (Nat.le_of_ble_eq_true rfl) (Nat.le_of_ble_eq_true rfl) (Nat.zero_le _) (Nat.zero_le _) dX2_leapOver_23 ?_
      refine lv_topi (fun x3 ex3 => ?_)
      have hf := dq_l hf x3 ex3
      clear ex3
      refine va_put (D := D) (ci := 1) (v := .int x3) (ty := .int) (C := RX2) (T := TX2) (N := 15) hx hb hts iwX2 tyX2 tyX2_ok nmX2 hown hK hP hD hS 0 rfl rfl 13 (by decide) (hts _ wl_190) (fun _ h9 => h9) rfl (tyX2_ok 13 (by decide)) rfl rfl (Nat.le_of_ble_eq_true rfl) dX2_leapOver_26 (fun H locs hP hD hS => ?_)
      have hP : va_P D vwCl (w_X2 y a h_shutBits h_airs h_crownedBits h_sitters h_onBits h_turn x3 h_warmth h_kind h_figure h_airCell h_way h_seat h_shawls h_count h_steps h_numbers) H := hP
      have hD : va_D A (w_X2 y a h_shutBits h_airs h_crownedBits h_sitters h_onBits h_turn x3 h_warmth h_kind h_figure h_airCell h_way h_seat h_shawls h_count h_steps h_numbers) := hD
      refine lv_aload_n hx hb dX2_leapOver_29 rfl (lv_at hl 0 rfl) ?_
      refine va_get (D := D) (ci := 1) (v := .ref (a 7)) (C := RX2) (T := TX2) (N := 15) hx hb hts iwX2 hown hK hP 0 rfl rfl 10 (by decide) (hts _ wl_46) (fun _ h9 => h9) rfl dX2_leapOver_30 ?_
      refine lv_iload_n hx hb dX2_leapOver_33 rfl (lv_at hl 1 rfl) ?_
      obtain ⟨h4, hf⟩ := dq_g hf
      refine va_iald (cA := y 1) (n := 6) (f := h_shawls) hx hb hK hP 7 1 rfl rfl h4 dX2_leapOver_34 ?_
      refine lv_if_le (tgt := 51) hx hb dX2_leapOver_35 (by decide) (fun c5 => ?_) (fun c5 => ?_)
      · have hf := dq_t hf c5
        clear c5
        refine lv_aload_n hx hb dX2_leapOver_51 rfl (lv_at hl 0 rfl) ?_
        refine lv_dup hx hb dX2_leapOver_52 rfl ?_
        refine va_get (D := D) (ci := 1) (v := .int h_onBits) (C := RX2) (T := TX2) (N := 15) hx hb hts iwX2 hown hK hP 0 rfl rfl 11 (by decide) (hts _ wl_188) (fun _ h9 => h9) rfl dX2_leapOver_53 ?_
        refine lv_iconst (v := 1) hx hb dX2_leapOver_56 (by decide) ?_
        refine lv_iload_n hx hb dX2_leapOver_57 rfl (lv_at hl 1 rfl) ?_
        refine lv_ishl hx hb dX2_leapOver_58 ?_
        refine lv_iconst (v := -1) hx hb dX2_leapOver_59 (by decide) ?_
        refine lv_ixor hx hb dX2_leapOver_60 ?_
        refine lv_iand hx hb dX2_leapOver_61 ?_
        refine lv_topi (fun x6 ex6 => ?_)
        have hf := dq_l hf x6 ex6
        clear ex6
        refine va_put (D := D) (ci := 1) (v := .int x6) (ty := .int) (C := RX2) (T := TX2) (N := 15) hx hb hts iwX2 tyX2 tyX2_ok nmX2 hown hK hP hD hS 0 rfl rfl 11 (by decide) (hts _ wl_188) (fun _ h9 => h9) rfl (tyX2_ok 11 (by decide)) rfl rfl (Nat.le_of_ble_eq_true rfl) dX2_leapOver_62 (fun H locs hP hD hS => ?_)
        have hP : va_P D vwCl (w_X2 y a h_shutBits h_airs h_crownedBits h_sitters x6 h_turn x3 h_warmth h_kind h_figure h_airCell h_way h_seat h_shawls h_count h_steps h_numbers) H := hP
        have hD : va_D A (w_X2 y a h_shutBits h_airs h_crownedBits h_sitters x6 h_turn x3 h_warmth h_kind h_figure h_airCell h_way h_seat h_shawls h_count h_steps h_numbers) := hD
        obtain ⟨rfl, rfl, rfl⟩ := dq_r3 hf
        exact ct_vret hx hb hr hlocks hAe hP hK hD hS dX2_leapOver_65
      · have hf := dq_f hf c5
        clear c5
        refine lv_aload_n hx hb dX2_leapOver_38 rfl (lv_at hl 0 rfl) ?_
        refine va_get (D := D) (ci := 1) (v := .ref (a 7)) (C := RX2) (T := TX2) (N := 15) hx hb hts iwX2 hown hK hP 0 rfl rfl 10 (by decide) (hts _ wl_46) (fun _ h9 => h9) rfl dX2_leapOver_39 ?_
        refine lv_iload_n hx hb dX2_leapOver_42 rfl (lv_at hl 1 rfl) ?_
        refine lv_dup2_11 hx hb dX2_leapOver_43 rfl rfl ?_
        obtain ⟨h7, hf⟩ := dq_g hf
        refine va_iald (cA := y 1) (n := 6) (f := h_shawls) hx hb hK hP 7 1 rfl rfl h7 dX2_leapOver_44 ?_
        refine lv_iconst (v := 1) hx hb dX2_leapOver_45 (by decide) ?_
        refine lv_isub hx hb dX2_leapOver_46 ?_
        obtain ⟨h8, hf⟩ := dq_g hf
        refine dq_iast (cA := y 1) (n := 6) (f := h_shawls) hx hb hK hP hD hS 7 1 rfl rfl h8 dX2_leapOver_47 (fun h_shawls_9 eh_shawls_9 H locs hP hD hS => ?_)
        have hf := dq_l hf h_shawls_9 eh_shawls_9
        clear eh_shawls_9
        have hP : va_P D vwCl (w_X2 y a h_shutBits h_airs h_crownedBits h_sitters h_onBits h_turn x3 h_warmth h_kind h_figure h_airCell h_way h_seat h_shawls_9 h_count h_steps h_numbers) H := hP
        have hD : va_D A (w_X2 y a h_shutBits h_airs h_crownedBits h_sitters h_onBits h_turn x3 h_warmth h_kind h_figure h_airCell h_way h_seat h_shawls_9 h_count h_steps h_numbers) := hD
        refine lv_goto (tgt := 65) hx hb dX2_leapOver_48 (by decide) ?_
        obtain ⟨rfl, rfl, rfl⟩ := dq_r3 hf
        exact ct_vret hx hb hr hlocks hAe hP hK hD hS dX2_leapOver_65
    · have hf := dq_f hf c2
      clear c2
      obtain ⟨rfl, rfl, rfl⟩ := dq_r3 hf
      exact ct_vret hx hb hr hlocks hAe hP hK hD hS dX2_leapOver_12
noncomputable def f_X2_arrive (h_turn : Int32) (h_warmth : (Nat → UInt32)) (h_kind : (Nat → Int32)) (h_figure : (Nat → Int32)) (h_airCell : (Nat → Int32)) (h_way : (Nat → Int32)) (n0 : Int32) (n1 : Int32) (n2 : Int32) : Option ((Nat → UInt32) × (Nat → Int32) × (Nat → Int32)) := dq_if (n1 < 0) (some (h_warmth, h_airCell, h_way)) (dq_if (n1 < (36 : Int32)) (dq_gd (vp_in n0 5) (dq_let (upd h_airCell n0.toNatClampNeg n1) (fun (h_airCell_4 : (Nat → Int32)) => dq_gd (vp_in n0 5) (dq_let (upd h_way n0.toNatClampNeg n2) (fun (h_way_6 : (Nat → Int32)) => dq_gd (vp_in n0 5) (dq_gd (vp_in n0 5) (dq_gd (vp_in n1 36) (dq_bd (f_X0_chills (h_kind n0.toNatClampNeg) (h_figure n0.toNatClampNeg) h_turn (h_warmth n1.toNatClampNeg)) (fun (x10 : UInt32) => dq_bd (f_X1_held x10) (fun (x12 : UInt32) => dq_gd (vp_in n1 36) (dq_let (vf_upd h_warmth n1.toNatClampNeg x12) (fun (h_warmth_15 : (Nat → UInt32)) => some (h_warmth_15, h_airCell_4, h_way_6))))))))))))) (some (h_warmth, h_airCell, h_way)))
def wA_X2_arrive : List Cond := .code yX2_arrive cX2_arrive 4 none :: wsL_law
-- DraughtsTake$House.arrive(III)V
set_option maxHeartbeats 4000000 in
set_option maxRecDepth 100000 in
theorem m_X2_arrive (l : Launch) (D : va_G) (y : Nat → ClassId) (a : (Nat → Nat)) (h_shutBits : Int64) (h_airs : Int32) (h_crownedBits : Int32) (h_sitters : Int32) (h_onBits : Int32) (h_turn : Int32) (h_taken : Int32) (h_warmth : (Nat → UInt32)) (h_kind : (Nat → Int32)) (h_figure : (Nat → Int32)) (h_airCell : (Nat → Int32)) (h_way : (Nat → Int32)) (h_seat : (Nat → Int32)) (h_shawls : (Nat → Int32)) (h_count : Int32) (h_steps : (Nat → Int32)) (h_numbers : (Nat → Int32)) (n0 : Int32) (n1 : Int32) (n2 : Int32) (z0 : (Nat → UInt32)) (z1 : (Nat → Int32)) (z2 : (Nat → Int32)) (hf : f_X2_arrive h_turn h_warmth h_kind h_figure h_airCell h_way n0 n1 n2 = some (z0, z1, z2)) : Ct l D y yX2_arrive wA_X2_arrive 2 44 [.ref (a 0), .int n0, .int n1, .int n2] (w_X2 y a h_shutBits h_airs h_crownedBits h_sitters h_onBits h_turn h_taken h_warmth h_kind h_figure h_airCell h_way h_seat h_shawls h_count h_steps h_numbers) (w_X2 y a h_shutBits h_airs h_crownedBits h_sitters h_onBits h_turn h_taken z0 h_kind h_figure z1 z2 h_seat h_shawls h_count h_steps h_numbers) none := by
  refine ct_head (cc := cX2_arrive) (n := 4) (ret := none) (by decide) rfl (Nat.le_of_ble_eq_true rfl) ?_
  intro p e s m below meth c A ls hx hb hr hml hown hlocks hts hA hAe hP hK hD hl
  have hS : va_S A s.heap s.heap [] := va_S.rf
  have hl : lv_has ls 4 [(0, .ref (a 0)), (1, .int n0), (2, .int n1), (3, .int n2)] := hl
  have hown : s.vm.findClass RX2 = some m.cls := hown
  have hts : ∀ w ∈ wsL_law, w.before [.ref (a 0), .int n0, .int n1, .int n2].toArray s = true := fun w h => hts w (List.mem_cons_of_mem _ h)
  unfold f_X2_arrive at hf
  refine lv_iload_n hx hb dX2_arrive_0 rfl (lv_at hl 2 rfl) ?_
  refine lv_if_lt (tgt := 10) hx hb dX2_arrive_1 (by decide) (fun c1 => ?_) (fun c1 => ?_)
  · have hf := dq_t hf c1
    clear c1
    obtain ⟨rfl, rfl, rfl⟩ := dq_r3 hf
    exact ct_vret hx hb hr hlocks hAe hP hK hD hS dX2_arrive_10
  · have hf := dq_f hf c1
    clear c1
    refine lv_iload_n hx hb dX2_arrive_4 rfl (lv_at hl 2 rfl) ?_
    refine lv_bipush (v := 36) hx hb dX2_arrive_5 (by decide) ?_
    refine lv_icmp_lt (tgt := 11) hx hb dX2_arrive_7 (by decide) (fun c2 => ?_) (fun c2 => ?_)
    · have hf := dq_t hf c2
      clear c2
      refine lv_aload_n hx hb dX2_arrive_11 rfl (lv_at hl 0 rfl) ?_
      refine va_get (D := D) (ci := 1) (v := .ref (a 4)) (C := RX2) (T := TX2) (N := 15) hx hb hts iwX2 hown hK hP 0 rfl rfl 5 (by decide) (hts _ wl_43) (fun _ h9 => h9) rfl dX2_arrive_12 ?_
      refine lv_iload_n hx hb dX2_arrive_15 rfl (lv_at hl 1 rfl) ?_
      refine lv_iload_n hx hb dX2_arrive_16 rfl (lv_at hl 2 rfl) ?_
      obtain ⟨h3, hf⟩ := dq_g hf
      refine dq_iast (cA := y 1) (n := 5) (f := h_airCell) hx hb hK hP hD hS 4 1 rfl rfl h3 dX2_arrive_17 (fun h_airCell_4 eh_airCell_4 H locs hP hD hS => ?_)
      have hf := dq_l hf h_airCell_4 eh_airCell_4
      clear eh_airCell_4
      have hP : va_P D vwCl (w_X2 y a h_shutBits h_airs h_crownedBits h_sitters h_onBits h_turn h_taken h_warmth h_kind h_figure h_airCell_4 h_way h_seat h_shawls h_count h_steps h_numbers) H := hP
      have hD : va_D A (w_X2 y a h_shutBits h_airs h_crownedBits h_sitters h_onBits h_turn h_taken h_warmth h_kind h_figure h_airCell_4 h_way h_seat h_shawls h_count h_steps h_numbers) := hD
      refine lv_aload_n hx hb dX2_arrive_18 rfl (lv_at hl 0 rfl) ?_
      refine va_get (D := D) (ci := 1) (v := .ref (a 5)) (C := RX2) (T := TX2) (N := 15) hx hb hts iwX2 hown hK hP 0 rfl rfl 6 (by decide) (hts _ wl_44) (fun _ h9 => h9) rfl dX2_arrive_19 ?_
      refine lv_iload_n hx hb dX2_arrive_22 rfl (lv_at hl 1 rfl) ?_
      refine lv_iload_n hx hb dX2_arrive_23 rfl (lv_at hl 3 rfl) ?_
      obtain ⟨h5, hf⟩ := dq_g hf
      refine dq_iast (cA := y 1) (n := 5) (f := h_way) hx hb hK hP hD hS 5 1 rfl rfl h5 dX2_arrive_24 (fun h_way_6 eh_way_6 H locs hP hD hS => ?_)
      have hf := dq_l hf h_way_6 eh_way_6
      clear eh_way_6
      have hP : va_P D vwCl (w_X2 y a h_shutBits h_airs h_crownedBits h_sitters h_onBits h_turn h_taken h_warmth h_kind h_figure h_airCell_4 h_way_6 h_seat h_shawls h_count h_steps h_numbers) H := hP
      have hD : va_D A (w_X2 y a h_shutBits h_airs h_crownedBits h_sitters h_onBits h_turn h_taken h_warmth h_kind h_figure h_airCell_4 h_way_6 h_seat h_shawls h_count h_steps h_numbers) := hD
      refine lv_aload_n hx hb dX2_arrive_25 rfl (lv_at hl 0 rfl) ?_
      refine va_get (D := D) (ci := 1) (v := .ref (a 1)) (C := RX2) (T := TX2) (N := 15) hx hb hts iwX2 hown hK hP 0 rfl rfl 0 (by decide) (hts _ wl_40) (fun _ h9 => h9) rfl dX2_arrive_26 ?_
      refine lv_iload_n hx hb dX2_arrive_29 rfl (lv_at hl 2 rfl) ?_
      refine lv_aload_n hx hb dX2_arrive_30 rfl (lv_at hl 0 rfl) ?_
      refine va_get (D := D) (ci := 1) (v := .ref (a 2)) (C := RX2) (T := TX2) (N := 15) hx hb hts iwX2 hown hK hP 0 rfl rfl 3 (by decide) (hts _ wl_41) (fun _ h9 => h9) rfl dX2_arrive_31 ?_
      refine lv_iload_n hx hb dX2_arrive_34 rfl (lv_at hl 1 rfl) ?_
      obtain ⟨h7, hf⟩ := dq_g hf
      refine va_iald (cA := y 1) (n := 5) (f := h_kind) hx hb hK hP 2 1 rfl rfl h7 dX2_arrive_35 ?_
      refine lv_aload_n hx hb dX2_arrive_36 rfl (lv_at hl 0 rfl) ?_
      refine va_get (D := D) (ci := 1) (v := .ref (a 3)) (C := RX2) (T := TX2) (N := 15) hx hb hts iwX2 hown hK hP 0 rfl rfl 4 (by decide) (hts _ wl_42) (fun _ h9 => h9) rfl dX2_arrive_37 ?_
      refine lv_iload_n hx hb dX2_arrive_40 rfl (lv_at hl 1 rfl) ?_
      obtain ⟨h8, hf⟩ := dq_g hf
      refine va_iald (cA := y 1) (n := 5) (f := h_figure) hx hb hK hP 3 1 rfl rfl h8 dX2_arrive_41 ?_
      refine lv_aload_n hx hb dX2_arrive_42 rfl (lv_at hl 0 rfl) ?_
      refine va_get (D := D) (ci := 1) (v := .int h_turn) (C := RX2) (T := TX2) (N := 15) hx hb hts iwX2 hown hK hP 0 rfl rfl 12 (by decide) (hts _ wl_189) (fun _ h9 => h9) rfl dX2_arrive_43 ?_
      refine lv_aload_n hx hb dX2_arrive_46 rfl (lv_at hl 0 rfl) ?_
      refine va_get (D := D) (ci := 1) (v := .ref (a 1)) (C := RX2) (T := TX2) (N := 15) hx hb hts iwX2 hown hK hP 0 rfl rfl 0 (by decide) (hts _ wl_40) (fun _ h9 => h9) rfl dX2_arrive_47 ?_
      refine lv_iload_n hx hb dX2_arrive_50 rfl (lv_at hl 2 rfl) ?_
      obtain ⟨h9, hf⟩ := dq_g hf
      refine va_fald (cA := y 0) (n := 36) (f := h_warmth) hx hb hK hP 1 0 rfl rfl h9 dX2_arrive_51 ?_
      obtain ⟨x10, hy11, hf⟩ := dq_b hf
      refine ct_callS0 (own := RX2) (As := [.int (h_kind n0.toNatClampNeg), .int (h_figure n0.toNatClampNeg), .int h_turn, .float (h_warmth n1.toNatClampNeg)]) (rest := [.int n1, .ref (a 1)]) ⟨hx, hb, hml, hown, hts⟩ (m_X0_chills l D y (h_kind n0.toNatClampNeg) (h_figure n0.toNatClampNeg) h_turn (h_warmth n1.toNatClampNeg) x10 hy11) (va_cwS 4 hts (gA_S wl_320 wl_321 wl_289 wl_322) rfl rfl rfl (by decide +kernel) ⟨Nat.le_of_ble_eq_true rfl, Nat.le_of_ble_eq_true rfl⟩) rfl hl.1 rfl (Nat.le_of_ble_eq_true rfl) dX2_arrive_52 ⟨Nat.zero_le _, Nat.zero_le _⟩ hK hP hD hS hA (fun H locs hP hD hS => ?_)
      obtain ⟨x12, hy13, hf⟩ := dq_b hf
      refine ct_callS0 (own := RX2) (As := [.float x10]) (rest := [.int n1, .ref (a 1)]) ⟨hx, hb, hml, hown, hts⟩ (m_X1_held l D y x10 x12 hy13) (va_cwS 1 hts (gA_S wl_335 wl_279 wl_49 wl_280) rfl rfl rfl (by decide +kernel) ⟨Nat.le_of_ble_eq_true rfl, Nat.le_of_ble_eq_true rfl⟩) rfl hl.1 rfl (Nat.le_of_ble_eq_true rfl) dX2_arrive_55 ⟨Nat.zero_le _, Nat.zero_le _⟩ hK hP hD hS hA (fun H locs hP hD hS => ?_)
      obtain ⟨h14, hf⟩ := dq_g hf
      refine dq_fast (cA := y 0) (n := 36) (f := h_warmth) hx hb hK hP hD hS 1 0 rfl rfl h14 dX2_arrive_58 (fun h_warmth_15 eh_warmth_15 H locs hP hD hS => ?_)
      have hf := dq_l hf h_warmth_15 eh_warmth_15
      clear eh_warmth_15
      have hP : va_P D vwCl (w_X2 y a h_shutBits h_airs h_crownedBits h_sitters h_onBits h_turn h_taken h_warmth_15 h_kind h_figure h_airCell_4 h_way_6 h_seat h_shawls h_count h_steps h_numbers) H := hP
      have hD : va_D A (w_X2 y a h_shutBits h_airs h_crownedBits h_sitters h_onBits h_turn h_taken h_warmth_15 h_kind h_figure h_airCell_4 h_way_6 h_seat h_shawls h_count h_steps h_numbers) := hD
      obtain ⟨rfl, rfl, rfl⟩ := dq_r3 hf
      exact ct_vret hx hb hr hlocks hAe hP hK hD hS dX2_arrive_59
    · have hf := dq_f hf c2
      clear c2
      obtain ⟨rfl, rfl, rfl⟩ := dq_r3 hf
      exact ct_vret hx hb hr hlocks hAe hP hK hD hS dX2_arrive_10
noncomputable def f_X2_wayToWalk_b16 (n0 : Int32) (h_shutBits : Int64) (h_airs : Int32) (h_sitters : Int32) (h_onBits : Int32) (h_airCell : (Nat → Int32)) (h_way : (Nat → Int32)) (h_seat : (Nat → Int32)) (x3 : Int32)  : Nat → Int32 → Option Int32
  | 0, _ => none
  | m16 + 1, x4 => dq_if (x3 ≤ x4) (some (-1 : Int32)) (dq_gd (vp_in n0 5) (dq_let (((h_way n0.toNatClampNeg) + x4) - ((h_way n0.toNatClampNeg) + x4) / (4 : Int32) * (4 : Int32)) (fun (x7 : Int32) => dq_gd (vp_in n0 5) (dq_bd (f_X2_nextCell (h_airCell n0.toNatClampNeg) x7) (fun (x9 : Int32) => dq_if (x9 < 0) (dq_let (x4 + (1 : Int32)) (fun (x12 : Int32) => (f_X2_wayToWalk_b16 n0 h_shutBits h_airs h_sitters h_onBits h_airCell h_way h_seat x3 m16) x12)) (dq_bd (f_X2_isFree h_shutBits h_airs h_sitters h_onBits h_airCell h_seat x9) (fun (x13 : Int32) => dq_if (x13 = 0) (dq_let (x4 + (1 : Int32)) (fun (x16 : Int32) => (f_X2_wayToWalk_b16 n0 h_shutBits h_airs h_sitters h_onBits h_airCell h_way h_seat x3 m16) x16)) (some x7))))))))
noncomputable def f_X2_wayToWalk_b13 (n0 : Int32) (h_shutBits : Int64) (h_airs : Int32) (h_sitters : Int32) (h_onBits : Int32) (h_airCell : (Nat → Int32)) (h_way : (Nat → Int32)) (h_seat : (Nat → Int32))  (x3 : Int32) : Option Int32 := f_X2_wayToWalk_b16 n0 h_shutBits h_airs h_sitters h_onBits h_airCell h_way h_seat x3 4096 (0 : Int32)
noncomputable def f_X2_wayToWalk (h_shutBits : Int64) (h_airs : Int32) (h_crownedBits : Int32) (h_sitters : Int32) (h_onBits : Int32) (h_airCell : (Nat → Int32)) (h_way : (Nat → Int32)) (h_seat : (Nat → Int32)) (n0 : Int32) : Option Int32 := dq_bd (f_X2_isCrowned h_crownedBits n0) (fun (x1 : Int32) => dq_if (x1 = 0) (f_X2_wayToWalk_b13 n0 h_shutBits h_airs h_sitters h_onBits h_airCell h_way h_seat (2 : Int32)) (f_X2_wayToWalk_b13 n0 h_shutBits h_airs h_sitters h_onBits h_airCell h_way h_seat (4 : Int32)))
def wA_X2_wayToWalk : List Cond := .code yX2_wayToWalk cX2_wayToWalk 6 (some .int) :: wsL_law
-- DraughtsTake$House.wayToWalk(I)I
set_option maxHeartbeats 4000000 in
set_option maxRecDepth 100000 in
theorem m_X2_wayToWalk (l : Launch) (D : va_G) (y : Nat → ClassId) (a : (Nat → Nat)) (h_shutBits : Int64) (h_airs : Int32) (h_crownedBits : Int32) (h_sitters : Int32) (h_onBits : Int32) (h_turn : Int32) (h_taken : Int32) (h_warmth : (Nat → UInt32)) (h_kind : (Nat → Int32)) (h_figure : (Nat → Int32)) (h_airCell : (Nat → Int32)) (h_way : (Nat → Int32)) (h_seat : (Nat → Int32)) (h_shawls : (Nat → Int32)) (h_count : Int32) (h_steps : (Nat → Int32)) (h_numbers : (Nat → Int32)) (n0 : Int32) (z0 : Int32) (hf : f_X2_wayToWalk h_shutBits h_airs h_crownedBits h_sitters h_onBits h_airCell h_way h_seat n0 = some z0) : Ct l D y yX2_wayToWalk wA_X2_wayToWalk 2 43 [.ref (a 0), .int n0] (w_X2 y a h_shutBits h_airs h_crownedBits h_sitters h_onBits h_turn h_taken h_warmth h_kind h_figure h_airCell h_way h_seat h_shawls h_count h_steps h_numbers) (w_X2 y a h_shutBits h_airs h_crownedBits h_sitters h_onBits h_turn h_taken h_warmth h_kind h_figure h_airCell h_way h_seat h_shawls h_count h_steps h_numbers) (some (.int z0)) := by
  refine ct_head (cc := cX2_wayToWalk) (n := 6) (ret := (some .int)) (by decide) rfl (Nat.le_of_ble_eq_true rfl) ?_
  intro p e s m below meth c A ls hx hb hr hml hown hlocks hts hA hAe hP hK hD hl
  have hS : va_S A s.heap s.heap [] := va_S.rf
  have hl : lv_has ls 6 [(0, .ref (a 0)), (1, .int n0)] := hl
  have hown : s.vm.findClass RX2 = some m.cls := hown
  have hts : ∀ w ∈ wsL_law, w.before [.ref (a 0), .int n0].toArray s = true := fun w h => hts w (List.mem_cons_of_mem _ h)
  unfold f_X2_wayToWalk at hf
  refine lv_aload_n hx hb dX2_wayToWalk_0 rfl (lv_at hl 0 rfl) ?_
  refine lv_iload_n hx hb dX2_wayToWalk_1 rfl (lv_at hl 1 rfl) ?_
  obtain ⟨x1, hy2, hf⟩ := dq_b hf
  refine ct_callV0 (ci := 1) (q0 := 0) (own := RX2) (As := [.int n0]) (rest := []) (ws' := (w_X2 y a h_shutBits h_airs h_crownedBits h_sitters h_onBits h_turn h_taken h_warmth h_kind h_figure h_airCell h_way h_seat h_shawls h_count h_steps h_numbers)) ⟨hx, hb, hml, hown, hts⟩ (m_X2_isCrowned l D y a h_shutBits h_airs h_crownedBits h_sitters h_onBits h_turn h_taken h_warmth h_kind h_figure h_airCell h_way h_seat h_shawls h_count h_steps h_numbers n0 x1 hy2) (cwV 1 hts (gA_V wl_302 wl_303 wl_304 wl_14 wl_305) rfl rfl rfl (by decide +kernel) ⟨Nat.le_of_ble_eq_true rfl, Nat.le_of_ble_eq_true rfl⟩) rfl rfl rfl hl.1 rfl (Nat.le_of_ble_eq_true rfl) dX2_wayToWalk_2 ⟨Nat.zero_le _, Nat.zero_le _⟩ hK hP hD hS hA (fun H locs hP hD hS => ?_)
  have J13 : ∀ (x3 : Int32), f_X2_wayToWalk_b13 n0 h_shutBits h_airs h_sitters h_onBits h_airCell h_way h_seat x3 = some z0 → ∀ (H : Heap) (locs : List Loc), va_P D vwCl (w_X2 y a h_shutBits h_airs h_crownedBits h_sitters h_onBits h_turn h_taken h_warmth h_kind h_figure h_airCell h_way h_seat h_shawls h_count h_steps h_numbers) H → va_D A (w_X2 y a h_shutBits h_airs h_crownedBits h_sitters h_onBits h_turn h_taken h_warmth h_kind h_figure h_airCell h_way h_seat h_shawls h_count h_steps h_numbers) → va_S A s.heap H locs → ∀ ls : Array Slot, lv_has ls 6 [(0, .ref (a 0)), (1, .int n0)] → W p l e ({ frames := 2, cells := 0, slots := 0, locals := 43 } : Room) s m [.ref (a 0), .int n0].toArray below meth c H locs 0 0 (MQ below (dQ D y (some (.int z0)) s.heap.size (w_X2 y a h_shutBits h_airs h_crownedBits h_sitters h_onBits h_turn h_taken h_warmth h_kind h_figure h_airCell h_way h_seat h_shawls h_count h_steps h_numbers) (w_X2 y a h_shutBits h_airs h_crownedBits h_sitters h_onBits h_turn h_taken h_warmth h_kind h_figure h_airCell h_way h_seat h_shawls h_count h_steps h_numbers)) [.ref (a 0), .int n0].toArray s 0 0 A) (F0 m 13 ls [.int x3]) := by
    intro x3 hf H locs hP hD hS ls hl
    unfold f_X2_wayToWalk_b13 at hf
    refine lv_istore_n (lv' := [(2, .int x3), (0, .ref (a 0)), (1, .int n0)]) hx hb dX2_wayToWalk_13 rfl hl (by decide) rfl (fun ls hl => ?_)
    refine lv_iconst (v := 0) hx hb dX2_wayToWalk_14 (by decide) ?_
    refine lv_istore_n (lv' := [(3, .int (0 : Int32)), (2, .int x3), (0, .ref (a 0)), (1, .int n0)]) hx hb dX2_wayToWalk_15 rfl hl (by decide) rfl (fun ls hl => ?_)
    have J16 : ∀ (m16 : Nat) (x4 : Int32), f_X2_wayToWalk_b16 n0 h_shutBits h_airs h_sitters h_onBits h_airCell h_way h_seat x3 m16 x4 = some z0 → ∀ (H : Heap) (locs : List Loc), va_P D vwCl (w_X2 y a h_shutBits h_airs h_crownedBits h_sitters h_onBits h_turn h_taken h_warmth h_kind h_figure h_airCell h_way h_seat h_shawls h_count h_steps h_numbers) H → va_D A (w_X2 y a h_shutBits h_airs h_crownedBits h_sitters h_onBits h_turn h_taken h_warmth h_kind h_figure h_airCell h_way h_seat h_shawls h_count h_steps h_numbers) → va_S A s.heap H locs → ∀ ls : Array Slot, lv_has ls 6 [(0, .ref (a 0)), (1, .int n0), (2, .int x3), (3, .int x4)] → W p l e ({ frames := 2, cells := 0, slots := 0, locals := 43 } : Room) s m [.ref (a 0), .int n0].toArray below meth c H locs 0 0 (MQ below (dQ D y (some (.int z0)) s.heap.size (w_X2 y a h_shutBits h_airs h_crownedBits h_sitters h_onBits h_turn h_taken h_warmth h_kind h_figure h_airCell h_way h_seat h_shawls h_count h_steps h_numbers) (w_X2 y a h_shutBits h_airs h_crownedBits h_sitters h_onBits h_turn h_taken h_warmth h_kind h_figure h_airCell h_way h_seat h_shawls h_count h_steps h_numbers)) [.ref (a 0), .int n0].toArray s 0 0 A) (F0 m 16 ls []) := by
      intro m16
      induction m16 with
      | zero => intro x4 hf; exact absurd hf (by unfold f_X2_wayToWalk_b16; exact fun h => by cases h)
      | succ m16 I16 =>
        intro x4 hf H locs hP hD hS ls hl
        unfold f_X2_wayToWalk_b16 at hf
        refine lv_iload_n hx hb dX2_wayToWalk_16 rfl (lv_at hl 3 rfl) ?_
        refine lv_iload_n hx hb dX2_wayToWalk_17 rfl (lv_at hl 2 rfl) ?_
        refine lv_icmp_ge (tgt := 69) hx hb dX2_wayToWalk_18 (by decide) (fun c5 => ?_) (fun c5 => ?_)
        · have hf := dq_t hf c5
          clear c5
          refine lv_iconst (v := -1) hx hb dX2_wayToWalk_69 (by decide) ?_
          obtain rfl := dq_r1 hf
          exact ct_iret hx hb hr hlocks hAe hP hK hD hS dX2_wayToWalk_70
        · have hf := dq_f hf c5
          clear c5
          refine lv_aload_n hx hb dX2_wayToWalk_21 rfl (lv_at hl 0 rfl) ?_
          refine va_get (D := D) (ci := 1) (v := .ref (a 5)) (C := RX2) (T := TX2) (N := 15) hx hb hts iwX2 hown hK hP 0 rfl rfl 6 (by decide) (hts _ wl_44) (fun _ h9 => h9) rfl dX2_wayToWalk_22 ?_
          refine lv_iload_n hx hb dX2_wayToWalk_25 rfl (lv_at hl 1 rfl) ?_
          obtain ⟨h6, hf⟩ := dq_g hf
          refine va_iald (cA := y 1) (n := 5) (f := h_way) hx hb hK hP 5 1 rfl rfl h6 dX2_wayToWalk_26 ?_
          refine lv_iload_n hx hb dX2_wayToWalk_27 rfl (lv_at hl 3 rfl) ?_
          refine lv_iadd hx hb dX2_wayToWalk_28 ?_
          refine lv_iconst (v := 4) hx hb dX2_wayToWalk_29 (by decide) ?_
          refine lv_irem hx hb dX2_wayToWalk_30 (by decide) ?_
          refine lv_topi (fun x7 ex7 => ?_)
          have hf := dq_l hf x7 ex7
          clear ex7
          refine lv_istore (lv' := [(4, .int x7), (0, .ref (a 0)), (1, .int n0), (2, .int x3), (3, .int x4)]) hx hb dX2_wayToWalk_31 hl (by decide) rfl (fun ls hl => ?_)
          refine lv_aload_n hx hb dX2_wayToWalk_33 rfl (lv_at hl 1 rfl) ?_
          refine va_get (D := D) (ci := 1) (v := .ref (a 4)) (C := RX2) (T := TX2) (N := 15) hx hb hts iwX2 hown hK hP 0 rfl rfl 5 (by decide) (hts _ wl_43) (fun _ h9 => h9) rfl dX2_wayToWalk_34 ?_
          refine lv_iload_n hx hb dX2_wayToWalk_37 rfl (lv_at hl 2 rfl) ?_
          obtain ⟨h8, hf⟩ := dq_g hf
          refine va_iald (cA := y 1) (n := 5) (f := h_airCell) hx hb hK hP 4 1 rfl rfl h8 dX2_wayToWalk_38 ?_
          refine lv_iload hx hb dX2_wayToWalk_39 (lv_at hl 0 rfl) ?_
          obtain ⟨x9, hy10, hf⟩ := dq_b hf
          refine ct_callS0 (own := RX2) (As := [.int (h_airCell n0.toNatClampNeg), .int x7]) (rest := []) ⟨hx, hb, hml, hown, hts⟩ (m_X2_nextCell l D y (h_airCell n0.toNatClampNeg) x7 x9 hy10) (va_cwS 2 hts (gA_S wl_306 wl_307 wl_14 wl_308) rfl rfl rfl (by decide +kernel) ⟨Nat.le_of_ble_eq_true rfl, Nat.le_of_ble_eq_true rfl⟩) rfl hl.1 rfl (Nat.le_of_ble_eq_true rfl) dX2_wayToWalk_41 ⟨Nat.zero_le _, Nat.zero_le _⟩ hK hP hD hS hA (fun H locs hP hD hS => ?_)
          refine lv_istore (lv' := [(5, .int x9), (4, .int x7), (0, .ref (a 0)), (1, .int n0), (2, .int x3), (3, .int x4)]) hx hb dX2_wayToWalk_44 hl (by decide) rfl (fun ls hl => ?_)
          refine lv_iload hx hb dX2_wayToWalk_46 (lv_at hl 0 rfl) ?_
          refine lv_if_lt (tgt := 63) hx hb dX2_wayToWalk_48 (by decide) (fun c11 => ?_) (fun c11 => ?_)
          · have hf := dq_t hf c11
            clear c11
            obtain ⟨x12, ex12⟩ : ∃ z : Int32, z = (x4 + (1 : Int32)) := ⟨_, rfl⟩
            have hf := dq_l hf x12 ex12
            refine lv_iinc (v := x12) (lv' := [(3, .int x12), (5, .int x9), (4, .int x7), (0, .ref (a 0)), (1, .int n0), (2, .int x3)]) hx hb dX2_wayToWalk_63 hl (k := 5) rfl (by rw [ex12]; rfl) (by decide) rfl (fun ls hl => ?_)
            clear ex12
            refine lv_goto (tgt := 16) hx hb dX2_wayToWalk_66 (by decide) ?_
            exact I16 _ hf _ _ hP hD hS _ (lv_sub hl [3, 4, 5, 0] rfl)
          · have hf := dq_f hf c11
            clear c11
            refine lv_aload_n hx hb dX2_wayToWalk_51 rfl (lv_at hl 2 rfl) ?_
            refine lv_iload hx hb dX2_wayToWalk_52 (lv_at hl 0 rfl) ?_
            obtain ⟨x13, hy14, hf⟩ := dq_b hf
            refine ct_callV0 (ci := 1) (q0 := 0) (own := RX2) (As := [.int x9]) (rest := []) (ws' := (w_X2 y a h_shutBits h_airs h_crownedBits h_sitters h_onBits h_turn h_taken h_warmth h_kind h_figure h_airCell h_way h_seat h_shawls h_count h_steps h_numbers)) ⟨hx, hb, hml, hown, hts⟩ (m_X2_isFree l D y a h_shutBits h_airs h_crownedBits h_sitters h_onBits h_turn h_taken h_warmth h_kind h_figure h_airCell h_way h_seat h_shawls h_count h_steps h_numbers x9 x13 hy14) (cwV 1 hts (gA_V wl_215 wl_216 wl_217 wl_14 wl_218) rfl rfl rfl (by decide +kernel) ⟨Nat.le_of_ble_eq_true rfl, Nat.le_of_ble_eq_true rfl⟩) rfl rfl rfl hl.1 rfl (Nat.le_of_ble_eq_true rfl) dX2_wayToWalk_54 ⟨Nat.zero_le _, Nat.zero_le _⟩ hK hP hD hS hA (fun H locs hP hD hS => ?_)
            refine lv_if_eq (tgt := 63) hx hb dX2_wayToWalk_57 (by decide) (fun c15 => ?_) (fun c15 => ?_)
            · have hf := dq_t hf c15
              clear c15
              obtain ⟨x16, ex16⟩ : ∃ z : Int32, z = (x4 + (1 : Int32)) := ⟨_, rfl⟩
              have hf := dq_l hf x16 ex16
              refine lv_iinc (v := x16) (lv' := [(3, .int x16), (5, .int x9), (4, .int x7), (0, .ref (a 0)), (1, .int n0), (2, .int x3)]) hx hb dX2_wayToWalk_63 hl (k := 5) rfl (by rw [ex16]; rfl) (by decide) rfl (fun ls hl => ?_)
              clear ex16
              refine lv_goto (tgt := 16) hx hb dX2_wayToWalk_66 (by decide) ?_
              exact I16 _ hf _ _ hP hD hS _ (lv_sub hl [3, 4, 5, 0] rfl)
            · have hf := dq_f hf c15
              clear c15
              refine lv_iload hx hb dX2_wayToWalk_60 (lv_at hl 1 rfl) ?_
              obtain rfl := dq_r1 hf
              exact ct_iret hx hb hr hlocks hAe hP hK hD hS dX2_wayToWalk_62
    exact J16 4096 _ hf _ _ hP hD hS _ (lv_sub hl [2, 3, 1, 0] rfl)
  refine lv_if_eq (tgt := 12) hx hb dX2_wayToWalk_5 (by decide) (fun c17 => ?_) (fun c17 => ?_)
  · have hf := dq_t hf c17
    clear c17
    refine lv_iconst (v := 2) hx hb dX2_wayToWalk_12 (by decide) ?_
    exact J13 _ hf _ _ hP hD hS _ (lv_sub hl [0, 1] rfl)
  · have hf := dq_f hf c17
    clear c17
    refine lv_iconst (v := 4) hx hb dX2_wayToWalk_8 (by decide) ?_
    refine lv_goto (tgt := 13) hx hb dX2_wayToWalk_9 (by decide) ?_
    exact J13 _ hf _ _ hP hD hS _ (lv_sub hl [0, 1] rfl)
