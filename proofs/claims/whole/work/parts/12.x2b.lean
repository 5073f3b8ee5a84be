noncomputable def f_X2_blow_b163 (n0 : Int32) (h_crownedBits : Int32) (h_onBits_7 : Int32) (h_taken_8 : Int32) (h_shawls_12 : (Nat → Int32)) (h_warmth_13 : (Nat → UInt32)) (h_airCell_14 : (Nat → Int32)) (h_way_15 : (Nat → Int32))   : Option (Int32 × Int32 × Int32 × (Nat → UInt32) × (Nat → Int32) × (Nat → Int32) × (Nat → Int32)) := dq_let (h_crownedBits ||| ((1 : Int32) <<< (n0 &&& 31))) (fun (x18 : Int32) => some (x18, h_onBits_7, h_taken_8, h_warmth_13, h_airCell_14, h_way_15, h_shawls_12))
noncomputable def f_X2_blow_b141 (n0 : Int32) (h_crownedBits : Int32) (h_onBits_7 : Int32) (h_taken_8 : Int32) (h_shawls_12 : (Nat → Int32))  (h_warmth_13 : (Nat → UInt32)) (h_airCell_14 : (Nat → Int32)) (h_way_15 : (Nat → Int32)) : Option (Int32 × Int32 × Int32 × (Nat → UInt32) × (Nat → Int32) × (Nat → Int32) × (Nat → Int32)) := dq_gd (vp_in n0 5) (dq_let ((h_airCell_14 n0.toNatClampNeg) / (6 : Int32)) (fun (x17 : Int32) => dq_if (x17 = 0) (f_X2_blow_b163 n0 h_crownedBits h_onBits_7 h_taken_8 h_shawls_12 h_warmth_13 h_airCell_14 h_way_15) (dq_if (x17 = (5 : Int32)) (f_X2_blow_b163 n0 h_crownedBits h_onBits_7 h_taken_8 h_shawls_12 h_warmth_13 h_airCell_14 h_way_15) (some (h_crownedBits, h_onBits_7, h_taken_8, h_warmth_13, h_airCell_14, h_way_15, h_shawls_12)))))
noncomputable def f_X2_blow_b88 (n0 : Int32) (h_shutBits : Int64) (h_airs : Int32) (h_crownedBits : Int32) (h_sitters : Int32) (h_turn : Int32) (h_kind : (Nat → Int32)) (h_figure : (Nat → Int32)) (h_seat : (Nat → Int32)) (x5 : Int32) (h_onBits_7 : Int32) (h_taken_8 : Int32) (h_warmth_9 : (Nat → UInt32)) (h_airCell_10 : (Nat → Int32)) (h_way_11 : (Nat → Int32)) (h_shawls_12 : (Nat → Int32))   : Option (Int32 × Int32 × Int32 × (Nat → UInt32) × (Nat → Int32) × (Nat → Int32) × (Nat → Int32)) := dq_if (x5 = 0) (dq_bd (f_X2_wayToWalk h_shutBits h_airs h_crownedBits h_sitters h_onBits_7 h_airCell_10 h_way_11 h_seat n0) (fun (x22 : Int32) => dq_if (0 ≤ x22) (dq_gd (vp_in n0 5) (dq_bd (f_X2_nextCell (h_airCell_10 n0.toNatClampNeg) x22) (fun (x26 : Int32) => dq_bd3 (f_X2_arrive h_turn h_warmth_9 h_kind h_figure h_airCell_10 h_way_11 n0 x26 x22) (fun (h_warmth_28 : (Nat → UInt32)) (h_airCell_29 : (Nat → Int32)) (h_way_30 : (Nat → Int32)) => f_X2_blow_b141 n0 h_crownedBits h_onBits_7 h_taken_8 h_shawls_12 h_warmth_28 h_airCell_29 h_way_30)))) (dq_gd (vp_in n0 5) (dq_gd (vp_in n0 5) (dq_let (upd h_way_11 n0.toNatClampNeg (((h_way_11 n0.toNatClampNeg) + (2 : Int32)) - ((h_way_11 n0.toNatClampNeg) + (2 : Int32)) / (4 : Int32) * (4 : Int32))) (fun (h_way_34 : (Nat → Int32)) => f_X2_blow_b141 n0 h_crownedBits h_onBits_7 h_taken_8 h_shawls_12 h_warmth_9 h_airCell_10 h_way_34)))))) (f_X2_blow_b141 n0 h_crownedBits h_onBits_7 h_taken_8 h_shawls_12 h_warmth_9 h_airCell_10 h_way_11)
noncomputable def f_X2_blow_b21 (n0 : Int32) (h_shutBits : Int64) (h_airs : Int32) (h_crownedBits : Int32) (h_sitters : Int32) (h_turn : Int32) (h_kind : (Nat → Int32)) (h_figure : (Nat → Int32)) (h_seat : (Nat → Int32)) (x3 : Int32)  : Nat → Int32 → Int32 → Int32 → Int32 → (Nat → UInt32) → (Nat → Int32) → (Nat → Int32) → (Nat → Int32) → Option (Int32 × Int32 × Int32 × (Nat → UInt32) × (Nat → Int32) × (Nat → Int32) × (Nat → Int32))
  | 0, _, _, _, _, _, _, _, _ => none
  | m21 + 1, x5, x6, h_onBits_7, h_taken_8, h_warmth_9, h_airCell_10, h_way_11, h_shawls_12 => dq_if (x3 ≤ x6) (f_X2_blow_b88 n0 h_shutBits h_airs h_crownedBits h_sitters h_turn h_kind h_figure h_seat x5 h_onBits_7 h_taken_8 h_warmth_9 h_airCell_10 h_way_11 h_shawls_12) (dq_bd (f_X2_wayToLeap h_shutBits h_airs h_crownedBits h_sitters h_onBits_7 h_airCell_10 h_way_11 h_seat n0) (fun (x36 : Int32) => dq_if (0 ≤ x36) (dq_gd (vp_in n0 5) (dq_bd (f_X2_nextCell (h_airCell_10 n0.toNatClampNeg) x36) (fun (x40 : Int32) => dq_bd (f_X2_sitterOn h_sitters h_onBits_7 h_seat x40) (fun (x42 : Int32) => dq_bd3 (f_X2_leapOver h_sitters h_onBits_7 h_taken_8 h_shawls_12 x42) (fun (h_onBits_44 : Int32) (h_taken_45 : Int32) (h_shawls_46 : (Nat → Int32)) => dq_bd (f_X2_nextCell x40 x36) (fun (x48 : Int32) => dq_bd3 (f_X2_arrive h_turn h_warmth_9 h_kind h_figure h_airCell_10 h_way_11 n0 x48 x36) (fun (h_warmth_50 : (Nat → UInt32)) (h_airCell_51 : (Nat → Int32)) (h_way_52 : (Nat → Int32)) => dq_let (x5 + (1 : Int32)) (fun (x54 : Int32) => dq_let (x6 + (1 : Int32)) (fun (x55 : Int32) => (f_X2_blow_b21 n0 h_shutBits h_airs h_crownedBits h_sitters h_turn h_kind h_figure h_seat x3 m21) x54 x55 h_onBits_44 h_taken_45 h_warmth_50 h_airCell_51 h_way_52 h_shawls_46))))))))) (f_X2_blow_b88 n0 h_shutBits h_airs h_crownedBits h_sitters h_turn h_kind h_figure h_seat x5 h_onBits_7 h_taken_8 h_warmth_9 h_airCell_10 h_way_11 h_shawls_12)))
noncomputable def f_X2_blow (h_shutBits : Int64) (h_airs : Int32) (h_crownedBits : Int32) (h_sitters : Int32) (h_onBits : Int32) (h_turn : Int32) (h_taken : Int32) (h_warmth : (Nat → UInt32)) (h_kind : (Nat → Int32)) (h_figure : (Nat → Int32)) (h_airCell : (Nat → Int32)) (h_way : (Nat → Int32)) (h_seat : (Nat → Int32)) (h_shawls : (Nat → Int32)) (n0 : Int32) : Option (Int32 × Int32 × Int32 × (Nat → UInt32) × (Nat → Int32) × (Nat → Int32) × (Nat → Int32)) := dq_gd (vp_in n0 5) (dq_gd (vp_in n0 5) (dq_bd (f_X0_leaps (h_kind n0.toNatClampNeg) (h_figure n0.toNatClampNeg)) (fun (x3 : Int32) => f_X2_blow_b21 n0 h_shutBits h_airs h_crownedBits h_sitters h_turn h_kind h_figure h_seat x3 4096 (0 : Int32) (0 : Int32) h_onBits h_taken h_warmth h_airCell h_way h_shawls)))
def wA_X2_blow : List Cond := .code yX2_blow cX2_blow 7 none :: wsL_law
-- DraughtsTake$House.blow(I)V
set_option maxHeartbeats 4000000 in
set_option maxRecDepth 100000 in
theorem m_X2_blow (l : Launch) (D : va_G) (y : Nat → ClassId) (a : (Nat → Nat)) (h_shutBits : Int64) (h_airs : Int32) (h_crownedBits : Int32) (h_sitters : Int32) (h_onBits : Int32) (h_turn : Int32) (h_taken : Int32) (h_warmth : (Nat → UInt32)) (h_kind : (Nat → Int32)) (h_figure : (Nat → Int32)) (h_airCell : (Nat → Int32)) (h_way : (Nat → Int32)) (h_seat : (Nat → Int32)) (h_shawls : (Nat → Int32)) (h_count : Int32) (h_steps : (Nat → Int32)) (h_numbers : (Nat → Int32)) (n0 : Int32) (z0 : Int32) (z1 : Int32) (z2 : Int32) (z3 : (Nat → UInt32)) (z4 : (Nat → Int32)) (z5 : (Nat → Int32)) (z6 : (Nat → Int32)) (hf : f_X2_blow h_shutBits h_airs h_crownedBits h_sitters h_onBits h_turn h_taken h_warmth h_kind h_figure h_airCell h_way h_seat h_shawls n0 = some (z0, z1, z2, z3, z4, z5, z6)) : Ct l D y yX2_blow wA_X2_blow 3 69 [.ref (a 0), .int n0] (w_X2 y a h_shutBits h_airs h_crownedBits h_sitters h_onBits h_turn h_taken h_warmth h_kind h_figure h_airCell h_way h_seat h_shawls h_count h_steps h_numbers) (w_X2 y a h_shutBits h_airs z0 h_sitters z1 h_turn z2 z3 h_kind h_figure z4 z5 h_seat z6 h_count h_steps h_numbers) none := by
  refine ct_head (cc := cX2_blow) (n := 7) (ret := none) (by decide) rfl (Nat.le_of_ble_eq_true rfl) ?_
  intro p e s m below meth c A ls hx hb hr hml hown hlocks hts hA hAe hP hK hD hl
  have hS : va_S A s.heap s.heap [] := va_S.rf
  have hl : lv_has ls 7 [(0, .ref (a 0)), (1, .int n0)] := hl
  have hown : s.vm.findClass RX2 = some m.cls := hown
  have hts : ∀ w ∈ wsL_law, w.before [.ref (a 0), .int n0].toArray s = true := fun w h => hts w (List.mem_cons_of_mem _ h)
  unfold f_X2_blow at hf
  refine lv_aload_n hx hb dX2_blow_0 rfl (lv_at hl 0 rfl) ?_
  refine va_get (D := D) (ci := 1) (v := .ref (a 2)) (C := RX2) (T := TX2) (N := 15) hx hb hts iwX2 hown hK hP 0 rfl rfl 3 (by decide) (hts _ wl_41) (fun _ h9 => h9) rfl dX2_blow_1 ?_
  refine lv_iload_n hx hb dX2_blow_4 rfl (lv_at hl 1 rfl) ?_
  obtain ⟨h1, hf⟩ := dq_g hf
  refine va_iald (cA := y 1) (n := 5) (f := h_kind) hx hb hK hP 2 1 rfl rfl h1 dX2_blow_5 ?_
  refine lv_aload_n hx hb dX2_blow_6 rfl (lv_at hl 0 rfl) ?_
  refine va_get (D := D) (ci := 1) (v := .ref (a 3)) (C := RX2) (T := TX2) (N := 15) hx hb hts iwX2 hown hK hP 0 rfl rfl 4 (by decide) (hts _ wl_42) (fun _ h9 => h9) rfl dX2_blow_7 ?_
  refine lv_iload_n hx hb dX2_blow_10 rfl (lv_at hl 1 rfl) ?_
  obtain ⟨h2, hf⟩ := dq_g hf
  refine va_iald (cA := y 1) (n := 5) (f := h_figure) hx hb hK hP 3 1 rfl rfl h2 dX2_blow_11 ?_
  obtain ⟨x3, hy4, hf⟩ := dq_b hf
  refine ct_callS0 (own := RX2) (As := [.int (h_kind n0.toNatClampNeg), .int (h_figure n0.toNatClampNeg)]) (rest := []) ⟨hx, hb, hml, hown, hts⟩ (m_X0_leaps l D y (h_kind n0.toNatClampNeg) (h_figure n0.toNatClampNeg) x3 hy4) (va_cwS 2 hts (gA_S wl_287 wl_288 wl_289 wl_290) rfl rfl rfl (by decide +kernel) ⟨Nat.le_of_ble_eq_true rfl, Nat.le_of_ble_eq_true rfl⟩) rfl hl.1 rfl (Nat.le_of_ble_eq_true rfl) dX2_blow_12 ⟨Nat.zero_le _, Nat.zero_le _⟩ hK hP hD hS hA (fun H locs hP hD hS => ?_)
  refine lv_istore_n (lv' := [(2, .int x3), (0, .ref (a 0)), (1, .int n0)]) hx hb dX2_blow_15 rfl hl (by decide) rfl (fun ls hl => ?_)
  refine lv_iconst (v := 0) hx hb dX2_blow_16 (by decide) ?_
  refine lv_istore_n (lv' := [(3, .int (0 : Int32)), (2, .int x3), (0, .ref (a 0)), (1, .int n0)]) hx hb dX2_blow_17 rfl hl (by decide) rfl (fun ls hl => ?_)
  refine lv_iconst (v := 0) hx hb dX2_blow_18 (by decide) ?_
  refine lv_istore (lv' := [(4, .int (0 : Int32)), (3, .int (0 : Int32)), (2, .int x3), (0, .ref (a 0)), (1, .int n0)]) hx hb dX2_blow_19 hl (by decide) rfl (fun ls hl => ?_)
  have J21 : ∀ (m21 : Nat) (x5 : Int32) (x6 : Int32) (h_onBits_7 : Int32) (h_taken_8 : Int32) (h_warmth_9 : (Nat → UInt32)) (h_airCell_10 : (Nat → Int32)) (h_way_11 : (Nat → Int32)) (h_shawls_12 : (Nat → Int32)), f_X2_blow_b21 n0 h_shutBits h_airs h_crownedBits h_sitters h_turn h_kind h_figure h_seat x3 m21 x5 x6 h_onBits_7 h_taken_8 h_warmth_9 h_airCell_10 h_way_11 h_shawls_12 = some (z0, z1, z2, z3, z4, z5, z6) → ∀ (H : Heap) (locs : List Loc), va_P D vwCl (w_X2 y a h_shutBits h_airs h_crownedBits h_sitters h_onBits_7 h_turn h_taken_8 h_warmth_9 h_kind h_figure h_airCell_10 h_way_11 h_seat h_shawls_12 h_count h_steps h_numbers) H → va_D A (w_X2 y a h_shutBits h_airs h_crownedBits h_sitters h_onBits_7 h_turn h_taken_8 h_warmth_9 h_kind h_figure h_airCell_10 h_way_11 h_seat h_shawls_12 h_count h_steps h_numbers) → va_S A s.heap H locs → ∀ ls : Array Slot, lv_has ls 7 [(0, .ref (a 0)), (1, .int n0), (2, .int x3), (3, .int x5), (4, .int x6)] → W p l e ({ frames := 3, cells := 0, slots := 0, locals := 69 } : Room) s m [.ref (a 0), .int n0].toArray below meth c H locs 0 0 (MQ below (dQ D y none s.heap.size (w_X2 y a h_shutBits h_airs h_crownedBits h_sitters h_onBits h_turn h_taken h_warmth h_kind h_figure h_airCell h_way h_seat h_shawls h_count h_steps h_numbers) (w_X2 y a h_shutBits h_airs z0 h_sitters z1 h_turn z2 z3 h_kind h_figure z4 z5 h_seat z6 h_count h_steps h_numbers)) [.ref (a 0), .int n0].toArray s 0 0 A) (F0 m 21 ls []) := by
    intro m21
    induction m21 with
    | zero => intro x5 x6 h_onBits_7 h_taken_8 h_warmth_9 h_airCell_10 h_way_11 h_shawls_12 hf; exact absurd hf (by unfold f_X2_blow_b21; exact fun h => by cases h)
    | succ m21 I21 =>
      intro x5 x6 h_onBits_7 h_taken_8 h_warmth_9 h_airCell_10 h_way_11 h_shawls_12 hf H locs hP hD hS ls hl
      unfold f_X2_blow_b21 at hf
      refine lv_iload hx hb dX2_blow_21 (lv_at hl 4 rfl) ?_
      refine lv_iload_n hx hb dX2_blow_23 rfl (lv_at hl 2 rfl) ?_
      have J88 : f_X2_blow_b88 n0 h_shutBits h_airs h_crownedBits h_sitters h_turn h_kind h_figure h_seat x5 h_onBits_7 h_taken_8 h_warmth_9 h_airCell_10 h_way_11 h_shawls_12 = some (z0, z1, z2, z3, z4, z5, z6) → ∀ (H : Heap) (locs : List Loc), va_P D vwCl (w_X2 y a h_shutBits h_airs h_crownedBits h_sitters h_onBits_7 h_turn h_taken_8 h_warmth_9 h_kind h_figure h_airCell_10 h_way_11 h_seat h_shawls_12 h_count h_steps h_numbers) H → va_D A (w_X2 y a h_shutBits h_airs h_crownedBits h_sitters h_onBits_7 h_turn h_taken_8 h_warmth_9 h_kind h_figure h_airCell_10 h_way_11 h_seat h_shawls_12 h_count h_steps h_numbers) → va_S A s.heap H locs → ∀ ls : Array Slot, lv_has ls 7 [(0, .ref (a 0)), (1, .int n0), (3, .int x5)] → W p l e ({ frames := 3, cells := 0, slots := 0, locals := 69 } : Room) s m [.ref (a 0), .int n0].toArray below meth c H locs 0 0 (MQ below (dQ D y none s.heap.size (w_X2 y a h_shutBits h_airs h_crownedBits h_sitters h_onBits h_turn h_taken h_warmth h_kind h_figure h_airCell h_way h_seat h_shawls h_count h_steps h_numbers) (w_X2 y a h_shutBits h_airs z0 h_sitters z1 h_turn z2 z3 h_kind h_figure z4 z5 h_seat z6 h_count h_steps h_numbers)) [.ref (a 0), .int n0].toArray s 0 0 A) (F0 m 88 ls []) := by
        intro  hf H locs hP hD hS ls hl
        unfold f_X2_blow_b88 at hf
        refine lv_iload_n hx hb dX2_blow_88 rfl (lv_at hl 2 rfl) ?_
        have J141 : ∀ (h_warmth_13 : (Nat → UInt32)) (h_airCell_14 : (Nat → Int32)) (h_way_15 : (Nat → Int32)), f_X2_blow_b141 n0 h_crownedBits h_onBits_7 h_taken_8 h_shawls_12 h_warmth_13 h_airCell_14 h_way_15 = some (z0, z1, z2, z3, z4, z5, z6) → ∀ (H : Heap) (locs : List Loc), va_P D vwCl (w_X2 y a h_shutBits h_airs h_crownedBits h_sitters h_onBits_7 h_turn h_taken_8 h_warmth_13 h_kind h_figure h_airCell_14 h_way_15 h_seat h_shawls_12 h_count h_steps h_numbers) H → va_D A (w_X2 y a h_shutBits h_airs h_crownedBits h_sitters h_onBits_7 h_turn h_taken_8 h_warmth_13 h_kind h_figure h_airCell_14 h_way_15 h_seat h_shawls_12 h_count h_steps h_numbers) → va_S A s.heap H locs → ∀ ls : Array Slot, lv_has ls 7 [(0, .ref (a 0)), (1, .int n0)] → W p l e ({ frames := 3, cells := 0, slots := 0, locals := 69 } : Room) s m [.ref (a 0), .int n0].toArray below meth c H locs 0 0 (MQ below (dQ D y none s.heap.size (w_X2 y a h_shutBits h_airs h_crownedBits h_sitters h_onBits h_turn h_taken h_warmth h_kind h_figure h_airCell h_way h_seat h_shawls h_count h_steps h_numbers) (w_X2 y a h_shutBits h_airs z0 h_sitters z1 h_turn z2 z3 h_kind h_figure z4 z5 h_seat z6 h_count h_steps h_numbers)) [.ref (a 0), .int n0].toArray s 0 0 A) (F0 m 141 ls []) := by
          intro h_warmth_13 h_airCell_14 h_way_15 hf H locs hP hD hS ls hl
          unfold f_X2_blow_b141 at hf
          refine lv_aload_n hx hb dX2_blow_141 rfl (lv_at hl 0 rfl) ?_
          refine va_get (D := D) (ci := 1) (v := .ref (a 4)) (C := RX2) (T := TX2) (N := 15) hx hb hts iwX2 hown hK hP 0 rfl rfl 5 (by decide) (hts _ wl_43) (fun _ h9 => h9) rfl dX2_blow_142 ?_
          refine lv_iload_n hx hb dX2_blow_145 rfl (lv_at hl 1 rfl) ?_
          obtain ⟨h16, hf⟩ := dq_g hf
          refine va_iald (cA := y 1) (n := 5) (f := h_airCell_14) hx hb hK hP 4 1 rfl rfl h16 dX2_blow_146 ?_
          refine lv_bipush (v := 6) hx hb dX2_blow_147 (by decide) ?_
          refine lv_idiv hx hb dX2_blow_149 (by decide) ?_
          refine lv_topi (fun x17 ex17 => ?_)
          have hf := dq_l hf x17 ex17
          clear ex17
          refine lv_istore (lv' := [(4, .int x17), (0, .ref (a 0)), (1, .int n0)]) hx hb dX2_blow_150 hl (by decide) rfl (fun ls hl => ?_)
          refine lv_iload hx hb dX2_blow_152 (lv_at hl 0 rfl) ?_
          have J163 : f_X2_blow_b163 n0 h_crownedBits h_onBits_7 h_taken_8 h_shawls_12 h_warmth_13 h_airCell_14 h_way_15 = some (z0, z1, z2, z3, z4, z5, z6) → ∀ (H : Heap) (locs : List Loc), va_P D vwCl (w_X2 y a h_shutBits h_airs h_crownedBits h_sitters h_onBits_7 h_turn h_taken_8 h_warmth_13 h_kind h_figure h_airCell_14 h_way_15 h_seat h_shawls_12 h_count h_steps h_numbers) H → va_D A (w_X2 y a h_shutBits h_airs h_crownedBits h_sitters h_onBits_7 h_turn h_taken_8 h_warmth_13 h_kind h_figure h_airCell_14 h_way_15 h_seat h_shawls_12 h_count h_steps h_numbers) → va_S A s.heap H locs → ∀ ls : Array Slot, lv_has ls 7 [(0, .ref (a 0)), (1, .int n0)] → W p l e ({ frames := 3, cells := 0, slots := 0, locals := 69 } : Room) s m [.ref (a 0), .int n0].toArray below meth c H locs 0 0 (MQ below (dQ D y none s.heap.size (w_X2 y a h_shutBits h_airs h_crownedBits h_sitters h_onBits h_turn h_taken h_warmth h_kind h_figure h_airCell h_way h_seat h_shawls h_count h_steps h_numbers) (w_X2 y a h_shutBits h_airs z0 h_sitters z1 h_turn z2 z3 h_kind h_figure z4 z5 h_seat z6 h_count h_steps h_numbers)) [.ref (a 0), .int n0].toArray s 0 0 A) (F0 m 163 ls []) := by
            intro  hf H locs hP hD hS ls hl
            unfold f_X2_blow_b163 at hf
            refine lv_aload_n hx hb dX2_blow_163 rfl (lv_at hl 0 rfl) ?_
            refine lv_dup hx hb dX2_blow_164 rfl ?_
            refine va_get (D := D) (ci := 1) (v := .int h_crownedBits) (C := RX2) (T := TX2) (N := 15) hx hb hts iwX2 hown hK hP 0 rfl rfl 7 (by decide) (hts _ wl_186) (fun _ h9 => h9) rfl dX2_blow_165 ?_
            refine lv_iconst (v := 1) hx hb dX2_blow_168 (by decide) ?_
            refine lv_iload_n hx hb dX2_blow_169 rfl (lv_at hl 1 rfl) ?_
            refine lv_ishl hx hb dX2_blow_170 ?_
            refine lv_ior hx hb dX2_blow_171 ?_
            refine lv_topi (fun x18 ex18 => ?_)
            have hf := dq_l hf x18 ex18
            clear ex18
            refine va_put (D := D) (ci := 1) (v := .int x18) (ty := .int) (C := RX2) (T := TX2) (N := 15) hx hb hts iwX2 tyX2 tyX2_ok nmX2 hown hK hP hD hS 0 rfl rfl 7 (by decide) (hts _ wl_186) (fun _ h9 => h9) rfl (tyX2_ok 7 (by decide)) rfl rfl (Nat.le_of_ble_eq_true rfl) dX2_blow_172 (fun H locs hP hD hS => ?_)
            have hP : va_P D vwCl (w_X2 y a h_shutBits h_airs x18 h_sitters h_onBits_7 h_turn h_taken_8 h_warmth_13 h_kind h_figure h_airCell_14 h_way_15 h_seat h_shawls_12 h_count h_steps h_numbers) H := hP
            have hD : va_D A (w_X2 y a h_shutBits h_airs x18 h_sitters h_onBits_7 h_turn h_taken_8 h_warmth_13 h_kind h_figure h_airCell_14 h_way_15 h_seat h_shawls_12 h_count h_steps h_numbers) := hD
            obtain ⟨rfl, rfl, rfl, rfl, rfl, rfl, rfl⟩ := dq_r7 hf
            exact ct_vret hx hb hr hlocks hAe hP hK hD hS dX2_blow_175
          refine lv_if_eq (tgt := 163) hx hb dX2_blow_154 (by decide) (fun c19 => ?_) (fun c19 => ?_)
          · have hf := dq_t hf c19
            clear c19
            exact J163  hf _ _ hP hD hS _ (lv_sub hl [1, 2] rfl)
          · have hf := dq_f hf c19
            clear c19
            refine lv_iload hx hb dX2_blow_157 (lv_at hl 0 rfl) ?_
            refine lv_iconst (v := 5) hx hb dX2_blow_159 (by decide) ?_
            refine lv_icmp_ne (tgt := 175) hx hb dX2_blow_160 (by decide) (fun c20 => ?_) (fun c20 => ?_)
            · have hf := dq_f hf c20
              clear c20
              obtain ⟨rfl, rfl, rfl, rfl, rfl, rfl, rfl⟩ := dq_r7 hf
              exact ct_vret hx hb hr hlocks hAe hP hK hD hS dX2_blow_175
            · have hf := dq_t hf c20
              clear c20
              exact J163  hf _ _ hP hD hS _ (lv_sub hl [1, 2] rfl)
        refine lv_if_ne (tgt := 141) hx hb dX2_blow_89 (by decide) (fun c21 => ?_) (fun c21 => ?_)
        · have hf := dq_f hf c21
          clear c21
          exact J141 _ _ _ hf _ _ hP hD hS _ (lv_sub hl [0, 1] rfl)
        · have hf := dq_t hf c21
          clear c21
          refine lv_aload_n hx hb dX2_blow_92 rfl (lv_at hl 0 rfl) ?_
          refine lv_iload_n hx hb dX2_blow_93 rfl (lv_at hl 1 rfl) ?_
          obtain ⟨x22, hy23, hf⟩ := dq_b hf
          refine ct_callV0 (ci := 1) (q0 := 0) (own := RX2) (As := [.int n0]) (rest := []) (ws' := (w_X2 y a h_shutBits h_airs h_crownedBits h_sitters h_onBits_7 h_turn h_taken_8 h_warmth_9 h_kind h_figure h_airCell_10 h_way_11 h_seat h_shawls_12 h_count h_steps h_numbers)) ⟨hx, hb, hml, hown, hts⟩ (m_X2_wayToWalk l D y a h_shutBits h_airs h_crownedBits h_sitters h_onBits_7 h_turn h_taken_8 h_warmth_9 h_kind h_figure h_airCell_10 h_way_11 h_seat h_shawls_12 h_count h_steps h_numbers n0 x22 hy23) (cwV 1 hts (gA_V wl_336 wl_337 wl_338 wl_14 wl_339) rfl rfl rfl (by decide +kernel) ⟨Nat.le_of_ble_eq_true rfl, Nat.le_of_ble_eq_true rfl⟩) rfl rfl rfl hl.1 rfl (Nat.le_of_ble_eq_true rfl) dX2_blow_94 ⟨Nat.zero_le _, Nat.zero_le _⟩ hK hP hD hS hA (fun H locs hP hD hS => ?_)
          refine lv_istore (lv' := [(4, .int x22), (0, .ref (a 0)), (1, .int n0), (3, .int x5)]) hx hb dX2_blow_97 hl (by decide) rfl (fun ls hl => ?_)
          refine lv_iload hx hb dX2_blow_99 (lv_at hl 0 rfl) ?_
          refine lv_if_ge (tgt := 123) hx hb dX2_blow_101 (by decide) (fun c24 => ?_) (fun c24 => ?_)
          · have hf := dq_t hf c24
            clear c24
            refine lv_aload_n hx hb dX2_blow_123 rfl (lv_at hl 1 rfl) ?_
            refine lv_iload_n hx hb dX2_blow_124 rfl (lv_at hl 2 rfl) ?_
            refine lv_aload_n hx hb dX2_blow_125 rfl (lv_at hl 1 rfl) ?_
            refine va_get (D := D) (ci := 1) (v := .ref (a 4)) (C := RX2) (T := TX2) (N := 15) hx hb hts iwX2 hown hK hP 0 rfl rfl 5 (by decide) (hts _ wl_43) (fun _ h9 => h9) rfl dX2_blow_126 ?_
            refine lv_iload_n hx hb dX2_blow_129 rfl (lv_at hl 2 rfl) ?_
            obtain ⟨h25, hf⟩ := dq_g hf
            refine va_iald (cA := y 1) (n := 5) (f := h_airCell_10) hx hb hK hP 4 1 rfl rfl h25 dX2_blow_130 ?_
            refine lv_iload hx hb dX2_blow_131 (lv_at hl 0 rfl) ?_
            obtain ⟨x26, hy27, hf⟩ := dq_b hf
            refine ct_callS0 (own := RX2) (As := [.int (h_airCell_10 n0.toNatClampNeg), .int x22]) (rest := [.int n0, .ref (a 0)]) ⟨hx, hb, hml, hown, hts⟩ (m_X2_nextCell l D y (h_airCell_10 n0.toNatClampNeg) x22 x26 hy27) (va_cwS 2 hts (gA_S wl_306 wl_307 wl_14 wl_308) rfl rfl rfl (by decide +kernel) ⟨Nat.le_of_ble_eq_true rfl, Nat.le_of_ble_eq_true rfl⟩) rfl hl.1 rfl (Nat.le_of_ble_eq_true rfl) dX2_blow_133 ⟨Nat.zero_le _, Nat.zero_le _⟩ hK hP hD hS hA (fun H locs hP hD hS => ?_)
            refine lv_iload hx hb dX2_blow_136 (lv_at hl 0 rfl) ?_
            obtain ⟨h_warmth_28, h_airCell_29, h_way_30, hy31, hf⟩ := dq_b3 hf
            refine ct_callV0 (ci := 1) (q0 := 0) (own := RX2) (As := [.int n0, .int x26, .int x22]) (rest := []) (ws' := (w_X2 y a h_shutBits h_airs h_crownedBits h_sitters h_onBits_7 h_turn h_taken_8 h_warmth_28 h_kind h_figure h_airCell_29 h_way_30 h_seat h_shawls_12 h_count h_steps h_numbers)) ⟨hx, hb, hml, hown, hts⟩ (m_X2_arrive l D y a h_shutBits h_airs h_crownedBits h_sitters h_onBits_7 h_turn h_taken_8 h_warmth_9 h_kind h_figure h_airCell_10 h_way_11 h_seat h_shawls_12 h_count h_steps h_numbers n0 x26 x22 h_warmth_28 h_airCell_29 h_way_30 hy31) (cwV 3 hts (gA_V wl_316 wl_317 wl_318 wl_14 wl_319) rfl rfl rfl (by decide +kernel) ⟨Nat.le_of_ble_eq_true rfl, Nat.le_of_ble_eq_true rfl⟩) rfl rfl rfl hl.1 rfl (Nat.le_of_ble_eq_true rfl) dX2_blow_138 ⟨Nat.zero_le _, Nat.zero_le _⟩ hK hP hD hS hA (fun H locs hP hD hS => ?_)
            exact J141 _ _ _ hf _ _ hP hD hS _ (lv_sub hl [1, 2] rfl)
          · have hf := dq_f hf c24
            clear c24
            refine lv_aload_n hx hb dX2_blow_104 rfl (lv_at hl 1 rfl) ?_
            refine va_get (D := D) (ci := 1) (v := .ref (a 5)) (C := RX2) (T := TX2) (N := 15) hx hb hts iwX2 hown hK hP 0 rfl rfl 6 (by decide) (hts _ wl_44) (fun _ h9 => h9) rfl dX2_blow_105 ?_
            refine lv_iload_n hx hb dX2_blow_108 rfl (lv_at hl 2 rfl) ?_
            refine lv_aload_n hx hb dX2_blow_109 rfl (lv_at hl 1 rfl) ?_
            refine va_get (D := D) (ci := 1) (v := .ref (a 5)) (C := RX2) (T := TX2) (N := 15) hx hb hts iwX2 hown hK hP 0 rfl rfl 6 (by decide) (hts _ wl_44) (fun _ h9 => h9) rfl dX2_blow_110 ?_
            refine lv_iload_n hx hb dX2_blow_113 rfl (lv_at hl 2 rfl) ?_
            obtain ⟨h32, hf⟩ := dq_g hf
            refine va_iald (cA := y 1) (n := 5) (f := h_way_11) hx hb hK hP 5 1 rfl rfl h32 dX2_blow_114 ?_
            refine lv_iconst (v := 2) hx hb dX2_blow_115 (by decide) ?_
            refine lv_iadd hx hb dX2_blow_116 ?_
            refine lv_iconst (v := 4) hx hb dX2_blow_117 (by decide) ?_
            refine lv_irem hx hb dX2_blow_118 (by decide) ?_
            obtain ⟨h33, hf⟩ := dq_g hf
            refine dq_iast (cA := y 1) (n := 5) (f := h_way_11) hx hb hK hP hD hS 5 1 rfl rfl h33 dX2_blow_119 (fun h_way_34 eh_way_34 H locs hP hD hS => ?_)
            have hf := dq_l hf h_way_34 eh_way_34
            clear eh_way_34
            have hP : va_P D vwCl (w_X2 y a h_shutBits h_airs h_crownedBits h_sitters h_onBits_7 h_turn h_taken_8 h_warmth_9 h_kind h_figure h_airCell_10 h_way_34 h_seat h_shawls_12 h_count h_steps h_numbers) H := hP
            have hD : va_D A (w_X2 y a h_shutBits h_airs h_crownedBits h_sitters h_onBits_7 h_turn h_taken_8 h_warmth_9 h_kind h_figure h_airCell_10 h_way_34 h_seat h_shawls_12 h_count h_steps h_numbers) := hD
            refine lv_goto (tgt := 141) hx hb dX2_blow_120 (by decide) ?_
            exact J141 _ _ _ hf _ _ hP hD hS _ (lv_sub hl [1, 2] rfl)
      refine lv_icmp_ge (tgt := 88) hx hb dX2_blow_24 (by decide) (fun c35 => ?_) (fun c35 => ?_)
      · have hf := dq_t hf c35
        clear c35
        exact J88  hf _ _ hP hD hS _ (lv_sub hl [0, 1, 3] rfl)
      · have hf := dq_f hf c35
        clear c35
        refine lv_aload_n hx hb dX2_blow_27 rfl (lv_at hl 0 rfl) ?_
        refine lv_iload_n hx hb dX2_blow_28 rfl (lv_at hl 1 rfl) ?_
        obtain ⟨x36, hy37, hf⟩ := dq_b hf
        refine ct_callV0 (ci := 1) (q0 := 0) (own := RX2) (As := [.int n0]) (rest := []) (ws' := (w_X2 y a h_shutBits h_airs h_crownedBits h_sitters h_onBits_7 h_turn h_taken_8 h_warmth_9 h_kind h_figure h_airCell_10 h_way_11 h_seat h_shawls_12 h_count h_steps h_numbers)) ⟨hx, hb, hml, hown, hts⟩ (m_X2_wayToLeap l D y a h_shutBits h_airs h_crownedBits h_sitters h_onBits_7 h_turn h_taken_8 h_warmth_9 h_kind h_figure h_airCell_10 h_way_11 h_seat h_shawls_12 h_count h_steps h_numbers n0 x36 hy37) (cwV 1 hts (gA_V wl_298 wl_299 wl_300 wl_14 wl_301) rfl rfl rfl (by decide +kernel) ⟨Nat.le_of_ble_eq_true rfl, Nat.le_of_ble_eq_true rfl⟩) rfl rfl rfl hl.1 rfl (Nat.le_of_ble_eq_true rfl) dX2_blow_29 ⟨Nat.zero_le _, Nat.zero_le _⟩ hK hP hD hS hA (fun H locs hP hD hS => ?_)
        refine lv_istore (lv' := [(5, .int x36), (0, .ref (a 0)), (1, .int n0), (2, .int x3), (3, .int x5), (4, .int x6)]) hx hb dX2_blow_32 hl (by decide) rfl (fun ls hl => ?_)
        refine lv_iload hx hb dX2_blow_34 (lv_at hl 0 rfl) ?_
        refine lv_if_ge (tgt := 42) hx hb dX2_blow_36 (by decide) (fun c38 => ?_) (fun c38 => ?_)
        · have hf := dq_t hf c38
          clear c38
          refine lv_aload_n hx hb dX2_blow_42 rfl (lv_at hl 1 rfl) ?_
          refine va_get (D := D) (ci := 1) (v := .ref (a 4)) (C := RX2) (T := TX2) (N := 15) hx hb hts iwX2 hown hK hP 0 rfl rfl 5 (by decide) (hts _ wl_43) (fun _ h9 => h9) rfl dX2_blow_43 ?_
          refine lv_iload_n hx hb dX2_blow_46 rfl (lv_at hl 2 rfl) ?_
          obtain ⟨h39, hf⟩ := dq_g hf
          refine va_iald (cA := y 1) (n := 5) (f := h_airCell_10) hx hb hK hP 4 1 rfl rfl h39 dX2_blow_47 ?_
          refine lv_iload hx hb dX2_blow_48 (lv_at hl 0 rfl) ?_
          obtain ⟨x40, hy41, hf⟩ := dq_b hf
          refine ct_callS0 (own := RX2) (As := [.int (h_airCell_10 n0.toNatClampNeg), .int x36]) (rest := []) ⟨hx, hb, hml, hown, hts⟩ (m_X2_nextCell l D y (h_airCell_10 n0.toNatClampNeg) x36 x40 hy41) (va_cwS 2 hts (gA_S wl_306 wl_307 wl_14 wl_308) rfl rfl rfl (by decide +kernel) ⟨Nat.le_of_ble_eq_true rfl, Nat.le_of_ble_eq_true rfl⟩) rfl hl.1 rfl (Nat.le_of_ble_eq_true rfl) dX2_blow_50 ⟨Nat.zero_le _, Nat.zero_le _⟩ hK hP hD hS hA (fun H locs hP hD hS => ?_)
          refine lv_istore (lv' := [(6, .int x40), (5, .int x36), (0, .ref (a 0)), (1, .int n0), (2, .int x3), (3, .int x5), (4, .int x6)]) hx hb dX2_blow_53 hl (by decide) rfl (fun ls hl => ?_)
          refine lv_aload_n hx hb dX2_blow_55 rfl (lv_at hl 2 rfl) ?_
          refine lv_aload_n hx hb dX2_blow_56 rfl (lv_at hl 2 rfl) ?_
          refine lv_iload hx hb dX2_blow_57 (lv_at hl 0 rfl) ?_
          obtain ⟨x42, hy43, hf⟩ := dq_b hf
          refine ct_callV0 (ci := 1) (q0 := 0) (own := RX2) (As := [.int x40]) (rest := [.ref (a 0)]) (ws' := (w_X2 y a h_shutBits h_airs h_crownedBits h_sitters h_onBits_7 h_turn h_taken_8 h_warmth_9 h_kind h_figure h_airCell_10 h_way_11 h_seat h_shawls_12 h_count h_steps h_numbers)) ⟨hx, hb, hml, hown, hts⟩ (m_X2_sitterOn l D y a h_shutBits h_airs h_crownedBits h_sitters h_onBits_7 h_turn h_taken_8 h_warmth_9 h_kind h_figure h_airCell_10 h_way_11 h_seat h_shawls_12 h_count h_steps h_numbers x40 x42 hy43) (cwV 1 hts (gA_V wl_227 wl_228 wl_229 wl_14 wl_230) rfl rfl rfl (by decide +kernel) ⟨Nat.le_of_ble_eq_true rfl, Nat.le_of_ble_eq_true rfl⟩) rfl rfl rfl hl.1 rfl (Nat.le_of_ble_eq_true rfl) dX2_blow_59 ⟨Nat.zero_le _, Nat.zero_le _⟩ hK hP hD hS hA (fun H locs hP hD hS => ?_)
          obtain ⟨h_onBits_44, h_taken_45, h_shawls_46, hy47, hf⟩ := dq_b3 hf
          refine ct_callV0 (ci := 1) (q0 := 0) (own := RX2) (As := [.int x42]) (rest := []) (ws' := (w_X2 y a h_shutBits h_airs h_crownedBits h_sitters h_onBits_44 h_turn h_taken_45 h_warmth_9 h_kind h_figure h_airCell_10 h_way_11 h_seat h_shawls_46 h_count h_steps h_numbers)) ⟨hx, hb, hml, hown, hts⟩ (m_X2_leapOver l D y a h_shutBits h_airs h_crownedBits h_sitters h_onBits_7 h_turn h_taken_8 h_warmth_9 h_kind h_figure h_airCell_10 h_way_11 h_seat h_shawls_12 h_count h_steps h_numbers x42 h_onBits_44 h_taken_45 h_shawls_46 hy47) (cwV 1 hts (gA_V wl_309 wl_310 wl_311 wl_14 wl_312) rfl rfl rfl (by decide +kernel) ⟨Nat.le_of_ble_eq_true rfl, Nat.le_of_ble_eq_true rfl⟩) rfl rfl rfl hl.1 rfl (Nat.le_of_ble_eq_true rfl) dX2_blow_62 ⟨Nat.zero_le _, Nat.zero_le _⟩ hK hP hD hS hA (fun H locs hP hD hS => ?_)
          refine lv_aload_n hx hb dX2_blow_65 rfl (lv_at hl 2 rfl) ?_
          refine lv_iload_n hx hb dX2_blow_66 rfl (lv_at hl 3 rfl) ?_
          refine lv_iload hx hb dX2_blow_67 (lv_at hl 0 rfl) ?_
          refine lv_iload hx hb dX2_blow_69 (lv_at hl 1 rfl) ?_
          obtain ⟨x48, hy49, hf⟩ := dq_b hf
          refine ct_callS0 (own := RX2) (As := [.int x40, .int x36]) (rest := [.int n0, .ref (a 0)]) ⟨hx, hb, hml, hown, hts⟩ (m_X2_nextCell l D y x40 x36 x48 hy49) (va_cwS 2 hts (gA_S wl_306 wl_307 wl_14 wl_308) rfl rfl rfl (by decide +kernel) ⟨Nat.le_of_ble_eq_true rfl, Nat.le_of_ble_eq_true rfl⟩) rfl hl.1 rfl (Nat.le_of_ble_eq_true rfl) dX2_blow_71 ⟨Nat.zero_le _, Nat.zero_le _⟩ hK hP hD hS hA (fun H locs hP hD hS => ?_)
          refine lv_iload hx hb dX2_blow_74 (lv_at hl 1 rfl) ?_
          obtain ⟨h_warmth_50, h_airCell_51, h_way_52, hy53, hf⟩ := dq_b3 hf
          refine ct_callV0 (ci := 1) (q0 := 0) (own := RX2) (As := [.int n0, .int x48, .int x36]) (rest := []) (ws' := (w_X2 y a h_shutBits h_airs h_crownedBits h_sitters h_onBits_44 h_turn h_taken_45 h_warmth_50 h_kind h_figure h_airCell_51 h_way_52 h_seat h_shawls_46 h_count h_steps h_numbers)) ⟨hx, hb, hml, hown, hts⟩ (m_X2_arrive l D y a h_shutBits h_airs h_crownedBits h_sitters h_onBits_44 h_turn h_taken_45 h_warmth_9 h_kind h_figure h_airCell_10 h_way_11 h_seat h_shawls_46 h_count h_steps h_numbers n0 x48 x36 h_warmth_50 h_airCell_51 h_way_52 hy53) (cwV 3 hts (gA_V wl_316 wl_317 wl_318 wl_14 wl_319) rfl rfl rfl (by decide +kernel) ⟨Nat.le_of_ble_eq_true rfl, Nat.le_of_ble_eq_true rfl⟩) rfl rfl rfl hl.1 rfl (Nat.le_of_ble_eq_true rfl) dX2_blow_76 ⟨Nat.zero_le _, Nat.zero_le _⟩ hK hP hD hS hA (fun H locs hP hD hS => ?_)
          obtain ⟨x54, ex54⟩ : ∃ z : Int32, z = (x5 + (1 : Int32)) := ⟨_, rfl⟩
          have hf := dq_l hf x54 ex54
          refine lv_iinc (v := x54) (lv' := [(3, .int x54), (6, .int x40), (5, .int x36), (0, .ref (a 0)), (1, .int n0), (2, .int x3), (4, .int x6)]) hx hb dX2_blow_79 hl (k := 5) rfl (by rw [ex54]; rfl) (by decide) rfl (fun ls hl => ?_)
          clear ex54
          obtain ⟨x55, ex55⟩ : ∃ z : Int32, z = (x6 + (1 : Int32)) := ⟨_, rfl⟩
          have hf := dq_l hf x55 ex55
          refine lv_iinc (v := x55) (lv' := [(4, .int x55), (3, .int x54), (6, .int x40), (5, .int x36), (0, .ref (a 0)), (1, .int n0), (2, .int x3)]) hx hb dX2_blow_82 hl (k := 6) rfl (by rw [ex55]; rfl) (by decide) rfl (fun ls hl => ?_)
          clear ex55
          refine lv_goto (tgt := 21) hx hb dX2_blow_85 (by decide) ?_
          exact I21 _ _ _ _ _ _ _ _ hf _ _ hP hD hS _ (lv_sub hl [4, 5, 6, 1, 0] rfl)
        · have hf := dq_f hf c38
          clear c38
          refine lv_goto (tgt := 88) hx hb dX2_blow_39 (by decide) ?_
          exact J88  hf _ _ hP hD hS _ (lv_sub hl [1, 2, 4] rfl)
  exact J21 4096 _ _ _ _ _ _ _ _ hf _ _ hP hD hS _ (lv_sub hl [3, 4, 2, 1, 0] rfl)
noncomputable def f_X2_freeze_b2 (h_sitters : Int32) (h_warmth : (Nat → UInt32)) (h_seat : (Nat → Int32)) (h_shawls : (Nat → Int32))  : Nat → Int32 → Int32 → Option Int32
  | 0, _, _ => none
  | m2 + 1, x1, h_onBits_2 => dq_if (h_sitters ≤ x1) (some h_onBits_2) (dq_bd (f_X2_isOn h_onBits_2 x1) (fun (x4 : Int32) => dq_if (x4 = 0) (dq_let (x1 + (1 : Int32)) (fun (x7 : Int32) => (f_X2_freeze_b2 h_sitters h_warmth h_seat h_shawls m2) x7 h_onBits_2)) (dq_gd (vp_in x1 6) (dq_gd (vp_in (h_seat x1.toNatClampNeg) 36) (dq_gd (vp_in x1 6) (dq_if (0 ≤ (Op.cmpValue (FP.fcmp (h_warmth (h_seat x1.toNatClampNeg).toNatClampNeg) (FP.i2f ((8 : Int32) - (h_shawls x1.toNatClampNeg)))) .g)) (dq_let (x1 + (1 : Int32)) (fun (x12 : Int32) => (f_X2_freeze_b2 h_sitters h_warmth h_seat h_shawls m2) x12 h_onBits_2)) (dq_let (h_onBits_2 &&& (((1 : Int32) <<< (x1 &&& 31)) ^^^ (-1 : Int32))) (fun (x13 : Int32) => dq_let (x1 + (1 : Int32)) (fun (x14 : Int32) => (f_X2_freeze_b2 h_sitters h_warmth h_seat h_shawls m2) x14 x13)))))))))
noncomputable def f_X2_freeze (h_sitters : Int32) (h_onBits : Int32) (h_warmth : (Nat → UInt32)) (h_seat : (Nat → Int32)) (h_shawls : (Nat → Int32)) : Option Int32 := f_X2_freeze_b2 h_sitters h_warmth h_seat h_shawls 4096 (0 : Int32) h_onBits
def wA_X2_freeze : List Cond := .code yX2_freeze cX2_freeze 2 none :: wsL_law
-- DraughtsTake$House.freeze()V
set_option maxHeartbeats 4000000 in
set_option maxRecDepth 100000 in
theorem m_X2_freeze (l : Launch) (D : va_G) (y : Nat → ClassId) (a : (Nat → Nat)) (h_shutBits : Int64) (h_airs : Int32) (h_crownedBits : Int32) (h_sitters : Int32) (h_onBits : Int32) (h_turn : Int32) (h_taken : Int32) (h_warmth : (Nat → UInt32)) (h_kind : (Nat → Int32)) (h_figure : (Nat → Int32)) (h_airCell : (Nat → Int32)) (h_way : (Nat → Int32)) (h_seat : (Nat → Int32)) (h_shawls : (Nat → Int32)) (h_count : Int32) (h_steps : (Nat → Int32)) (h_numbers : (Nat → Int32)) (z0 : Int32) (hf : f_X2_freeze h_sitters h_onBits h_warmth h_seat h_shawls = some z0) : Ct l D y yX2_freeze wA_X2_freeze 1 21 [.ref (a 0)] (w_X2 y a h_shutBits h_airs h_crownedBits h_sitters h_onBits h_turn h_taken h_warmth h_kind h_figure h_airCell h_way h_seat h_shawls h_count h_steps h_numbers) (w_X2 y a h_shutBits h_airs h_crownedBits h_sitters z0 h_turn h_taken h_warmth h_kind h_figure h_airCell h_way h_seat h_shawls h_count h_steps h_numbers) none := by
  refine ct_head (cc := cX2_freeze) (n := 2) (ret := none) (by decide) rfl (Nat.le_of_ble_eq_true rfl) ?_
  intro p e s m below meth c A ls hx hb hr hml hown hlocks hts hA hAe hP hK hD hl
  have hS : va_S A s.heap s.heap [] := va_S.rf
  have hl : lv_has ls 2 [(0, .ref (a 0))] := hl
  have hown : s.vm.findClass RX2 = some m.cls := hown
  have hts : ∀ w ∈ wsL_law, w.before [.ref (a 0)].toArray s = true := fun w h => hts w (List.mem_cons_of_mem _ h)
  unfold f_X2_freeze at hf
  refine lv_iconst (v := 0) hx hb dX2_freeze_0 (by decide) ?_
  refine lv_istore_n (lv' := [(1, .int (0 : Int32)), (0, .ref (a 0))]) hx hb dX2_freeze_1 rfl hl (by decide) rfl (fun ls hl => ?_)
  have J2 : ∀ (m2 : Nat) (x1 : Int32) (h_onBits_2 : Int32), f_X2_freeze_b2 h_sitters h_warmth h_seat h_shawls m2 x1 h_onBits_2 = some z0 → ∀ (H : Heap) (locs : List Loc), va_P D vwCl (w_X2 y a h_shutBits h_airs h_crownedBits h_sitters h_onBits_2 h_turn h_taken h_warmth h_kind h_figure h_airCell h_way h_seat h_shawls h_count h_steps h_numbers) H → va_D A (w_X2 y a h_shutBits h_airs h_crownedBits h_sitters h_onBits_2 h_turn h_taken h_warmth h_kind h_figure h_airCell h_way h_seat h_shawls h_count h_steps h_numbers) → va_S A s.heap H locs → ∀ ls : Array Slot, lv_has ls 2 [(0, .ref (a 0)), (1, .int x1)] → W p l e ({ frames := 1, cells := 0, slots := 0, locals := 21 } : Room) s m [.ref (a 0)].toArray below meth c H locs 0 0 (MQ below (dQ D y none s.heap.size (w_X2 y a h_shutBits h_airs h_crownedBits h_sitters h_onBits h_turn h_taken h_warmth h_kind h_figure h_airCell h_way h_seat h_shawls h_count h_steps h_numbers) (w_X2 y a h_shutBits h_airs h_crownedBits h_sitters z0 h_turn h_taken h_warmth h_kind h_figure h_airCell h_way h_seat h_shawls h_count h_steps h_numbers)) [.ref (a 0)].toArray s 0 0 A) (F0 m 2 ls []) := by
    intro m2
    induction m2 with
    | zero => intro x1 h_onBits_2 hf; exact absurd hf (by unfold f_X2_freeze_b2; exact fun h => by cases h)
    | succ m2 I2 =>
      intro x1 h_onBits_2 hf H locs hP hD hS ls hl
      unfold f_X2_freeze_b2 at hf
      refine lv_iload_n hx hb dX2_freeze_2 rfl (lv_at hl 1 rfl) ?_
      refine lv_aload_n hx hb dX2_freeze_3 rfl (lv_at hl 0 rfl) ?_
      refine va_get (D := D) (ci := 1) (v := .int h_sitters) (C := RX2) (T := TX2) (N := 15) hx hb hts iwX2 hown hK hP 0 rfl rfl 8 (by decide) (hts _ wl_187) (fun _ h9 => h9) rfl dX2_freeze_4 ?_
      refine lv_icmp_ge (tgt := 63) hx hb dX2_freeze_7 (by decide) (fun c3 => ?_) (fun c3 => ?_)
      · have hf := dq_t hf c3
        clear c3
        obtain rfl := dq_r1 hf
        exact ct_vret hx hb hr hlocks hAe hP hK hD hS dX2_freeze_63
      · have hf := dq_f hf c3
        clear c3
        refine lv_aload_n hx hb dX2_freeze_10 rfl (lv_at hl 0 rfl) ?_
        refine lv_iload_n hx hb dX2_freeze_11 rfl (lv_at hl 1 rfl) ?_
        obtain ⟨x4, hy5, hf⟩ := dq_b hf
        refine ct_callV0 (ci := 1) (q0 := 0) (own := RX2) (As := [.int x1]) (rest := []) (ws' := (w_X2 y a h_shutBits h_airs h_crownedBits h_sitters h_onBits_2 h_turn h_taken h_warmth h_kind h_figure h_airCell h_way h_seat h_shawls h_count h_steps h_numbers)) ⟨hx, hb, hml, hown, hts⟩ (m_X2_isOn l D y a h_shutBits h_airs h_crownedBits h_sitters h_onBits_2 h_turn h_taken h_warmth h_kind h_figure h_airCell h_way h_seat h_shawls h_count h_steps h_numbers x1 x4 hy5) (cwV 1 hts (gA_V wl_344 wl_345 wl_346 wl_14 wl_347) rfl rfl rfl (by decide +kernel) ⟨Nat.le_of_ble_eq_true rfl, Nat.le_of_ble_eq_true rfl⟩) rfl rfl rfl hl.1 rfl (Nat.le_of_ble_eq_true rfl) dX2_freeze_12 ⟨Nat.zero_le _, Nat.zero_le _⟩ hK hP hD hS hA (fun H locs hP hD hS => ?_)
        refine lv_if_eq (tgt := 57) hx hb dX2_freeze_15 (by decide) (fun c6 => ?_) (fun c6 => ?_)
        · have hf := dq_t hf c6
          clear c6
          obtain ⟨x7, ex7⟩ : ∃ z : Int32, z = (x1 + (1 : Int32)) := ⟨_, rfl⟩
          have hf := dq_l hf x7 ex7
          refine lv_iinc (v := x7) (lv' := [(1, .int x7), (0, .ref (a 0))]) hx hb dX2_freeze_57 hl (k := 1) rfl (by rw [ex7]; rfl) (by decide) rfl (fun ls hl => ?_)
          clear ex7
          refine lv_goto (tgt := 2) hx hb dX2_freeze_60 (by decide) ?_
          exact I2 _ _ hf _ _ hP hD hS _ (lv_sub hl [1, 0] rfl)
        · have hf := dq_f hf c6
          clear c6
          refine lv_aload_n hx hb dX2_freeze_18 rfl (lv_at hl 0 rfl) ?_
          refine va_get (D := D) (ci := 1) (v := .ref (a 1)) (C := RX2) (T := TX2) (N := 15) hx hb hts iwX2 hown hK hP 0 rfl rfl 0 (by decide) (hts _ wl_40) (fun _ h9 => h9) rfl dX2_freeze_19 ?_
          refine lv_aload_n hx hb dX2_freeze_22 rfl (lv_at hl 0 rfl) ?_
          refine va_get (D := D) (ci := 1) (v := .ref (a 6)) (C := RX2) (T := TX2) (N := 15) hx hb hts iwX2 hown hK hP 0 rfl rfl 9 (by decide) (hts _ wl_45) (fun _ h9 => h9) rfl dX2_freeze_23 ?_
          refine lv_iload_n hx hb dX2_freeze_26 rfl (lv_at hl 1 rfl) ?_
          obtain ⟨h8, hf⟩ := dq_g hf
          refine va_iald (cA := y 1) (n := 6) (f := h_seat) hx hb hK hP 6 1 rfl rfl h8 dX2_freeze_27 ?_
          obtain ⟨h9, hf⟩ := dq_g hf
          refine va_fald (cA := y 0) (n := 36) (f := h_warmth) hx hb hK hP 1 0 rfl rfl h9 dX2_freeze_28 ?_
          refine lv_bipush (v := 8) hx hb dX2_freeze_29 (by decide) ?_
          refine lv_aload_n hx hb dX2_freeze_31 rfl (lv_at hl 0 rfl) ?_
          refine va_get (D := D) (ci := 1) (v := .ref (a 7)) (C := RX2) (T := TX2) (N := 15) hx hb hts iwX2 hown hK hP 0 rfl rfl 10 (by decide) (hts _ wl_46) (fun _ h9 => h9) rfl dX2_freeze_32 ?_
          refine lv_iload_n hx hb dX2_freeze_35 rfl (lv_at hl 1 rfl) ?_
          obtain ⟨h10, hf⟩ := dq_g hf
          refine va_iald (cA := y 1) (n := 6) (f := h_shawls) hx hb hK hP 7 1 rfl rfl h10 dX2_freeze_36 ?_
          refine lv_isub hx hb dX2_freeze_37 ?_
          refine lv_i2f hx hb dX2_freeze_38 ?_
          refine lv_fcmp hx hb dX2_freeze_39 ?_
          refine lv_if_ge (tgt := 57) hx hb dX2_freeze_40 (by decide) (fun c11 => ?_) (fun c11 => ?_)
          · have hf := dq_t hf c11
            clear c11
            obtain ⟨x12, ex12⟩ : ∃ z : Int32, z = (x1 + (1 : Int32)) := ⟨_, rfl⟩
            have hf := dq_l hf x12 ex12
            refine lv_iinc (v := x12) (lv' := [(1, .int x12), (0, .ref (a 0))]) hx hb dX2_freeze_57 hl (k := 1) rfl (by rw [ex12]; rfl) (by decide) rfl (fun ls hl => ?_)
            clear ex12
            refine lv_goto (tgt := 2) hx hb dX2_freeze_60 (by decide) ?_
            exact I2 _ _ hf _ _ hP hD hS _ (lv_sub hl [1, 0] rfl)
          · have hf := dq_f hf c11
            clear c11
            refine lv_aload_n hx hb dX2_freeze_43 rfl (lv_at hl 0 rfl) ?_
            refine lv_dup hx hb dX2_freeze_44 rfl ?_
            refine va_get (D := D) (ci := 1) (v := .int h_onBits_2) (C := RX2) (T := TX2) (N := 15) hx hb hts iwX2 hown hK hP 0 rfl rfl 11 (by decide) (hts _ wl_188) (fun _ h9 => h9) rfl dX2_freeze_45 ?_
            refine lv_iconst (v := 1) hx hb dX2_freeze_48 (by decide) ?_
            refine lv_iload_n hx hb dX2_freeze_49 rfl (lv_at hl 1 rfl) ?_
            refine lv_ishl hx hb dX2_freeze_50 ?_
            refine lv_iconst (v := -1) hx hb dX2_freeze_51 (by decide) ?_
            refine lv_ixor hx hb dX2_freeze_52 ?_
            refine lv_iand hx hb dX2_freeze_53 ?_
            refine lv_topi (fun x13 ex13 => ?_)
            have hf := dq_l hf x13 ex13
            clear ex13
            refine va_put (D := D) (ci := 1) (v := .int x13) (ty := .int) (C := RX2) (T := TX2) (N := 15) hx hb hts iwX2 tyX2 tyX2_ok nmX2 hown hK hP hD hS 0 rfl rfl 11 (by decide) (hts _ wl_188) (fun _ h9 => h9) rfl (tyX2_ok 11 (by decide)) rfl rfl (Nat.le_of_ble_eq_true rfl) dX2_freeze_54 (fun H locs hP hD hS => ?_)
            have hP : va_P D vwCl (w_X2 y a h_shutBits h_airs h_crownedBits h_sitters x13 h_turn h_taken h_warmth h_kind h_figure h_airCell h_way h_seat h_shawls h_count h_steps h_numbers) H := hP
            have hD : va_D A (w_X2 y a h_shutBits h_airs h_crownedBits h_sitters x13 h_turn h_taken h_warmth h_kind h_figure h_airCell h_way h_seat h_shawls h_count h_steps h_numbers) := hD
            obtain ⟨x14, ex14⟩ : ∃ z : Int32, z = (x1 + (1 : Int32)) := ⟨_, rfl⟩
            have hf := dq_l hf x14 ex14
            refine lv_iinc (v := x14) (lv' := [(1, .int x14), (0, .ref (a 0))]) hx hb dX2_freeze_57 hl (k := 1) rfl (by rw [ex14]; rfl) (by decide) rfl (fun ls hl => ?_)
            clear ex14
            refine lv_goto (tgt := 2) hx hb dX2_freeze_60 (by decide) ?_
            exact I2 _ _ hf _ _ hP hD hS _ (lv_sub hl [1, 0] rfl)
  exact J2 4096 _ _ hf _ _ hP hD hS _ (lv_sub hl [1, 0] rfl)
noncomputable def f_X2_goOn_b13 (h_shutBits : Int64) (h_airs : Int32) (h_sitters : Int32) (h_kind : (Nat → Int32)) (h_figure : (Nat → Int32)) (h_seat : (Nat → Int32)) (x1 : Int32) (h_turn_11 : Int32) (k2 : (Int32 → Int32 → Int32 → Int32 → Int32 → (Nat → UInt32) → (Nat → Int32) → (Nat → Int32) → (Nat → Int32) → Option (Int32 × Int32 × Int32 × Int32 × (Nat → UInt32) × (Nat → Int32) × (Nat → Int32) × (Nat → Int32)))) : Nat → Int32 → Int32 → Int32 → Int32 → (Nat → UInt32) → (Nat → Int32) → (Nat → Int32) → (Nat → Int32) → Option (Int32 × Int32 × Int32 × Int32 × (Nat → UInt32) × (Nat → Int32) × (Nat → Int32) × (Nat → Int32))
  | 0, _, _, _, _, _, _, _, _ => none
  | m13 + 1, x14, h_crownedBits_15, h_onBits_16, h_taken_17, h_warmth_18, h_airCell_19, h_way_20, h_shawls_21 => dq_if (h_airs ≤ x14) (dq_bd (f_X2_freeze h_sitters h_onBits_16 h_warmth_18 h_seat h_shawls_21) (fun (h_onBits_23 : Int32) => dq_let (x1 + (1 : Int32)) (fun (x25 : Int32) => k2 x25 h_crownedBits_15 h_onBits_23 h_turn_11 h_taken_17 h_warmth_18 h_airCell_19 h_way_20 h_shawls_21))) (dq_bd7 (f_X2_blow h_shutBits h_airs h_crownedBits_15 h_sitters h_onBits_16 h_turn_11 h_taken_17 h_warmth_18 h_kind h_figure h_airCell_19 h_way_20 h_seat h_shawls_21 x14) (fun (h_crownedBits_26 : Int32) (h_onBits_27 : Int32) (h_taken_28 : Int32) (h_warmth_29 : (Nat → UInt32)) (h_airCell_30 : (Nat → Int32)) (h_way_31 : (Nat → Int32)) (h_shawls_32 : (Nat → Int32)) => dq_let (x14 + (1 : Int32)) (fun (x34 : Int32) => (f_X2_goOn_b13 h_shutBits h_airs h_sitters h_kind h_figure h_seat x1 h_turn_11 k2 m13) x34 h_crownedBits_26 h_onBits_27 h_taken_28 h_warmth_29 h_airCell_30 h_way_31 h_shawls_32)))
noncomputable def f_X2_goOn_b2 (n0 : Int32) (h_shutBits : Int64) (h_airs : Int32) (h_sitters : Int32) (h_kind : (Nat → Int32)) (h_figure : (Nat → Int32)) (h_seat : (Nat → Int32)) (h_count : Int32) (h_steps : (Nat → Int32)) (h_numbers : (Nat → Int32))  : Nat → Int32 → Int32 → Int32 → Int32 → Int32 → (Nat → UInt32) → (Nat → Int32) → (Nat → Int32) → (Nat → Int32) → Option (Int32 × Int32 × Int32 × Int32 × (Nat → UInt32) × (Nat → Int32) × (Nat → Int32) × (Nat → Int32))
  | 0, _, _, _, _, _, _, _, _, _ => none
  | m2 + 1, x1, h_crownedBits_2, h_onBits_3, h_turn_4, h_taken_5, h_warmth_6, h_airCell_7, h_way_8, h_shawls_9 => dq_if (n0 ≤ x1) (some (h_crownedBits_2, h_onBits_3, h_turn_4, h_taken_5, h_warmth_6, h_airCell_7, h_way_8, h_shawls_9)) (dq_bd2 (f_X2_begin h_turn_4 h_warmth_6 h_count h_steps h_numbers) (fun (h_turn_11 : Int32) (h_warmth_12 : (Nat → UInt32)) => f_X2_goOn_b13 h_shutBits h_airs h_sitters h_kind h_figure h_seat x1 h_turn_11 (f_X2_goOn_b2 n0 h_shutBits h_airs h_sitters h_kind h_figure h_seat h_count h_steps h_numbers m2) 4096 (0 : Int32) h_crownedBits_2 h_onBits_3 h_taken_5 h_warmth_12 h_airCell_7 h_way_8 h_shawls_9))
noncomputable def f_X2_goOn (h_shutBits : Int64) (h_airs : Int32) (h_crownedBits : Int32) (h_sitters : Int32) (h_onBits : Int32) (h_turn : Int32) (h_taken : Int32) (h_warmth : (Nat → UInt32)) (h_kind : (Nat → Int32)) (h_figure : (Nat → Int32)) (h_airCell : (Nat → Int32)) (h_way : (Nat → Int32)) (h_seat : (Nat → Int32)) (h_shawls : (Nat → Int32)) (h_count : Int32) (h_steps : (Nat → Int32)) (h_numbers : (Nat → Int32)) (n0 : Int32) : Option (Int32 × Int32 × Int32 × Int32 × (Nat → UInt32) × (Nat → Int32) × (Nat → Int32) × (Nat → Int32)) := f_X2_goOn_b2 n0 h_shutBits h_airs h_sitters h_kind h_figure h_seat h_count h_steps h_numbers 4096 (0 : Int32) h_crownedBits h_onBits h_turn h_taken h_warmth h_airCell h_way h_shawls
def wA_X2_goOn : List Cond := .code yX2_goOn cX2_goOn 4 none :: wsL_law
-- DraughtsTake$House.goOn(I)V
set_option maxHeartbeats 4000000 in
set_option maxRecDepth 100000 in
theorem m_X2_goOn (l : Launch) (D : va_G) (y : Nat → ClassId) (a : (Nat → Nat)) (h_shutBits : Int64) (h_airs : Int32) (h_crownedBits : Int32) (h_sitters : Int32) (h_onBits : Int32) (h_turn : Int32) (h_taken : Int32) (h_warmth : (Nat → UInt32)) (h_kind : (Nat → Int32)) (h_figure : (Nat → Int32)) (h_airCell : (Nat → Int32)) (h_way : (Nat → Int32)) (h_seat : (Nat → Int32)) (h_shawls : (Nat → Int32)) (h_count : Int32) (h_steps : (Nat → Int32)) (h_numbers : (Nat → Int32)) (n0 : Int32) (z0 : Int32) (z1 : Int32) (z2 : Int32) (z3 : Int32) (z4 : (Nat → UInt32)) (z5 : (Nat → Int32)) (z6 : (Nat → Int32)) (z7 : (Nat → Int32)) (hf : f_X2_goOn h_shutBits h_airs h_crownedBits h_sitters h_onBits h_turn h_taken h_warmth h_kind h_figure h_airCell h_way h_seat h_shawls h_count h_steps h_numbers n0 = some (z0, z1, z2, z3, z4, z5, z6, z7)) : Ct l D y yX2_goOn wA_X2_goOn 4 95 [.ref (a 0), .int n0] (w_X2 y a h_shutBits h_airs h_crownedBits h_sitters h_onBits h_turn h_taken h_warmth h_kind h_figure h_airCell h_way h_seat h_shawls h_count h_steps h_numbers) (w_X2 y a h_shutBits h_airs z0 h_sitters z1 z2 z3 z4 h_kind h_figure z5 z6 h_seat z7 h_count h_steps h_numbers) none := by
  refine ct_head (cc := cX2_goOn) (n := 4) (ret := none) (by decide) rfl (Nat.le_of_ble_eq_true rfl) ?_
  intro p e s m below meth c A ls hx hb hr hml hown hlocks hts hA hAe hP hK hD hl
  have hS : va_S A s.heap s.heap [] := va_S.rf
  have hl : lv_has ls 4 [(0, .ref (a 0)), (1, .int n0)] := hl
  have hown : s.vm.findClass RX2 = some m.cls := hown
  have hts : ∀ w ∈ wsL_law, w.before [.ref (a 0), .int n0].toArray s = true := fun w h => hts w (List.mem_cons_of_mem _ h)
  unfold f_X2_goOn at hf
  refine lv_iconst (v := 0) hx hb dX2_goOn_0 (by decide) ?_
  refine lv_istore_n (lv' := [(2, .int (0 : Int32)), (0, .ref (a 0)), (1, .int n0)]) hx hb dX2_goOn_1 rfl hl (by decide) rfl (fun ls hl => ?_)
  have J2 : ∀ (m2 : Nat) (x1 : Int32) (h_crownedBits_2 : Int32) (h_onBits_3 : Int32) (h_turn_4 : Int32) (h_taken_5 : Int32) (h_warmth_6 : (Nat → UInt32)) (h_airCell_7 : (Nat → Int32)) (h_way_8 : (Nat → Int32)) (h_shawls_9 : (Nat → Int32)), f_X2_goOn_b2 n0 h_shutBits h_airs h_sitters h_kind h_figure h_seat h_count h_steps h_numbers m2 x1 h_crownedBits_2 h_onBits_3 h_turn_4 h_taken_5 h_warmth_6 h_airCell_7 h_way_8 h_shawls_9 = some (z0, z1, z2, z3, z4, z5, z6, z7) → ∀ (H : Heap) (locs : List Loc), va_P D vwCl (w_X2 y a h_shutBits h_airs h_crownedBits_2 h_sitters h_onBits_3 h_turn_4 h_taken_5 h_warmth_6 h_kind h_figure h_airCell_7 h_way_8 h_seat h_shawls_9 h_count h_steps h_numbers) H → va_D A (w_X2 y a h_shutBits h_airs h_crownedBits_2 h_sitters h_onBits_3 h_turn_4 h_taken_5 h_warmth_6 h_kind h_figure h_airCell_7 h_way_8 h_seat h_shawls_9 h_count h_steps h_numbers) → va_S A s.heap H locs → ∀ ls : Array Slot, lv_has ls 4 [(0, .ref (a 0)), (1, .int n0), (2, .int x1)] → W p l e ({ frames := 4, cells := 0, slots := 0, locals := 95 } : Room) s m [.ref (a 0), .int n0].toArray below meth c H locs 0 0 (MQ below (dQ D y none s.heap.size (w_X2 y a h_shutBits h_airs h_crownedBits h_sitters h_onBits h_turn h_taken h_warmth h_kind h_figure h_airCell h_way h_seat h_shawls h_count h_steps h_numbers) (w_X2 y a h_shutBits h_airs z0 h_sitters z1 z2 z3 z4 h_kind h_figure z5 z6 h_seat z7 h_count h_steps h_numbers)) [.ref (a 0), .int n0].toArray s 0 0 A) (F0 m 2 ls []) := by
    intro m2
    induction m2 with
    | zero => intro x1 h_crownedBits_2 h_onBits_3 h_turn_4 h_taken_5 h_warmth_6 h_airCell_7 h_way_8 h_shawls_9 hf; exact absurd hf (by unfold f_X2_goOn_b2; exact fun h => by cases h)
    | succ m2 I2 =>
      intro x1 h_crownedBits_2 h_onBits_3 h_turn_4 h_taken_5 h_warmth_6 h_airCell_7 h_way_8 h_shawls_9 hf H locs hP hD hS ls hl
      unfold f_X2_goOn_b2 at hf
      refine lv_iload_n hx hb dX2_goOn_2 rfl (lv_at hl 2 rfl) ?_
      refine lv_iload_n hx hb dX2_goOn_3 rfl (lv_at hl 1 rfl) ?_
      refine lv_icmp_ge (tgt := 42) hx hb dX2_goOn_4 (by decide) (fun c10 => ?_) (fun c10 => ?_)
      · have hf := dq_t hf c10
        clear c10
        obtain ⟨rfl, rfl, rfl, rfl, rfl, rfl, rfl, rfl⟩ := dq_r8 hf
        exact ct_vret hx hb hr hlocks hAe hP hK hD hS dX2_goOn_42
      · have hf := dq_f hf c10
        clear c10
        refine lv_aload_n hx hb dX2_goOn_7 rfl (lv_at hl 0 rfl) ?_
        obtain ⟨h_turn_11, h_warmth_12, hy13, hf⟩ := dq_b2 hf
        refine ct_callV0 (ci := 1) (q0 := 0) (own := RX2) (As := []) (rest := []) (ws' := (w_X2 y a h_shutBits h_airs h_crownedBits_2 h_sitters h_onBits_3 h_turn_11 h_taken_5 h_warmth_12 h_kind h_figure h_airCell_7 h_way_8 h_seat h_shawls_9 h_count h_steps h_numbers)) ⟨hx, hb, hml, hown, hts⟩ (m_X2_begin l D y a h_shutBits h_airs h_crownedBits_2 h_sitters h_onBits_3 h_turn_4 h_taken_5 h_warmth_6 h_kind h_figure h_airCell_7 h_way_8 h_seat h_shawls_9 h_count h_steps h_numbers h_turn_11 h_warmth_12 hy13) (cwV 0 hts (gA_V wl_263 wl_264 wl_265 wl_14 wl_266) rfl rfl rfl (by decide +kernel) ⟨Nat.le_of_ble_eq_true rfl, Nat.le_of_ble_eq_true rfl⟩) rfl rfl rfl hl.1 rfl (Nat.le_of_ble_eq_true rfl) dX2_goOn_8 ⟨Nat.zero_le _, Nat.zero_le _⟩ hK hP hD hS hA (fun H locs hP hD hS => ?_)
        refine lv_iconst (v := 0) hx hb dX2_goOn_11 (by decide) ?_
        refine lv_istore_n (lv' := [(3, .int (0 : Int32)), (0, .ref (a 0)), (1, .int n0), (2, .int x1)]) hx hb dX2_goOn_12 rfl hl (by decide) rfl (fun ls hl => ?_)
        have J13 : ∀ (m13 : Nat) (x14 : Int32) (h_crownedBits_15 : Int32) (h_onBits_16 : Int32) (h_taken_17 : Int32) (h_warmth_18 : (Nat → UInt32)) (h_airCell_19 : (Nat → Int32)) (h_way_20 : (Nat → Int32)) (h_shawls_21 : (Nat → Int32)), f_X2_goOn_b13 h_shutBits h_airs h_sitters h_kind h_figure h_seat x1 h_turn_11 (f_X2_goOn_b2 n0 h_shutBits h_airs h_sitters h_kind h_figure h_seat h_count h_steps h_numbers m2) m13 x14 h_crownedBits_15 h_onBits_16 h_taken_17 h_warmth_18 h_airCell_19 h_way_20 h_shawls_21 = some (z0, z1, z2, z3, z4, z5, z6, z7) → ∀ (H : Heap) (locs : List Loc), va_P D vwCl (w_X2 y a h_shutBits h_airs h_crownedBits_15 h_sitters h_onBits_16 h_turn_11 h_taken_17 h_warmth_18 h_kind h_figure h_airCell_19 h_way_20 h_seat h_shawls_21 h_count h_steps h_numbers) H → va_D A (w_X2 y a h_shutBits h_airs h_crownedBits_15 h_sitters h_onBits_16 h_turn_11 h_taken_17 h_warmth_18 h_kind h_figure h_airCell_19 h_way_20 h_seat h_shawls_21 h_count h_steps h_numbers) → va_S A s.heap H locs → ∀ ls : Array Slot, lv_has ls 4 [(0, .ref (a 0)), (1, .int n0), (2, .int x1), (3, .int x14)] → W p l e ({ frames := 4, cells := 0, slots := 0, locals := 95 } : Room) s m [.ref (a 0), .int n0].toArray below meth c H locs 0 0 (MQ below (dQ D y none s.heap.size (w_X2 y a h_shutBits h_airs h_crownedBits h_sitters h_onBits h_turn h_taken h_warmth h_kind h_figure h_airCell h_way h_seat h_shawls h_count h_steps h_numbers) (w_X2 y a h_shutBits h_airs z0 h_sitters z1 z2 z3 z4 h_kind h_figure z5 z6 h_seat z7 h_count h_steps h_numbers)) [.ref (a 0), .int n0].toArray s 0 0 A) (F0 m 13 ls []) := by
          intro m13
          induction m13 with
          | zero => intro x14 h_crownedBits_15 h_onBits_16 h_taken_17 h_warmth_18 h_airCell_19 h_way_20 h_shawls_21 hf; exact absurd hf (by unfold f_X2_goOn_b13; exact fun h => by cases h)
          | succ m13 I13 =>
            intro x14 h_crownedBits_15 h_onBits_16 h_taken_17 h_warmth_18 h_airCell_19 h_way_20 h_shawls_21 hf H locs hP hD hS ls hl
            unfold f_X2_goOn_b13 at hf
            refine lv_iload_n hx hb dX2_goOn_13 rfl (lv_at hl 3 rfl) ?_
            refine lv_aload_n hx hb dX2_goOn_14 rfl (lv_at hl 0 rfl) ?_
            refine va_get (D := D) (ci := 1) (v := .int h_airs) (C := RX2) (T := TX2) (N := 15) hx hb hts iwX2 hown hK hP 0 rfl rfl 2 (by decide) (hts _ wl_185) (fun _ h9 => h9) rfl dX2_goOn_15 ?_
            refine lv_icmp_ge (tgt := 32) hx hb dX2_goOn_18 (by decide) (fun c22 => ?_) (fun c22 => ?_)
            · have hf := dq_t hf c22
              clear c22
              refine lv_aload_n hx hb dX2_goOn_32 rfl (lv_at hl 0 rfl) ?_
              obtain ⟨h_onBits_23, hy24, hf⟩ := dq_b hf
              refine ct_callV0 (ci := 1) (q0 := 0) (own := RX2) (As := []) (rest := []) (ws' := (w_X2 y a h_shutBits h_airs h_crownedBits_15 h_sitters h_onBits_23 h_turn_11 h_taken_17 h_warmth_18 h_kind h_figure h_airCell_19 h_way_20 h_seat h_shawls_21 h_count h_steps h_numbers)) ⟨hx, hb, hml, hown, hts⟩ (m_X2_freeze l D y a h_shutBits h_airs h_crownedBits_15 h_sitters h_onBits_16 h_turn_11 h_taken_17 h_warmth_18 h_kind h_figure h_airCell_19 h_way_20 h_seat h_shawls_21 h_count h_steps h_numbers h_onBits_23 hy24) (cwV 0 hts (gA_V wl_340 wl_341 wl_342 wl_14 wl_343) rfl rfl rfl (by decide +kernel) ⟨Nat.le_of_ble_eq_true rfl, Nat.le_of_ble_eq_true rfl⟩) rfl rfl rfl hl.1 rfl (Nat.le_of_ble_eq_true rfl) dX2_goOn_33 ⟨Nat.zero_le _, Nat.zero_le _⟩ hK hP hD hS hA (fun H locs hP hD hS => ?_)
              obtain ⟨x25, ex25⟩ : ∃ z : Int32, z = (x1 + (1 : Int32)) := ⟨_, rfl⟩
              have hf := dq_l hf x25 ex25
              refine lv_iinc (v := x25) (lv' := [(2, .int x25), (0, .ref (a 0)), (1, .int n0), (3, .int x14)]) hx hb dX2_goOn_36 hl (k := 2) rfl (by rw [ex25]; rfl) (by decide) rfl (fun ls hl => ?_)
              clear ex25
              refine lv_goto (tgt := 2) hx hb dX2_goOn_39 (by decide) ?_
              exact I2 _ _ _ _ _ _ _ _ _ hf _ _ hP hD hS _ (lv_sub hl [1, 2, 0] rfl)
            · have hf := dq_f hf c22
              clear c22
              refine lv_aload_n hx hb dX2_goOn_21 rfl (lv_at hl 0 rfl) ?_
              refine lv_iload_n hx hb dX2_goOn_22 rfl (lv_at hl 3 rfl) ?_
              obtain ⟨h_crownedBits_26, h_onBits_27, h_taken_28, h_warmth_29, h_airCell_30, h_way_31, h_shawls_32, hy33, hf⟩ := dq_b7 hf
              refine ct_callV0 (ci := 1) (q0 := 0) (own := RX2) (As := [.int x14]) (rest := []) (ws' := (w_X2 y a h_shutBits h_airs h_crownedBits_26 h_sitters h_onBits_27 h_turn_11 h_taken_28 h_warmth_29 h_kind h_figure h_airCell_30 h_way_31 h_seat h_shawls_32 h_count h_steps h_numbers)) ⟨hx, hb, hml, hown, hts⟩ (m_X2_blow l D y a h_shutBits h_airs h_crownedBits_15 h_sitters h_onBits_16 h_turn_11 h_taken_17 h_warmth_18 h_kind h_figure h_airCell_19 h_way_20 h_seat h_shawls_21 h_count h_steps h_numbers x14 h_crownedBits_26 h_onBits_27 h_taken_28 h_warmth_29 h_airCell_30 h_way_31 h_shawls_32 hy33) (cwV 1 hts (gA_V wl_283 wl_284 wl_285 wl_14 wl_286) rfl rfl rfl (by decide +kernel) ⟨Nat.le_of_ble_eq_true rfl, Nat.le_of_ble_eq_true rfl⟩) rfl rfl rfl hl.1 rfl (Nat.le_of_ble_eq_true rfl) dX2_goOn_23 ⟨Nat.zero_le _, Nat.zero_le _⟩ hK hP hD hS hA (fun H locs hP hD hS => ?_)
              obtain ⟨x34, ex34⟩ : ∃ z : Int32, z = (x14 + (1 : Int32)) := ⟨_, rfl⟩
              have hf := dq_l hf x34 ex34
              refine lv_iinc (v := x34) (lv' := [(3, .int x34), (0, .ref (a 0)), (1, .int n0), (2, .int x1)]) hx hb dX2_goOn_26 hl (k := 3) rfl (by rw [ex34]; rfl) (by decide) rfl (fun ls hl => ?_)
              clear ex34
              refine lv_goto (tgt := 13) hx hb dX2_goOn_29 (by decide) ?_
              exact I13 _ _ _ _ _ _ _ _ hf _ _ hP hD hS _ (lv_sub hl [1, 2, 3, 0] rfl)
        exact J13 4096 _ _ _ _ _ _ _ _ hf _ _ hP hD hS _ (lv_sub hl [1, 2, 3, 0] rfl)
  exact J2 4096 _ _ _ _ _ _ _ _ _ hf _ _ hP hD hS _ (lv_sub hl [1, 2, 0] rfl)
noncomputable def f_X2_goOnStill (h_sitters : Int32) (h_onBits : Int32) (h_turn : Int32) (h_warmth : (Nat → UInt32)) (h_seat : (Nat → Int32)) (h_shawls : (Nat → Int32)) (h_count : Int32) (h_steps : (Nat → Int32)) (h_numbers : (Nat → Int32)) : Option (Int32 × Int32 × (Nat → UInt32)) := dq_bd2 (f_X2_begin h_turn h_warmth h_count h_steps h_numbers) (fun (h_turn_1 : Int32) (h_warmth_2 : (Nat → UInt32)) => dq_bd (f_X2_freeze h_sitters h_onBits h_warmth_2 h_seat h_shawls) (fun (h_onBits_4 : Int32) => some (h_onBits_4, h_turn_1, h_warmth_2)))
def wA_X2_goOnStill : List Cond := .code yX2_goOnStill cX2_goOnStill 1 none :: wsL_law
-- DraughtsTake$House.goOnStill()V
set_option maxHeartbeats 4000000 in
set_option maxRecDepth 100000 in
theorem m_X2_goOnStill (l : Launch) (D : va_G) (y : Nat → ClassId) (a : (Nat → Nat)) (h_shutBits : Int64) (h_airs : Int32) (h_crownedBits : Int32) (h_sitters : Int32) (h_onBits : Int32) (h_turn : Int32) (h_taken : Int32) (h_warmth : (Nat → UInt32)) (h_kind : (Nat → Int32)) (h_figure : (Nat → Int32)) (h_airCell : (Nat → Int32)) (h_way : (Nat → Int32)) (h_seat : (Nat → Int32)) (h_shawls : (Nat → Int32)) (h_count : Int32) (h_steps : (Nat → Int32)) (h_numbers : (Nat → Int32)) (z0 : Int32) (z1 : Int32) (z2 : (Nat → UInt32)) (hf : f_X2_goOnStill h_sitters h_onBits h_turn h_warmth h_seat h_shawls h_count h_steps h_numbers = some (z0, z1, z2)) : Ct l D y yX2_goOnStill wA_X2_goOnStill 3 66 [.ref (a 0)] (w_X2 y a h_shutBits h_airs h_crownedBits h_sitters h_onBits h_turn h_taken h_warmth h_kind h_figure h_airCell h_way h_seat h_shawls h_count h_steps h_numbers) (w_X2 y a h_shutBits h_airs h_crownedBits h_sitters z0 z1 h_taken z2 h_kind h_figure h_airCell h_way h_seat h_shawls h_count h_steps h_numbers) none := by
  refine ct_head (cc := cX2_goOnStill) (n := 1) (ret := none) (by decide) rfl (Nat.le_of_ble_eq_true rfl) ?_
  intro p e s m below meth c A ls hx hb hr hml hown hlocks hts hA hAe hP hK hD hl
  have hS : va_S A s.heap s.heap [] := va_S.rf
  have hl : lv_has ls 1 [(0, .ref (a 0))] := hl
  have hown : s.vm.findClass RX2 = some m.cls := hown
  have hts : ∀ w ∈ wsL_law, w.before [.ref (a 0)].toArray s = true := fun w h => hts w (List.mem_cons_of_mem _ h)
  unfold f_X2_goOnStill at hf
  refine lv_aload_n hx hb dX2_goOnStill_0 rfl (lv_at hl 0 rfl) ?_
  obtain ⟨h_turn_1, h_warmth_2, hy3, hf⟩ := dq_b2 hf
  refine ct_callV0 (ci := 1) (q0 := 0) (own := RX2) (As := []) (rest := []) (ws' := (w_X2 y a h_shutBits h_airs h_crownedBits h_sitters h_onBits h_turn_1 h_taken h_warmth_2 h_kind h_figure h_airCell h_way h_seat h_shawls h_count h_steps h_numbers)) ⟨hx, hb, hml, hown, hts⟩ (m_X2_begin l D y a h_shutBits h_airs h_crownedBits h_sitters h_onBits h_turn h_taken h_warmth h_kind h_figure h_airCell h_way h_seat h_shawls h_count h_steps h_numbers h_turn_1 h_warmth_2 hy3) (cwV 0 hts (gA_V wl_263 wl_264 wl_265 wl_14 wl_266) rfl rfl rfl (by decide +kernel) ⟨Nat.le_of_ble_eq_true rfl, Nat.le_of_ble_eq_true rfl⟩) rfl rfl rfl hl.1 rfl (Nat.le_of_ble_eq_true rfl) dX2_goOnStill_1 ⟨Nat.zero_le _, Nat.zero_le _⟩ hK hP hD hS hA (fun H locs hP hD hS => ?_)
  refine lv_aload_n hx hb dX2_goOnStill_4 rfl (lv_at hl 0 rfl) ?_
  obtain ⟨h_onBits_4, hy5, hf⟩ := dq_b hf
  refine ct_callV0 (ci := 1) (q0 := 0) (own := RX2) (As := []) (rest := []) (ws' := (w_X2 y a h_shutBits h_airs h_crownedBits h_sitters h_onBits_4 h_turn_1 h_taken h_warmth_2 h_kind h_figure h_airCell h_way h_seat h_shawls h_count h_steps h_numbers)) ⟨hx, hb, hml, hown, hts⟩ (m_X2_freeze l D y a h_shutBits h_airs h_crownedBits h_sitters h_onBits h_turn_1 h_taken h_warmth_2 h_kind h_figure h_airCell h_way h_seat h_shawls h_count h_steps h_numbers h_onBits_4 hy5) (cwV 0 hts (gA_V wl_340 wl_341 wl_342 wl_14 wl_343) rfl rfl rfl (by decide +kernel) ⟨Nat.le_of_ble_eq_true rfl, Nat.le_of_ble_eq_true rfl⟩) rfl rfl rfl hl.1 rfl (Nat.le_of_ble_eq_true rfl) dX2_goOnStill_5 ⟨Nat.zero_le _, Nat.zero_le _⟩ hK hP hD hS hA (fun H locs hP hD hS => ?_)
  obtain ⟨rfl, rfl, rfl⟩ := dq_r3 hf
  exact ct_vret hx hb hr hlocks hAe hP hK hD hS dX2_goOnStill_8
noncomputable def f_X2_goOnTillOff_b2 (n0 : Int32) (h_shutBits : Int64) (h_airs : Int32) (h_sitters : Int32) (h_kind : (Nat → Int32)) (h_figure : (Nat → Int32)) (h_seat : (Nat → Int32)) (h_count : Int32) (h_steps : (Nat → Int32)) (h_numbers : (Nat → Int32))  : Nat → Int32 → Int32 → Int32 → Int32 → Int32 → (Nat → UInt32) → (Nat → Int32) → (Nat → Int32) → (Nat → Int32) → Option (Int32 × Int32 × Int32 × Int32 × Int32 × (Nat → UInt32) × (Nat → Int32) × (Nat → Int32) × (Nat → Int32))
  | 0, _, _, _, _, _, _, _, _, _ => none
  | m2 + 1, x1, h_crownedBits_2, h_onBits_3, h_turn_4, h_taken_5, h_warmth_6, h_airCell_7, h_way_8, h_shawls_9 => dq_if ((60 : Int32) ≤ x1) (dq_bd (f_X2_isOn h_onBits_3 n0) (fun (x11 : Int32) => dq_if (x11 = 0) (some ((60 : Int32), h_crownedBits_2, h_onBits_3, h_turn_4, h_taken_5, h_warmth_6, h_airCell_7, h_way_8, h_shawls_9)) (some ((61 : Int32), h_crownedBits_2, h_onBits_3, h_turn_4, h_taken_5, h_warmth_6, h_airCell_7, h_way_8, h_shawls_9)))) (dq_bd (f_X2_isOn h_onBits_3 n0) (fun (x14 : Int32) => dq_if (x14 = 0) (some (x1, h_crownedBits_2, h_onBits_3, h_turn_4, h_taken_5, h_warmth_6, h_airCell_7, h_way_8, h_shawls_9)) (dq_bd8 (f_X2_goOn h_shutBits h_airs h_crownedBits_2 h_sitters h_onBits_3 h_turn_4 h_taken_5 h_warmth_6 h_kind h_figure h_airCell_7 h_way_8 h_seat h_shawls_9 h_count h_steps h_numbers (1 : Int32)) (fun (h_crownedBits_17 : Int32) (h_onBits_18 : Int32) (h_turn_19 : Int32) (h_taken_20 : Int32) (h_warmth_21 : (Nat → UInt32)) (h_airCell_22 : (Nat → Int32)) (h_way_23 : (Nat → Int32)) (h_shawls_24 : (Nat → Int32)) => dq_let (x1 + (1 : Int32)) (fun (x26 : Int32) => (f_X2_goOnTillOff_b2 n0 h_shutBits h_airs h_sitters h_kind h_figure h_seat h_count h_steps h_numbers m2) x26 h_crownedBits_17 h_onBits_18 h_turn_19 h_taken_20 h_warmth_21 h_airCell_22 h_way_23 h_shawls_24)))))
noncomputable def f_X2_goOnTillOff (h_shutBits : Int64) (h_airs : Int32) (h_crownedBits : Int32) (h_sitters : Int32) (h_onBits : Int32) (h_turn : Int32) (h_taken : Int32) (h_warmth : (Nat → UInt32)) (h_kind : (Nat → Int32)) (h_figure : (Nat → Int32)) (h_airCell : (Nat → Int32)) (h_way : (Nat → Int32)) (h_seat : (Nat → Int32)) (h_shawls : (Nat → Int32)) (h_count : Int32) (h_steps : (Nat → Int32)) (h_numbers : (Nat → Int32)) (n0 : Int32) : Option (Int32 × Int32 × Int32 × Int32 × Int32 × (Nat → UInt32) × (Nat → Int32) × (Nat → Int32) × (Nat → Int32)) := f_X2_goOnTillOff_b2 n0 h_shutBits h_airs h_sitters h_kind h_figure h_seat h_count h_steps h_numbers 4096 (0 : Int32) h_crownedBits h_onBits h_turn h_taken h_warmth h_airCell h_way h_shawls
def wA_X2_goOnTillOff : List Cond := .code yX2_goOnTillOff cX2_goOnTillOff 3 (some .int) :: wsL_law
-- DraughtsTake$House.goOnTillOff(I)I
set_option maxHeartbeats 4000000 in
set_option maxRecDepth 100000 in
theorem m_X2_goOnTillOff (l : Launch) (D : va_G) (y : Nat → ClassId) (a : (Nat → Nat)) (h_shutBits : Int64) (h_airs : Int32) (h_crownedBits : Int32) (h_sitters : Int32) (h_onBits : Int32) (h_turn : Int32) (h_taken : Int32) (h_warmth : (Nat → UInt32)) (h_kind : (Nat → Int32)) (h_figure : (Nat → Int32)) (h_airCell : (Nat → Int32)) (h_way : (Nat → Int32)) (h_seat : (Nat → Int32)) (h_shawls : (Nat → Int32)) (h_count : Int32) (h_steps : (Nat → Int32)) (h_numbers : (Nat → Int32)) (n0 : Int32) (z0 : Int32) (z1 : Int32) (z2 : Int32) (z3 : Int32) (z4 : Int32) (z5 : (Nat → UInt32)) (z6 : (Nat → Int32)) (z7 : (Nat → Int32)) (z8 : (Nat → Int32)) (hf : f_X2_goOnTillOff h_shutBits h_airs h_crownedBits h_sitters h_onBits h_turn h_taken h_warmth h_kind h_figure h_airCell h_way h_seat h_shawls h_count h_steps h_numbers n0 = some (z0, z1, z2, z3, z4, z5, z6, z7, z8)) : Ct l D y yX2_goOnTillOff wA_X2_goOnTillOff 5 118 [.ref (a 0), .int n0] (w_X2 y a h_shutBits h_airs h_crownedBits h_sitters h_onBits h_turn h_taken h_warmth h_kind h_figure h_airCell h_way h_seat h_shawls h_count h_steps h_numbers) (w_X2 y a h_shutBits h_airs z1 h_sitters z2 z3 z4 z5 h_kind h_figure z6 z7 h_seat z8 h_count h_steps h_numbers) (some (.int z0)) := by
  refine ct_head (cc := cX2_goOnTillOff) (n := 3) (ret := (some .int)) (by decide) rfl (Nat.le_of_ble_eq_true rfl) ?_
  intro p e s m below meth c A ls hx hb hr hml hown hlocks hts hA hAe hP hK hD hl
  have hS : va_S A s.heap s.heap [] := va_S.rf
  have hl : lv_has ls 3 [(0, .ref (a 0)), (1, .int n0)] := hl
  have hown : s.vm.findClass RX2 = some m.cls := hown
  have hts : ∀ w ∈ wsL_law, w.before [.ref (a 0), .int n0].toArray s = true := fun w h => hts w (List.mem_cons_of_mem _ h)
  unfold f_X2_goOnTillOff at hf
  refine lv_iconst (v := 0) hx hb dX2_goOnTillOff_0 (by decide) ?_
  refine lv_istore_n (lv' := [(2, .int (0 : Int32)), (0, .ref (a 0)), (1, .int n0)]) hx hb dX2_goOnTillOff_1 rfl hl (by decide) rfl (fun ls hl => ?_)
  have J2 : ∀ (m2 : Nat) (x1 : Int32) (h_crownedBits_2 : Int32) (h_onBits_3 : Int32) (h_turn_4 : Int32) (h_taken_5 : Int32) (h_warmth_6 : (Nat → UInt32)) (h_airCell_7 : (Nat → Int32)) (h_way_8 : (Nat → Int32)) (h_shawls_9 : (Nat → Int32)), f_X2_goOnTillOff_b2 n0 h_shutBits h_airs h_sitters h_kind h_figure h_seat h_count h_steps h_numbers m2 x1 h_crownedBits_2 h_onBits_3 h_turn_4 h_taken_5 h_warmth_6 h_airCell_7 h_way_8 h_shawls_9 = some (z0, z1, z2, z3, z4, z5, z6, z7, z8) → ∀ (H : Heap) (locs : List Loc), va_P D vwCl (w_X2 y a h_shutBits h_airs h_crownedBits_2 h_sitters h_onBits_3 h_turn_4 h_taken_5 h_warmth_6 h_kind h_figure h_airCell_7 h_way_8 h_seat h_shawls_9 h_count h_steps h_numbers) H → va_D A (w_X2 y a h_shutBits h_airs h_crownedBits_2 h_sitters h_onBits_3 h_turn_4 h_taken_5 h_warmth_6 h_kind h_figure h_airCell_7 h_way_8 h_seat h_shawls_9 h_count h_steps h_numbers) → va_S A s.heap H locs → ∀ ls : Array Slot, lv_has ls 3 [(0, .ref (a 0)), (1, .int n0), (2, .int x1)] → W p l e ({ frames := 5, cells := 0, slots := 0, locals := 118 } : Room) s m [.ref (a 0), .int n0].toArray below meth c H locs 0 0 (MQ below (dQ D y (some (.int z0)) s.heap.size (w_X2 y a h_shutBits h_airs h_crownedBits h_sitters h_onBits h_turn h_taken h_warmth h_kind h_figure h_airCell h_way h_seat h_shawls h_count h_steps h_numbers) (w_X2 y a h_shutBits h_airs z1 h_sitters z2 z3 z4 z5 h_kind h_figure z6 z7 h_seat z8 h_count h_steps h_numbers)) [.ref (a 0), .int n0].toArray s 0 0 A) (F0 m 2 ls []) := by
    intro m2
    induction m2 with
    | zero => intro x1 h_crownedBits_2 h_onBits_3 h_turn_4 h_taken_5 h_warmth_6 h_airCell_7 h_way_8 h_shawls_9 hf; exact absurd hf (by unfold f_X2_goOnTillOff_b2; exact fun h => by cases h)
    | succ m2 I2 =>
      intro x1 h_crownedBits_2 h_onBits_3 h_turn_4 h_taken_5 h_warmth_6 h_airCell_7 h_way_8 h_shawls_9 hf H locs hP hD hS ls hl
      unfold f_X2_goOnTillOff_b2 at hf
      refine lv_iload_n hx hb dX2_goOnTillOff_2 rfl (lv_at hl 2 rfl) ?_
      refine lv_bipush (v := 60) hx hb dX2_goOnTillOff_3 (by decide) ?_
      refine lv_icmp_ge (tgt := 29) hx hb dX2_goOnTillOff_5 (by decide) (fun c10 => ?_) (fun c10 => ?_)
      · have hf := dq_t hf c10
        clear c10
        refine lv_aload_n hx hb dX2_goOnTillOff_29 rfl (lv_at hl 0 rfl) ?_
        refine lv_iload_n hx hb dX2_goOnTillOff_30 rfl (lv_at hl 1 rfl) ?_
        obtain ⟨x11, hy12, hf⟩ := dq_b hf
        refine ct_callV0 (ci := 1) (q0 := 0) (own := RX2) (As := [.int n0]) (rest := []) (ws' := (w_X2 y a h_shutBits h_airs h_crownedBits_2 h_sitters h_onBits_3 h_turn_4 h_taken_5 h_warmth_6 h_kind h_figure h_airCell_7 h_way_8 h_seat h_shawls_9 h_count h_steps h_numbers)) ⟨hx, hb, hml, hown, hts⟩ (m_X2_isOn l D y a h_shutBits h_airs h_crownedBits_2 h_sitters h_onBits_3 h_turn_4 h_taken_5 h_warmth_6 h_kind h_figure h_airCell_7 h_way_8 h_seat h_shawls_9 h_count h_steps h_numbers n0 x11 hy12) (cwV 1 hts (gA_V wl_344 wl_345 wl_346 wl_14 wl_347) rfl rfl rfl (by decide +kernel) ⟨Nat.le_of_ble_eq_true rfl, Nat.le_of_ble_eq_true rfl⟩) rfl rfl rfl hl.1 rfl (Nat.le_of_ble_eq_true rfl) dX2_goOnTillOff_31 ⟨Nat.zero_le _, Nat.zero_le _⟩ hK hP hD hS hA (fun H locs hP hD hS => ?_)
        refine lv_if_eq (tgt := 42) hx hb dX2_goOnTillOff_34 (by decide) (fun c13 => ?_) (fun c13 => ?_)
        · have hf := dq_t hf c13
          clear c13
          refine lv_bipush (v := 60) hx hb dX2_goOnTillOff_42 (by decide) ?_
          obtain ⟨rfl, rfl, rfl, rfl, rfl, rfl, rfl, rfl, rfl⟩ := dq_r9 hf
          exact ct_iret hx hb hr hlocks hAe hP hK hD hS dX2_goOnTillOff_44
        · have hf := dq_f hf c13
          clear c13
          refine lv_bipush (v := 61) hx hb dX2_goOnTillOff_37 (by decide) ?_
          refine lv_goto (tgt := 44) hx hb dX2_goOnTillOff_39 (by decide) ?_
          obtain ⟨rfl, rfl, rfl, rfl, rfl, rfl, rfl, rfl, rfl⟩ := dq_r9 hf
          exact ct_iret hx hb hr hlocks hAe hP hK hD hS dX2_goOnTillOff_44
      · have hf := dq_f hf c10
        clear c10
        refine lv_aload_n hx hb dX2_goOnTillOff_8 rfl (lv_at hl 0 rfl) ?_
        refine lv_iload_n hx hb dX2_goOnTillOff_9 rfl (lv_at hl 1 rfl) ?_
        obtain ⟨x14, hy15, hf⟩ := dq_b hf
        refine ct_callV0 (ci := 1) (q0 := 0) (own := RX2) (As := [.int n0]) (rest := []) (ws' := (w_X2 y a h_shutBits h_airs h_crownedBits_2 h_sitters h_onBits_3 h_turn_4 h_taken_5 h_warmth_6 h_kind h_figure h_airCell_7 h_way_8 h_seat h_shawls_9 h_count h_steps h_numbers)) ⟨hx, hb, hml, hown, hts⟩ (m_X2_isOn l D y a h_shutBits h_airs h_crownedBits_2 h_sitters h_onBits_3 h_turn_4 h_taken_5 h_warmth_6 h_kind h_figure h_airCell_7 h_way_8 h_seat h_shawls_9 h_count h_steps h_numbers n0 x14 hy15) (cwV 1 hts (gA_V wl_344 wl_345 wl_346 wl_14 wl_347) rfl rfl rfl (by decide +kernel) ⟨Nat.le_of_ble_eq_true rfl, Nat.le_of_ble_eq_true rfl⟩) rfl rfl rfl hl.1 rfl (Nat.le_of_ble_eq_true rfl) dX2_goOnTillOff_10 ⟨Nat.zero_le _, Nat.zero_le _⟩ hK hP hD hS hA (fun H locs hP hD hS => ?_)
        refine lv_if_ne (tgt := 18) hx hb dX2_goOnTillOff_13 (by decide) (fun c16 => ?_) (fun c16 => ?_)
        · have hf := dq_f hf c16
          clear c16
          refine lv_aload_n hx hb dX2_goOnTillOff_18 rfl (lv_at hl 0 rfl) ?_
          refine lv_iconst (v := 1) hx hb dX2_goOnTillOff_19 (by decide) ?_
          obtain ⟨h_crownedBits_17, h_onBits_18, h_turn_19, h_taken_20, h_warmth_21, h_airCell_22, h_way_23, h_shawls_24, hy25, hf⟩ := dq_b8 hf
          refine ct_callV0 (ci := 1) (q0 := 0) (own := RX2) (As := [.int (1 : Int32)]) (rest := []) (ws' := (w_X2 y a h_shutBits h_airs h_crownedBits_17 h_sitters h_onBits_18 h_turn_19 h_taken_20 h_warmth_21 h_kind h_figure h_airCell_22 h_way_23 h_seat h_shawls_24 h_count h_steps h_numbers)) ⟨hx, hb, hml, hown, hts⟩ (m_X2_goOn l D y a h_shutBits h_airs h_crownedBits_2 h_sitters h_onBits_3 h_turn_4 h_taken_5 h_warmth_6 h_kind h_figure h_airCell_7 h_way_8 h_seat h_shawls_9 h_count h_steps h_numbers (1 : Int32) h_crownedBits_17 h_onBits_18 h_turn_19 h_taken_20 h_warmth_21 h_airCell_22 h_way_23 h_shawls_24 hy25) (cwV 1 hts (gA_V wl_798 wl_260 wl_261 wl_14 wl_262) rfl rfl rfl (by decide +kernel) ⟨Nat.le_of_ble_eq_true rfl, Nat.le_of_ble_eq_true rfl⟩) rfl rfl rfl hl.1 rfl (Nat.le_of_ble_eq_true rfl) dX2_goOnTillOff_20 ⟨Nat.zero_le _, Nat.zero_le _⟩ hK hP hD hS hA (fun H locs hP hD hS => ?_)
          obtain ⟨x26, ex26⟩ : ∃ z : Int32, z = (x1 + (1 : Int32)) := ⟨_, rfl⟩
          have hf := dq_l hf x26 ex26
          refine lv_iinc (v := x26) (lv' := [(2, .int x26), (0, .ref (a 0)), (1, .int n0)]) hx hb dX2_goOnTillOff_23 hl (k := 2) rfl (by rw [ex26]; rfl) (by decide) rfl (fun ls hl => ?_)
          clear ex26
          refine lv_goto (tgt := 2) hx hb dX2_goOnTillOff_26 (by decide) ?_
          exact I2 _ _ _ _ _ _ _ _ _ hf _ _ hP hD hS _ (lv_sub hl [1, 2, 0] rfl)
        · have hf := dq_t hf c16
          clear c16
          refine lv_iload_n hx hb dX2_goOnTillOff_16 rfl (lv_at hl 2 rfl) ?_
          obtain ⟨rfl, rfl, rfl, rfl, rfl, rfl, rfl, rfl, rfl⟩ := dq_r9 hf
          exact ct_iret hx hb hr hlocks hAe hP hK hD hS dX2_goOnTillOff_17
  exact J2 4096 _ _ _ _ _ _ _ _ _ hf _ _ hP hD hS _ (lv_sub hl [1, 2, 0] rfl)
