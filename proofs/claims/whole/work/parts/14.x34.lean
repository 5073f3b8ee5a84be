def w_X3_keep (y : Nat → ClassId) (a : Nat → Nat) (b : Nat → Nat) (p_next : Int32) (p_count : Int32) (p_k_shutBits : (Nat → Int64)) (p_k_airs : (Nat → Int32)) (p_k_crownedBits : (Nat → Int32)) (p_k_sitters : (Nat → Int32)) (p_k_onBits : (Nat → Int32)) (p_k_turn : (Nat → Int32)) (p_k_taken : (Nat → Int32)) (p_k_warmth : (Nat → Nat → UInt32)) (p_k_kind : (Nat → Nat → Int32)) (p_k_figure : (Nat → Nat → Int32)) (p_k_airCell : (Nat → Nat → Int32)) (p_k_way : (Nat → Nat → Int32)) (p_k_seat : (Nat → Nat → Int32)) (p_k_shawls : (Nat → Nat → Int32)) (p_k_count : (Nat → Int32)) (p_k_steps : (Nat → Nat → Int32)) (p_k_numbers : (Nat → Nat → Int32)) (o_shutBits : Int64) (o_airs : Int32) (o_crownedBits : Int32) (o_sitters : Int32) (o_onBits : Int32) (o_turn : Int32) (o_taken : Int32) (o_warmth : (Nat → UInt32)) (o_kind : (Nat → Int32)) (o_figure : (Nat → Int32)) (o_airCell : (Nat → Int32)) (o_way : (Nat → Int32)) (o_seat : (Nat → Int32)) (o_shawls : (Nat → Int32)) (o_count : Int32) (o_steps : (Nat → Int32)) (o_numbers : (Nat → Int32)) : va_W := [((a 0), .inr (2, [.ref (a 1), .int p_next, .int p_count])), ((a 1), .inl (y 3, 8, .inr (.inr (.inr (.inr (fun i => if i < 8 then some (a (2 + 11 * i)) else none)))))), ((a 2), .inr (1, [.ref (a 3), .long (p_k_shutBits 0), .int (p_k_airs 0), .ref (a 4), .ref (a 5), .ref (a 6), .ref (a 7), .int (p_k_crownedBits 0), .int (p_k_sitters 0), .ref (a 8), .ref (a 9), .int (p_k_onBits 0), .int (p_k_turn 0), .int (p_k_taken 0), .ref (a 10)])), ((a 3), .inl (y 0, 36, .inr (.inr (.inl (p_k_warmth 0))))), ((a 4), .inl (y 1, 5, .inl (p_k_kind 0))), ((a 5), .inl (y 1, 5, .inl (p_k_figure 0))), ((a 6), .inl (y 1, 5, .inl (p_k_airCell 0))), ((a 7), .inl (y 1, 5, .inl (p_k_way 0))), ((a 8), .inl (y 1, 6, .inl (p_k_seat 0))), ((a 9), .inl (y 1, 6, .inl (p_k_shawls 0))), ((a 10), .inr (0, [.ref (a 11), .ref (a 12), .int (p_k_count 0)])), ((a 11), .inl (y 1, 6, .inl (p_k_steps 0))), ((a 12), .inl (y 1, 6, .inl (p_k_numbers 0))), ((a 13), .inr (1, [.ref (a 14), .long (p_k_shutBits 1), .int (p_k_airs 1), .ref (a 15), .ref (a 16), .ref (a 17), .ref (a 18), .int (p_k_crownedBits 1), .int (p_k_sitters 1), .ref (a 19), .ref (a 20), .int (p_k_onBits 1), .int (p_k_turn 1), .int (p_k_taken 1), .ref (a 21)])), ((a 14), .inl (y 0, 36, .inr (.inr (.inl (p_k_warmth 1))))), ((a 15), .inl (y 1, 5, .inl (p_k_kind 1))), ((a 16), .inl (y 1, 5, .inl (p_k_figure 1))), ((a 17), .inl (y 1, 5, .inl (p_k_airCell 1))), ((a 18), .inl (y 1, 5, .inl (p_k_way 1))), ((a 19), .inl (y 1, 6, .inl (p_k_seat 1))), ((a 20), .inl (y 1, 6, .inl (p_k_shawls 1))), ((a 21), .inr (0, [.ref (a 22), .ref (a 23), .int (p_k_count 1)])), ((a 22), .inl (y 1, 6, .inl (p_k_steps 1))), ((a 23), .inl (y 1, 6, .inl (p_k_numbers 1))), ((a 24), .inr (1, [.ref (a 25), .long (p_k_shutBits 2), .int (p_k_airs 2), .ref (a 26), .ref (a 27), .ref (a 28), .ref (a 29), .int (p_k_crownedBits 2), .int (p_k_sitters 2), .ref (a 30), .ref (a 31), .int (p_k_onBits 2), .int (p_k_turn 2), .int (p_k_taken 2), .ref (a 32)])), ((a 25), .inl (y 0, 36, .inr (.inr (.inl (p_k_warmth 2))))), ((a 26), .inl (y 1, 5, .inl (p_k_kind 2))), ((a 27), .inl (y 1, 5, .inl (p_k_figure 2))), ((a 28), .inl (y 1, 5, .inl (p_k_airCell 2))), ((a 29), .inl (y 1, 5, .inl (p_k_way 2))), ((a 30), .inl (y 1, 6, .inl (p_k_seat 2))), ((a 31), .inl (y 1, 6, .inl (p_k_shawls 2))), ((a 32), .inr (0, [.ref (a 33), .ref (a 34), .int (p_k_count 2)])), ((a 33), .inl (y 1, 6, .inl (p_k_steps 2))), ((a 34), .inl (y 1, 6, .inl (p_k_numbers 2))), ((a 35), .inr (1, [.ref (a 36), .long (p_k_shutBits 3), .int (p_k_airs 3), .ref (a 37), .ref (a 38), .ref (a 39), .ref (a 40), .int (p_k_crownedBits 3), .int (p_k_sitters 3), .ref (a 41), .ref (a 42), .int (p_k_onBits 3), .int (p_k_turn 3), .int (p_k_taken 3), .ref (a 43)])), ((a 36), .inl (y 0, 36, .inr (.inr (.inl (p_k_warmth 3))))), ((a 37), .inl (y 1, 5, .inl (p_k_kind 3))), ((a 38), .inl (y 1, 5, .inl (p_k_figure 3))), ((a 39), .inl (y 1, 5, .inl (p_k_airCell 3))), ((a 40), .inl (y 1, 5, .inl (p_k_way 3))), ((a 41), .inl (y 1, 6, .inl (p_k_seat 3))), ((a 42), .inl (y 1, 6, .inl (p_k_shawls 3))), ((a 43), .inr (0, [.ref (a 44), .ref (a 45), .int (p_k_count 3)])), ((a 44), .inl (y 1, 6, .inl (p_k_steps 3))), ((a 45), .inl (y 1, 6, .inl (p_k_numbers 3))), ((a 46), .inr (1, [.ref (a 47), .long (p_k_shutBits 4), .int (p_k_airs 4), .ref (a 48), .ref (a 49), .ref (a 50), .ref (a 51), .int (p_k_crownedBits 4), .int (p_k_sitters 4), .ref (a 52), .ref (a 53), .int (p_k_onBits 4), .int (p_k_turn 4), .int (p_k_taken 4), .ref (a 54)])), ((a 47), .inl (y 0, 36, .inr (.inr (.inl (p_k_warmth 4))))), ((a 48), .inl (y 1, 5, .inl (p_k_kind 4))), ((a 49), .inl (y 1, 5, .inl (p_k_figure 4))), ((a 50), .inl (y 1, 5, .inl (p_k_airCell 4))), ((a 51), .inl (y 1, 5, .inl (p_k_way 4))), ((a 52), .inl (y 1, 6, .inl (p_k_seat 4))), ((a 53), .inl (y 1, 6, .inl (p_k_shawls 4))), ((a 54), .inr (0, [.ref (a 55), .ref (a 56), .int (p_k_count 4)])), ((a 55), .inl (y 1, 6, .inl (p_k_steps 4))), ((a 56), .inl (y 1, 6, .inl (p_k_numbers 4))), ((a 57), .inr (1, [.ref (a 58), .long (p_k_shutBits 5), .int (p_k_airs 5), .ref (a 59), .ref (a 60), .ref (a 61), .ref (a 62), .int (p_k_crownedBits 5), .int (p_k_sitters 5), .ref (a 63), .ref (a 64), .int (p_k_onBits 5), .int (p_k_turn 5), .int (p_k_taken 5), .ref (a 65)])), ((a 58), .inl (y 0, 36, .inr (.inr (.inl (p_k_warmth 5))))), ((a 59), .inl (y 1, 5, .inl (p_k_kind 5))), ((a 60), .inl (y 1, 5, .inl (p_k_figure 5))), ((a 61), .inl (y 1, 5, .inl (p_k_airCell 5))), ((a 62), .inl (y 1, 5, .inl (p_k_way 5))), ((a 63), .inl (y 1, 6, .inl (p_k_seat 5))), ((a 64), .inl (y 1, 6, .inl (p_k_shawls 5))), ((a 65), .inr (0, [.ref (a 66), .ref (a 67), .int (p_k_count 5)])), ((a 66), .inl (y 1, 6, .inl (p_k_steps 5))), ((a 67), .inl (y 1, 6, .inl (p_k_numbers 5))), ((a 68), .inr (1, [.ref (a 69), .long (p_k_shutBits 6), .int (p_k_airs 6), .ref (a 70), .ref (a 71), .ref (a 72), .ref (a 73), .int (p_k_crownedBits 6), .int (p_k_sitters 6), .ref (a 74), .ref (a 75), .int (p_k_onBits 6), .int (p_k_turn 6), .int (p_k_taken 6), .ref (a 76)])), ((a 69), .inl (y 0, 36, .inr (.inr (.inl (p_k_warmth 6))))), ((a 70), .inl (y 1, 5, .inl (p_k_kind 6))), ((a 71), .inl (y 1, 5, .inl (p_k_figure 6))), ((a 72), .inl (y 1, 5, .inl (p_k_airCell 6))), ((a 73), .inl (y 1, 5, .inl (p_k_way 6))), ((a 74), .inl (y 1, 6, .inl (p_k_seat 6))), ((a 75), .inl (y 1, 6, .inl (p_k_shawls 6))), ((a 76), .inr (0, [.ref (a 77), .ref (a 78), .int (p_k_count 6)])), ((a 77), .inl (y 1, 6, .inl (p_k_steps 6))), ((a 78), .inl (y 1, 6, .inl (p_k_numbers 6))), ((a 79), .inr (1, [.ref (a 80), .long (p_k_shutBits 7), .int (p_k_airs 7), .ref (a 81), .ref (a 82), .ref (a 83), .ref (a 84), .int (p_k_crownedBits 7), .int (p_k_sitters 7), .ref (a 85), .ref (a 86), .int (p_k_onBits 7), .int (p_k_turn 7), .int (p_k_taken 7), .ref (a 87)])), ((a 80), .inl (y 0, 36, .inr (.inr (.inl (p_k_warmth 7))))), ((a 81), .inl (y 1, 5, .inl (p_k_kind 7))), ((a 82), .inl (y 1, 5, .inl (p_k_figure 7))), ((a 83), .inl (y 1, 5, .inl (p_k_airCell 7))), ((a 84), .inl (y 1, 5, .inl (p_k_way 7))), ((a 85), .inl (y 1, 6, .inl (p_k_seat 7))), ((a 86), .inl (y 1, 6, .inl (p_k_shawls 7))), ((a 87), .inr (0, [.ref (a 88), .ref (a 89), .int (p_k_count 7)])), ((a 88), .inl (y 1, 6, .inl (p_k_steps 7))), ((a 89), .inl (y 1, 6, .inl (p_k_numbers 7))), ((b 0), .inr (1, [.ref (b 1), .long o_shutBits, .int o_airs, .ref (b 2), .ref (b 3), .ref (b 4), .ref (b 5), .int o_crownedBits, .int o_sitters, .ref (b 6), .ref (b 7), .int o_onBits, .int o_turn, .int o_taken, .ref (b 8)])), ((b 1), .inl (y 0, 36, .inr (.inr (.inl o_warmth)))), ((b 2), .inl (y 1, 5, .inl o_kind)), ((b 3), .inl (y 1, 5, .inl o_figure)), ((b 4), .inl (y 1, 5, .inl o_airCell)), ((b 5), .inl (y 1, 5, .inl o_way)), ((b 6), .inl (y 1, 6, .inl o_seat)), ((b 7), .inl (y 1, 6, .inl o_shawls)), ((b 8), .inr (0, [.ref (b 9), .ref (b 10), .int o_count])), ((b 9), .inl (y 1, 6, .inl o_steps)), ((b 10), .inl (y 1, 6, .inl o_numbers))]
noncomputable def f_X3_keep (p_next : Int32) (p_count : Int32) (p_k_shutBits : (Nat → Int64)) (p_k_airs : (Nat → Int32)) (p_k_crownedBits : (Nat → Int32)) (p_k_sitters : (Nat → Int32)) (p_k_onBits : (Nat → Int32)) (p_k_turn : (Nat → Int32)) (p_k_taken : (Nat → Int32)) (p_k_warmth : (Nat → Nat → UInt32)) (p_k_kind : (Nat → Nat → Int32)) (p_k_figure : (Nat → Nat → Int32)) (p_k_airCell : (Nat → Nat → Int32)) (p_k_way : (Nat → Nat → Int32)) (p_k_seat : (Nat → Nat → Int32)) (p_k_shawls : (Nat → Nat → Int32)) (p_k_count : (Nat → Int32)) (p_k_steps : (Nat → Nat → Int32)) (p_k_numbers : (Nat → Nat → Int32)) (o_shutBits : Int64) (o_airs : Int32) (o_crownedBits : Int32) (o_sitters : Int32) (o_onBits : Int32) (o_turn : Int32) (o_taken : Int32) (o_warmth : (Nat → UInt32)) (o_kind : (Nat → Int32)) (o_figure : (Nat → Int32)) (o_airCell : (Nat → Int32)) (o_way : (Nat → Int32)) (o_seat : (Nat → Int32)) (o_shawls : (Nat → Int32)) (o_count : Int32) (o_steps : (Nat → Int32)) (o_numbers : (Nat → Int32)) : Option (Int32 × Int32 × (Nat → Int64) × (Nat → Int32) × (Nat → Int32) × (Nat → Int32) × (Nat → Int32) × (Nat → Int32) × (Nat → Int32) × (Nat → Nat → UInt32) × (Nat → Nat → Int32) × (Nat → Nat → Int32) × (Nat → Nat → Int32) × (Nat → Nat → Int32) × (Nat → Nat → Int32) × (Nat → Nat → Int32) × (Nat → Int32) × (Nat → Nat → Int32) × (Nat → Nat → Int32)) := dq_gd (vp_in p_next 8) (dq_bd17 (f_X2_take (p_k_warmth p_next.toNatClampNeg) (p_k_kind p_next.toNatClampNeg) (p_k_figure p_next.toNatClampNeg) (p_k_airCell p_next.toNatClampNeg) (p_k_way p_next.toNatClampNeg) (p_k_seat p_next.toNatClampNeg) (p_k_shawls p_next.toNatClampNeg) (p_k_steps p_next.toNatClampNeg) (p_k_numbers p_next.toNatClampNeg) o_shutBits o_airs o_crownedBits o_sitters o_onBits o_turn o_taken o_warmth o_kind o_figure o_airCell o_way o_seat o_shawls o_count o_steps o_numbers) (fun (p_k_shutBits_2 : Int64) (p_k_airs_3 : Int32) (p_k_crownedBits_4 : Int32) (p_k_sitters_5 : Int32) (p_k_onBits_6 : Int32) (p_k_turn_7 : Int32) (p_k_taken_8 : Int32) (p_k_warmth_9 : (Nat → UInt32)) (p_k_kind_10 : (Nat → Int32)) (p_k_figure_11 : (Nat → Int32)) (p_k_airCell_12 : (Nat → Int32)) (p_k_way_13 : (Nat → Int32)) (p_k_seat_14 : (Nat → Int32)) (p_k_shawls_15 : (Nat → Int32)) (p_k_count_16 : Int32) (p_k_steps_17 : (Nat → Int32)) (p_k_numbers_18 : (Nat → Int32)) => dq_let ((p_next + (1 : Int32)) - (p_next + (1 : Int32)) / (8 : Int32) * (8 : Int32)) (fun (x20 : Int32) => dq_let (if (8 : Int32) < (p_count + (1 : Int32)) then (8 : Int32) else (p_count + (1 : Int32))) (fun (x21 : Int32) => some (x20, x21, (va_up p_k_shutBits p_next.toNatClampNeg p_k_shutBits_2), (va_up p_k_airs p_next.toNatClampNeg p_k_airs_3), (va_up p_k_crownedBits p_next.toNatClampNeg p_k_crownedBits_4), (va_up p_k_sitters p_next.toNatClampNeg p_k_sitters_5), (va_up p_k_onBits p_next.toNatClampNeg p_k_onBits_6), (va_up p_k_turn p_next.toNatClampNeg p_k_turn_7), (va_up p_k_taken p_next.toNatClampNeg p_k_taken_8), (va_up p_k_warmth p_next.toNatClampNeg p_k_warmth_9), (va_up p_k_kind p_next.toNatClampNeg p_k_kind_10), (va_up p_k_figure p_next.toNatClampNeg p_k_figure_11), (va_up p_k_airCell p_next.toNatClampNeg p_k_airCell_12), (va_up p_k_way p_next.toNatClampNeg p_k_way_13), (va_up p_k_seat p_next.toNatClampNeg p_k_seat_14), (va_up p_k_shawls p_next.toNatClampNeg p_k_shawls_15), (va_up p_k_count p_next.toNatClampNeg p_k_count_16), (va_up p_k_steps p_next.toNatClampNeg p_k_steps_17), (va_up p_k_numbers p_next.toNatClampNeg p_k_numbers_18))))))
-- DraughtsTake$Past.keep(LDraughtsTake$House;)V
set_option maxHeartbeats 4000000 in
set_option maxRecDepth 100000 in
theorem m_X3_keep (l : Launch) (D : va_G) (y : Nat → ClassId) (a : (Nat → Nat)) (b : (Nat → Nat)) (p_next : Int32) (p_count : Int32) (p_k_shutBits : (Nat → Int64)) (p_k_airs : (Nat → Int32)) (p_k_crownedBits : (Nat → Int32)) (p_k_sitters : (Nat → Int32)) (p_k_onBits : (Nat → Int32)) (p_k_turn : (Nat → Int32)) (p_k_taken : (Nat → Int32)) (p_k_warmth : (Nat → Nat → UInt32)) (p_k_kind : (Nat → Nat → Int32)) (p_k_figure : (Nat → Nat → Int32)) (p_k_airCell : (Nat → Nat → Int32)) (p_k_way : (Nat → Nat → Int32)) (p_k_seat : (Nat → Nat → Int32)) (p_k_shawls : (Nat → Nat → Int32)) (p_k_count : (Nat → Int32)) (p_k_steps : (Nat → Nat → Int32)) (p_k_numbers : (Nat → Nat → Int32)) (o_shutBits : Int64) (o_airs : Int32) (o_crownedBits : Int32) (o_sitters : Int32) (o_onBits : Int32) (o_turn : Int32) (o_taken : Int32) (o_warmth : (Nat → UInt32)) (o_kind : (Nat → Int32)) (o_figure : (Nat → Int32)) (o_airCell : (Nat → Int32)) (o_way : (Nat → Int32)) (o_seat : (Nat → Int32)) (o_shawls : (Nat → Int32)) (o_count : Int32) (o_steps : (Nat → Int32)) (o_numbers : (Nat → Int32)) (z0 : Int32) (z1 : Int32) (z2 : (Nat → Int64)) (z3 : (Nat → Int32)) (z4 : (Nat → Int32)) (z5 : (Nat → Int32)) (z6 : (Nat → Int32)) (z7 : (Nat → Int32)) (z8 : (Nat → Int32)) (z9 : (Nat → Nat → UInt32)) (z10 : (Nat → Nat → Int32)) (z11 : (Nat → Nat → Int32)) (z12 : (Nat → Nat → Int32)) (z13 : (Nat → Nat → Int32)) (z14 : (Nat → Nat → Int32)) (z15 : (Nat → Nat → Int32)) (z16 : (Nat → Int32)) (z17 : (Nat → Nat → Int32)) (z18 : (Nat → Nat → Int32)) (hf : f_X3_keep p_next p_count p_k_shutBits p_k_airs p_k_crownedBits p_k_sitters p_k_onBits p_k_turn p_k_taken p_k_warmth p_k_kind p_k_figure p_k_airCell p_k_way p_k_seat p_k_shawls p_k_count p_k_steps p_k_numbers o_shutBits o_airs o_crownedBits o_sitters o_onBits o_turn o_taken o_warmth o_kind o_figure o_airCell o_way o_seat o_shawls o_count o_steps o_numbers = some (z0, z1, z2, z3, z4, z5, z6, z7, z8, z9, z10, z11, z12, z13, z14, z15, z16, z17, z18)) : Ct l D y yX3_keep wsX3_keep 3 82 [.ref (a 0), .ref (b 0)] (w_X3_keep y a b p_next p_count p_k_shutBits p_k_airs p_k_crownedBits p_k_sitters p_k_onBits p_k_turn p_k_taken p_k_warmth p_k_kind p_k_figure p_k_airCell p_k_way p_k_seat p_k_shawls p_k_count p_k_steps p_k_numbers o_shutBits o_airs o_crownedBits o_sitters o_onBits o_turn o_taken o_warmth o_kind o_figure o_airCell o_way o_seat o_shawls o_count o_steps o_numbers) (w_X3_keep y a b z0 z1 z2 z3 z4 z5 z6 z7 z8 z9 z10 z11 z12 z13 z14 z15 z16 z17 z18 o_shutBits o_airs o_crownedBits o_sitters o_onBits o_turn o_taken o_warmth o_kind o_figure o_airCell o_way o_seat o_shawls o_count o_steps o_numbers) none := by
  refine ct_head (cc := cX3_keep) (n := 2) (ret := none) (by decide) rfl (Nat.le_of_ble_eq_true rfl) ?_
  intro p e s m below meth c A ls hx hb hr hml hown hlocks hts hA hAe hP hK hD hl
  have hS : va_S A s.heap s.heap [] := va_S.rf
  have hl : lv_has ls 2 [(0, .ref (a 0)), (1, .ref (b 0))] := hl
  have hown : s.vm.findClass RX3 = some m.cls := hown
  have hw1 := hts (.fieldLink RX3 11 "DraughtsTake$Past" "kept" "[LDraughtsTake$House;") (List.mem_of_getElem? (i := 1) rfl)
  have hw2 := hts (.fieldLink RX3 18 "DraughtsTake$Past" "next" "I") (List.mem_of_getElem? (i := 2) rfl)
  have hw3 := hts (.fieldLink RX3 26 "DraughtsTake$Past" "count" "I") (List.mem_of_getElem? (i := 3) rfl)
  have hw4 := hts (.methodLink RX3 29 Lib.Math.min.name) (List.mem_of_getElem? (i := 4) rfl)
  have hw5 := hts (.static Lib.Math.min.name) (List.mem_of_getElem? (i := 5) rfl)
  have hw6 := hts (.initialized "java/lang/Math") (List.mem_of_getElem? (i := 6) rfl)
  have hw7 := hts (.code Lib.Math.min.name Lib.Math.min.code 2 (some .int)) (List.mem_of_getElem? (i := 7) rfl)
  have hiX3 : ∀ w ∈ wsX30, w ∈ wsX3_keep := fun w h => List.mem_cons_of_mem _ (List.mem_append_left _ (List.mem_append_left _ (List.mem_append_right _ (h))))
  unfold f_X3_keep at hf
  refine lv_aload_n hx hb dX3_keep_0 rfl (lv_at hl 0 rfl) ?_
  refine va_get (D := D) (ci := 2) (v := .ref (a 1)) (C := RX3) (T := TX3) (N := 3) hx hb hts hiX3 hown hK hP 0 rfl rfl 0 (by decide) hw1 (fun _ h9 => h9) rfl dX3_keep_1 ?_
  refine lv_aload_n hx hb dX3_keep_4 rfl (lv_at hl 0 rfl) ?_
  refine va_get (D := D) (ci := 2) (v := .int p_next) (C := RX3) (T := TX3) (N := 3) hx hb hts hiX3 hown hK hP 0 rfl rfl 1 (by decide) hw2 (fun _ h9 => h9) rfl dX3_keep_5 ?_
  obtain ⟨h1, hf⟩ := dq_g hf
  obtain ⟨j22, hjj22, ej22⟩ := dq_ix h1
  have hjj22 : j22 = 0 ∨ j22 = 1 ∨ j22 = 2 ∨ j22 = 3 ∨ j22 = 4 ∨ j22 = 5 ∨ j22 = 6 ∨ j22 = 7 := by omega
  rcases hjj22 with rfl | rfl | rfl | rfl | rfl | rfl | rfl | rfl
  · try rw [ej22] at hf
    refine dq_aldH (cA := y 3) (n := 8) (b := (a 2)) (f := (fun i => if i < 8 then some (a (2 + 11 * i)) else none)) hx hb hK hP 1 3 rfl rfl h1 (by rw [ej22]; rfl) dX3_keep_8 ?_
    refine lv_aload_n hx hb dX3_keep_9 rfl (lv_at hl 1 rfl) ?_
    obtain ⟨p_k_shutBits_23, p_k_airs_24, p_k_crownedBits_25, p_k_sitters_26, p_k_onBits_27, p_k_turn_28, p_k_taken_29, p_k_warmth_30, p_k_kind_31, p_k_figure_32, p_k_airCell_33, p_k_way_34, p_k_seat_35, p_k_shawls_36, p_k_count_37, p_k_steps_38, p_k_numbers_39, hy40, hf⟩ := dq_b17 hf
    refine ct_callV (ci := 1) (q0 := 0) (own := RX3) (As := [.ref (b 0)]) (rest := []) (ws' := (w_X3_keep y a b p_next p_count (va_up p_k_shutBits 0 p_k_shutBits_23) (va_up p_k_airs 0 p_k_airs_24) (va_up p_k_crownedBits 0 p_k_crownedBits_25) (va_up p_k_sitters 0 p_k_sitters_26) (va_up p_k_onBits 0 p_k_onBits_27) (va_up p_k_turn 0 p_k_turn_28) (va_up p_k_taken 0 p_k_taken_29) (va_up p_k_warmth 0 p_k_warmth_30) (va_up p_k_kind 0 p_k_kind_31) (va_up p_k_figure 0 p_k_figure_32) (va_up p_k_airCell 0 p_k_airCell_33) (va_up p_k_way 0 p_k_way_34) (va_up p_k_seat 0 p_k_seat_35) (va_up p_k_shawls 0 p_k_shawls_36) (va_up p_k_count 0 p_k_count_37) (va_up p_k_steps 0 p_k_steps_38) (va_up p_k_numbers 0 p_k_numbers_39) o_shutBits o_airs o_crownedBits o_sitters o_onBits o_turn o_taken o_warmth o_kind o_figure o_airCell o_way o_seat o_shawls o_count o_steps o_numbers)) ⟨hx, hb, hml, hown, hts⟩ (m_X2_take l D y (fun k => a (2 + k)) b (p_k_shutBits 0) (p_k_airs 0) (p_k_crownedBits 0) (p_k_sitters 0) (p_k_onBits 0) (p_k_turn 0) (p_k_taken 0) (p_k_warmth 0) (p_k_kind 0) (p_k_figure 0) (p_k_airCell 0) (p_k_way 0) (p_k_seat 0) (p_k_shawls 0) (p_k_count 0) (p_k_steps 0) (p_k_numbers 0) o_shutBits o_airs o_crownedBits o_sitters o_onBits o_turn o_taken o_warmth o_kind o_figure o_airCell o_way o_seat o_shawls o_count o_steps o_numbers p_k_shutBits_23 p_k_airs_24 p_k_crownedBits_25 p_k_sitters_26 p_k_onBits_27 p_k_turn_28 p_k_taken_29 p_k_warmth_30 p_k_kind_31 p_k_figure_32 p_k_airCell_33 p_k_way_34 p_k_seat_35 p_k_shawls_36 p_k_count_37 p_k_steps_38 p_k_numbers_39 hy40) (cwV 1 hts gX3_keep_X2_take rfl rfl rfl (by decide +kernel) ⟨Nat.le_of_ble_eq_true rfl, Nat.le_of_ble_eq_true rfl⟩) rfl rfl rfl hl.1 rfl (Nat.le_of_ble_eq_true rfl) dX3_keep_10 ⟨Nat.zero_le _, Nat.zero_le _⟩ hK hP hD hS hA [2, 3, 4, 5, 6, 7, 8, 9, 10, 11, 12, 90, 91, 92, 93, 94, 95, 96, 97, 98, 99, 100] [0, 1, 13, 14, 15, 16, 17, 18, 19, 20, 21, 22, 23, 24, 25, 26, 27, 28, 29, 30, 31, 32, 33, 34, 35, 36, 37, 38, 39, 40, 41, 42, 43, 44, 45, 46, 47, 48, 49, 50, 51, 52, 53, 54, 55, 56, 57, 58, 59, 60, 61, 62, 63, 64, 65, 66, 67, 68, 69, 70, 71, 72, 73, 74, 75, 76, 77, 78, 79, 80, 81, 82, 83, 84, 85, 86, 87, 88, 89] [0, 1, 79, 80, 81, 82, 83, 84, 85, 86, 87, 88, 89, 2, 3, 4, 5, 6, 7, 8, 9, 10, 11, 12, 13, 14, 15, 16, 17, 18, 19, 20, 21, 22, 23, 24, 25, 26, 27, 28, 29, 30, 31, 32, 33, 34, 35, 36, 37, 38, 39, 40, 41, 42, 43, 44, 45, 46, 47, 48, 49, 50, 51, 52, 53, 54, 55, 56, 57, 58, 59, 60, 61, 62, 63, 64, 65, 66, 67, 68, 69, 70, 71, 72, 73, 74, 75, 76, 77, 78, 90, 91, 92, 93, 94, 95, 96, 97, 98, 99, 100] rfl rfl (by decide) (by decide) (by decide) rfl (by decide) (fun H locs hP hD hS => ?_)
    refine lv_aload_n hx hb dX3_keep_13 rfl (lv_at hl 0 rfl) ?_
    refine lv_aload_n hx hb dX3_keep_14 rfl (lv_at hl 0 rfl) ?_
    refine va_get (D := D) (ci := 2) (v := .int p_next) (C := RX3) (T := TX3) (N := 3) hx hb hts hiX3 hown hK hP 0 rfl rfl 1 (by decide) hw2 (fun _ h9 => h9) rfl dX3_keep_15 ?_
    refine lv_iconst (v := 1) hx hb dX3_keep_18 (by decide) ?_
    refine lv_iadd hx hb dX3_keep_19 ?_
    refine lv_bipush (v := 8) hx hb dX3_keep_20 (by decide) ?_
    refine lv_irem hx hb dX3_keep_22 (by decide) ?_
    refine lv_topi (fun x41 ex41 => ?_)
    have hf := dq_l hf x41 ex41
    clear ex41
    refine va_put (D := D) (ci := 2) (v := .int x41) (ty := .int) (C := RX3) (T := TX3) (N := 3) hx hb hts hiX3 tyX3 tyX3_ok nmX3 hown hK hP hD hS 0 rfl rfl 1 (by decide) hw2 (fun _ h9 => h9) rfl (tyX3_ok 1 (by decide)) rfl rfl (Nat.le_of_ble_eq_true rfl) dX3_keep_23 (fun H locs hP hD hS => ?_)
    have hP : va_P D vwCl (w_X3_keep y a b x41 p_count (va_up p_k_shutBits 0 p_k_shutBits_23) (va_up p_k_airs 0 p_k_airs_24) (va_up p_k_crownedBits 0 p_k_crownedBits_25) (va_up p_k_sitters 0 p_k_sitters_26) (va_up p_k_onBits 0 p_k_onBits_27) (va_up p_k_turn 0 p_k_turn_28) (va_up p_k_taken 0 p_k_taken_29) (va_up p_k_warmth 0 p_k_warmth_30) (va_up p_k_kind 0 p_k_kind_31) (va_up p_k_figure 0 p_k_figure_32) (va_up p_k_airCell 0 p_k_airCell_33) (va_up p_k_way 0 p_k_way_34) (va_up p_k_seat 0 p_k_seat_35) (va_up p_k_shawls 0 p_k_shawls_36) (va_up p_k_count 0 p_k_count_37) (va_up p_k_steps 0 p_k_steps_38) (va_up p_k_numbers 0 p_k_numbers_39) o_shutBits o_airs o_crownedBits o_sitters o_onBits o_turn o_taken o_warmth o_kind o_figure o_airCell o_way o_seat o_shawls o_count o_steps o_numbers) H := hP
    have hD : va_D A (w_X3_keep y a b x41 p_count (va_up p_k_shutBits 0 p_k_shutBits_23) (va_up p_k_airs 0 p_k_airs_24) (va_up p_k_crownedBits 0 p_k_crownedBits_25) (va_up p_k_sitters 0 p_k_sitters_26) (va_up p_k_onBits 0 p_k_onBits_27) (va_up p_k_turn 0 p_k_turn_28) (va_up p_k_taken 0 p_k_taken_29) (va_up p_k_warmth 0 p_k_warmth_30) (va_up p_k_kind 0 p_k_kind_31) (va_up p_k_figure 0 p_k_figure_32) (va_up p_k_airCell 0 p_k_airCell_33) (va_up p_k_way 0 p_k_way_34) (va_up p_k_seat 0 p_k_seat_35) (va_up p_k_shawls 0 p_k_shawls_36) (va_up p_k_count 0 p_k_count_37) (va_up p_k_steps 0 p_k_steps_38) (va_up p_k_numbers 0 p_k_numbers_39) o_shutBits o_airs o_crownedBits o_sitters o_onBits o_turn o_taken o_warmth o_kind o_figure o_airCell o_way o_seat o_shawls o_count o_steps o_numbers) := hD
    refine lv_aload_n hx hb dX3_keep_26 rfl (lv_at hl 0 rfl) ?_
    refine lv_aload_n hx hb dX3_keep_27 rfl (lv_at hl 0 rfl) ?_
    refine va_get (D := D) (ci := 2) (v := .int p_count) (C := RX3) (T := TX3) (N := 3) hx hb hts hiX3 hown hK hP 0 rfl rfl 2 (by decide) hw3 (fun _ h9 => h9) rfl dX3_keep_28 ?_
    refine lv_iconst (v := 1) hx hb dX3_keep_31 (by decide) ?_
    refine lv_iadd hx hb dX3_keep_32 ?_
    refine lv_bipush (v := 8) hx hb dX3_keep_33 (by decide) ?_
    refine va_mmin hx hb (hml.trans hl.1.symm) hown hw4 hw5 hw6 hw7 (Nat.le_of_ble_eq_true rfl) (Nat.le_of_ble_eq_true rfl) (Nat.zero_le _) (Nat.zero_le _) dX3_keep_35 ?_
    refine lv_topi (fun x42 ex42 => ?_)
    have hf := dq_l hf x42 ex42
    clear ex42
    refine va_put (D := D) (ci := 2) (v := .int x42) (ty := .int) (C := RX3) (T := TX3) (N := 3) hx hb hts hiX3 tyX3 tyX3_ok nmX3 hown hK hP hD hS 0 rfl rfl 2 (by decide) hw3 (fun _ h9 => h9) rfl (tyX3_ok 2 (by decide)) rfl rfl (Nat.le_of_ble_eq_true rfl) dX3_keep_38 (fun H locs hP hD hS => ?_)
    have hP : va_P D vwCl (w_X3_keep y a b x41 x42 (va_up p_k_shutBits 0 p_k_shutBits_23) (va_up p_k_airs 0 p_k_airs_24) (va_up p_k_crownedBits 0 p_k_crownedBits_25) (va_up p_k_sitters 0 p_k_sitters_26) (va_up p_k_onBits 0 p_k_onBits_27) (va_up p_k_turn 0 p_k_turn_28) (va_up p_k_taken 0 p_k_taken_29) (va_up p_k_warmth 0 p_k_warmth_30) (va_up p_k_kind 0 p_k_kind_31) (va_up p_k_figure 0 p_k_figure_32) (va_up p_k_airCell 0 p_k_airCell_33) (va_up p_k_way 0 p_k_way_34) (va_up p_k_seat 0 p_k_seat_35) (va_up p_k_shawls 0 p_k_shawls_36) (va_up p_k_count 0 p_k_count_37) (va_up p_k_steps 0 p_k_steps_38) (va_up p_k_numbers 0 p_k_numbers_39) o_shutBits o_airs o_crownedBits o_sitters o_onBits o_turn o_taken o_warmth o_kind o_figure o_airCell o_way o_seat o_shawls o_count o_steps o_numbers) H := hP
    have hD : va_D A (w_X3_keep y a b x41 x42 (va_up p_k_shutBits 0 p_k_shutBits_23) (va_up p_k_airs 0 p_k_airs_24) (va_up p_k_crownedBits 0 p_k_crownedBits_25) (va_up p_k_sitters 0 p_k_sitters_26) (va_up p_k_onBits 0 p_k_onBits_27) (va_up p_k_turn 0 p_k_turn_28) (va_up p_k_taken 0 p_k_taken_29) (va_up p_k_warmth 0 p_k_warmth_30) (va_up p_k_kind 0 p_k_kind_31) (va_up p_k_figure 0 p_k_figure_32) (va_up p_k_airCell 0 p_k_airCell_33) (va_up p_k_way 0 p_k_way_34) (va_up p_k_seat 0 p_k_seat_35) (va_up p_k_shawls 0 p_k_shawls_36) (va_up p_k_count 0 p_k_count_37) (va_up p_k_steps 0 p_k_steps_38) (va_up p_k_numbers 0 p_k_numbers_39) o_shutBits o_airs o_crownedBits o_sitters o_onBits o_turn o_taken o_warmth o_kind o_figure o_airCell o_way o_seat o_shawls o_count o_steps o_numbers) := hD
    obtain ⟨rfl, rfl, rfl, rfl, rfl, rfl, rfl, rfl, rfl, rfl, rfl, rfl, rfl, rfl, rfl, rfl, rfl, rfl, rfl⟩ := dq_r19 hf
    exact ct_vret hx hb hr hlocks hAe hP hK hD hS dX3_keep_41
  · try rw [ej22] at hf
    refine dq_aldH (cA := y 3) (n := 8) (b := (a 13)) (f := (fun i => if i < 8 then some (a (2 + 11 * i)) else none)) hx hb hK hP 1 3 rfl rfl h1 (by rw [ej22]; rfl) dX3_keep_8 ?_
    refine lv_aload_n hx hb dX3_keep_9 rfl (lv_at hl 1 rfl) ?_
    obtain ⟨p_k_shutBits_43, p_k_airs_44, p_k_crownedBits_45, p_k_sitters_46, p_k_onBits_47, p_k_turn_48, p_k_taken_49, p_k_warmth_50, p_k_kind_51, p_k_figure_52, p_k_airCell_53, p_k_way_54, p_k_seat_55, p_k_shawls_56, p_k_count_57, p_k_steps_58, p_k_numbers_59, hy60, hf⟩ := dq_b17 hf
    refine ct_callV (ci := 1) (q0 := 0) (own := RX3) (As := [.ref (b 0)]) (rest := []) (ws' := (w_X3_keep y a b p_next p_count (va_up p_k_shutBits 1 p_k_shutBits_43) (va_up p_k_airs 1 p_k_airs_44) (va_up p_k_crownedBits 1 p_k_crownedBits_45) (va_up p_k_sitters 1 p_k_sitters_46) (va_up p_k_onBits 1 p_k_onBits_47) (va_up p_k_turn 1 p_k_turn_48) (va_up p_k_taken 1 p_k_taken_49) (va_up p_k_warmth 1 p_k_warmth_50) (va_up p_k_kind 1 p_k_kind_51) (va_up p_k_figure 1 p_k_figure_52) (va_up p_k_airCell 1 p_k_airCell_53) (va_up p_k_way 1 p_k_way_54) (va_up p_k_seat 1 p_k_seat_55) (va_up p_k_shawls 1 p_k_shawls_56) (va_up p_k_count 1 p_k_count_57) (va_up p_k_steps 1 p_k_steps_58) (va_up p_k_numbers 1 p_k_numbers_59) o_shutBits o_airs o_crownedBits o_sitters o_onBits o_turn o_taken o_warmth o_kind o_figure o_airCell o_way o_seat o_shawls o_count o_steps o_numbers)) ⟨hx, hb, hml, hown, hts⟩ (m_X2_take l D y (fun k => a (13 + k)) b (p_k_shutBits 1) (p_k_airs 1) (p_k_crownedBits 1) (p_k_sitters 1) (p_k_onBits 1) (p_k_turn 1) (p_k_taken 1) (p_k_warmth 1) (p_k_kind 1) (p_k_figure 1) (p_k_airCell 1) (p_k_way 1) (p_k_seat 1) (p_k_shawls 1) (p_k_count 1) (p_k_steps 1) (p_k_numbers 1) o_shutBits o_airs o_crownedBits o_sitters o_onBits o_turn o_taken o_warmth o_kind o_figure o_airCell o_way o_seat o_shawls o_count o_steps o_numbers p_k_shutBits_43 p_k_airs_44 p_k_crownedBits_45 p_k_sitters_46 p_k_onBits_47 p_k_turn_48 p_k_taken_49 p_k_warmth_50 p_k_kind_51 p_k_figure_52 p_k_airCell_53 p_k_way_54 p_k_seat_55 p_k_shawls_56 p_k_count_57 p_k_steps_58 p_k_numbers_59 hy60) (cwV 1 hts gX3_keep_X2_take rfl rfl rfl (by decide +kernel) ⟨Nat.le_of_ble_eq_true rfl, Nat.le_of_ble_eq_true rfl⟩) rfl rfl rfl hl.1 rfl (Nat.le_of_ble_eq_true rfl) dX3_keep_10 ⟨Nat.zero_le _, Nat.zero_le _⟩ hK hP hD hS hA [13, 14, 15, 16, 17, 18, 19, 20, 21, 22, 23, 90, 91, 92, 93, 94, 95, 96, 97, 98, 99, 100] [0, 1, 2, 3, 4, 5, 6, 7, 8, 9, 10, 11, 12, 24, 25, 26, 27, 28, 29, 30, 31, 32, 33, 34, 35, 36, 37, 38, 39, 40, 41, 42, 43, 44, 45, 46, 47, 48, 49, 50, 51, 52, 53, 54, 55, 56, 57, 58, 59, 60, 61, 62, 63, 64, 65, 66, 67, 68, 69, 70, 71, 72, 73, 74, 75, 76, 77, 78, 79, 80, 81, 82, 83, 84, 85, 86, 87, 88, 89] [0, 1, 2, 3, 4, 5, 6, 7, 8, 9, 10, 11, 12, 79, 80, 81, 82, 83, 84, 85, 86, 87, 88, 89, 13, 14, 15, 16, 17, 18, 19, 20, 21, 22, 23, 24, 25, 26, 27, 28, 29, 30, 31, 32, 33, 34, 35, 36, 37, 38, 39, 40, 41, 42, 43, 44, 45, 46, 47, 48, 49, 50, 51, 52, 53, 54, 55, 56, 57, 58, 59, 60, 61, 62, 63, 64, 65, 66, 67, 68, 69, 70, 71, 72, 73, 74, 75, 76, 77, 78, 90, 91, 92, 93, 94, 95, 96, 97, 98, 99, 100] rfl rfl (by decide) (by decide) (by decide) rfl (by decide) (fun H locs hP hD hS => ?_)
    refine lv_aload_n hx hb dX3_keep_13 rfl (lv_at hl 0 rfl) ?_
    refine lv_aload_n hx hb dX3_keep_14 rfl (lv_at hl 0 rfl) ?_
    refine va_get (D := D) (ci := 2) (v := .int p_next) (C := RX3) (T := TX3) (N := 3) hx hb hts hiX3 hown hK hP 0 rfl rfl 1 (by decide) hw2 (fun _ h9 => h9) rfl dX3_keep_15 ?_
    refine lv_iconst (v := 1) hx hb dX3_keep_18 (by decide) ?_
    refine lv_iadd hx hb dX3_keep_19 ?_
    refine lv_bipush (v := 8) hx hb dX3_keep_20 (by decide) ?_
    refine lv_irem hx hb dX3_keep_22 (by decide) ?_
    refine lv_topi (fun x61 ex61 => ?_)
    have hf := dq_l hf x61 ex61
    clear ex61
    refine va_put (D := D) (ci := 2) (v := .int x61) (ty := .int) (C := RX3) (T := TX3) (N := 3) hx hb hts hiX3 tyX3 tyX3_ok nmX3 hown hK hP hD hS 0 rfl rfl 1 (by decide) hw2 (fun _ h9 => h9) rfl (tyX3_ok 1 (by decide)) rfl rfl (Nat.le_of_ble_eq_true rfl) dX3_keep_23 (fun H locs hP hD hS => ?_)
    have hP : va_P D vwCl (w_X3_keep y a b x61 p_count (va_up p_k_shutBits 1 p_k_shutBits_43) (va_up p_k_airs 1 p_k_airs_44) (va_up p_k_crownedBits 1 p_k_crownedBits_45) (va_up p_k_sitters 1 p_k_sitters_46) (va_up p_k_onBits 1 p_k_onBits_47) (va_up p_k_turn 1 p_k_turn_48) (va_up p_k_taken 1 p_k_taken_49) (va_up p_k_warmth 1 p_k_warmth_50) (va_up p_k_kind 1 p_k_kind_51) (va_up p_k_figure 1 p_k_figure_52) (va_up p_k_airCell 1 p_k_airCell_53) (va_up p_k_way 1 p_k_way_54) (va_up p_k_seat 1 p_k_seat_55) (va_up p_k_shawls 1 p_k_shawls_56) (va_up p_k_count 1 p_k_count_57) (va_up p_k_steps 1 p_k_steps_58) (va_up p_k_numbers 1 p_k_numbers_59) o_shutBits o_airs o_crownedBits o_sitters o_onBits o_turn o_taken o_warmth o_kind o_figure o_airCell o_way o_seat o_shawls o_count o_steps o_numbers) H := hP
    have hD : va_D A (w_X3_keep y a b x61 p_count (va_up p_k_shutBits 1 p_k_shutBits_43) (va_up p_k_airs 1 p_k_airs_44) (va_up p_k_crownedBits 1 p_k_crownedBits_45) (va_up p_k_sitters 1 p_k_sitters_46) (va_up p_k_onBits 1 p_k_onBits_47) (va_up p_k_turn 1 p_k_turn_48) (va_up p_k_taken 1 p_k_taken_49) (va_up p_k_warmth 1 p_k_warmth_50) (va_up p_k_kind 1 p_k_kind_51) (va_up p_k_figure 1 p_k_figure_52) (va_up p_k_airCell 1 p_k_airCell_53) (va_up p_k_way 1 p_k_way_54) (va_up p_k_seat 1 p_k_seat_55) (va_up p_k_shawls 1 p_k_shawls_56) (va_up p_k_count 1 p_k_count_57) (va_up p_k_steps 1 p_k_steps_58) (va_up p_k_numbers 1 p_k_numbers_59) o_shutBits o_airs o_crownedBits o_sitters o_onBits o_turn o_taken o_warmth o_kind o_figure o_airCell o_way o_seat o_shawls o_count o_steps o_numbers) := hD
    refine lv_aload_n hx hb dX3_keep_26 rfl (lv_at hl 0 rfl) ?_
    refine lv_aload_n hx hb dX3_keep_27 rfl (lv_at hl 0 rfl) ?_
    refine va_get (D := D) (ci := 2) (v := .int p_count) (C := RX3) (T := TX3) (N := 3) hx hb hts hiX3 hown hK hP 0 rfl rfl 2 (by decide) hw3 (fun _ h9 => h9) rfl dX3_keep_28 ?_
    refine lv_iconst (v := 1) hx hb dX3_keep_31 (by decide) ?_
    refine lv_iadd hx hb dX3_keep_32 ?_
    refine lv_bipush (v := 8) hx hb dX3_keep_33 (by decide) ?_
    refine va_mmin hx hb (hml.trans hl.1.symm) hown hw4 hw5 hw6 hw7 (Nat.le_of_ble_eq_true rfl) (Nat.le_of_ble_eq_true rfl) (Nat.zero_le _) (Nat.zero_le _) dX3_keep_35 ?_
    refine lv_topi (fun x62 ex62 => ?_)
    have hf := dq_l hf x62 ex62
    clear ex62
    refine va_put (D := D) (ci := 2) (v := .int x62) (ty := .int) (C := RX3) (T := TX3) (N := 3) hx hb hts hiX3 tyX3 tyX3_ok nmX3 hown hK hP hD hS 0 rfl rfl 2 (by decide) hw3 (fun _ h9 => h9) rfl (tyX3_ok 2 (by decide)) rfl rfl (Nat.le_of_ble_eq_true rfl) dX3_keep_38 (fun H locs hP hD hS => ?_)
    have hP : va_P D vwCl (w_X3_keep y a b x61 x62 (va_up p_k_shutBits 1 p_k_shutBits_43) (va_up p_k_airs 1 p_k_airs_44) (va_up p_k_crownedBits 1 p_k_crownedBits_45) (va_up p_k_sitters 1 p_k_sitters_46) (va_up p_k_onBits 1 p_k_onBits_47) (va_up p_k_turn 1 p_k_turn_48) (va_up p_k_taken 1 p_k_taken_49) (va_up p_k_warmth 1 p_k_warmth_50) (va_up p_k_kind 1 p_k_kind_51) (va_up p_k_figure 1 p_k_figure_52) (va_up p_k_airCell 1 p_k_airCell_53) (va_up p_k_way 1 p_k_way_54) (va_up p_k_seat 1 p_k_seat_55) (va_up p_k_shawls 1 p_k_shawls_56) (va_up p_k_count 1 p_k_count_57) (va_up p_k_steps 1 p_k_steps_58) (va_up p_k_numbers 1 p_k_numbers_59) o_shutBits o_airs o_crownedBits o_sitters o_onBits o_turn o_taken o_warmth o_kind o_figure o_airCell o_way o_seat o_shawls o_count o_steps o_numbers) H := hP
    have hD : va_D A (w_X3_keep y a b x61 x62 (va_up p_k_shutBits 1 p_k_shutBits_43) (va_up p_k_airs 1 p_k_airs_44) (va_up p_k_crownedBits 1 p_k_crownedBits_45) (va_up p_k_sitters 1 p_k_sitters_46) (va_up p_k_onBits 1 p_k_onBits_47) (va_up p_k_turn 1 p_k_turn_48) (va_up p_k_taken 1 p_k_taken_49) (va_up p_k_warmth 1 p_k_warmth_50) (va_up p_k_kind 1 p_k_kind_51) (va_up p_k_figure 1 p_k_figure_52) (va_up p_k_airCell 1 p_k_airCell_53) (va_up p_k_way 1 p_k_way_54) (va_up p_k_seat 1 p_k_seat_55) (va_up p_k_shawls 1 p_k_shawls_56) (va_up p_k_count 1 p_k_count_57) (va_up p_k_steps 1 p_k_steps_58) (va_up p_k_numbers 1 p_k_numbers_59) o_shutBits o_airs o_crownedBits o_sitters o_onBits o_turn o_taken o_warmth o_kind o_figure o_airCell o_way o_seat o_shawls o_count o_steps o_numbers) := hD
    obtain ⟨rfl, rfl, rfl, rfl, rfl, rfl, rfl, rfl, rfl, rfl, rfl, rfl, rfl, rfl, rfl, rfl, rfl, rfl, rfl⟩ := dq_r19 hf
    exact ct_vret hx hb hr hlocks hAe hP hK hD hS dX3_keep_41
  · try rw [ej22] at hf
    refine dq_aldH (cA := y 3) (n := 8) (b := (a 24)) (f := (fun i => if i < 8 then some (a (2 + 11 * i)) else none)) hx hb hK hP 1 3 rfl rfl h1 (by rw [ej22]; rfl) dX3_keep_8 ?_
    refine lv_aload_n hx hb dX3_keep_9 rfl (lv_at hl 1 rfl) ?_
    obtain ⟨p_k_shutBits_63, p_k_airs_64, p_k_crownedBits_65, p_k_sitters_66, p_k_onBits_67, p_k_turn_68, p_k_taken_69, p_k_warmth_70, p_k_kind_71, p_k_figure_72, p_k_airCell_73, p_k_way_74, p_k_seat_75, p_k_shawls_76, p_k_count_77, p_k_steps_78, p_k_numbers_79, hy80, hf⟩ := dq_b17 hf
    refine ct_callV (ci := 1) (q0 := 0) (own := RX3) (As := [.ref (b 0)]) (rest := []) (ws' := (w_X3_keep y a b p_next p_count (va_up p_k_shutBits 2 p_k_shutBits_63) (va_up p_k_airs 2 p_k_airs_64) (va_up p_k_crownedBits 2 p_k_crownedBits_65) (va_up p_k_sitters 2 p_k_sitters_66) (va_up p_k_onBits 2 p_k_onBits_67) (va_up p_k_turn 2 p_k_turn_68) (va_up p_k_taken 2 p_k_taken_69) (va_up p_k_warmth 2 p_k_warmth_70) (va_up p_k_kind 2 p_k_kind_71) (va_up p_k_figure 2 p_k_figure_72) (va_up p_k_airCell 2 p_k_airCell_73) (va_up p_k_way 2 p_k_way_74) (va_up p_k_seat 2 p_k_seat_75) (va_up p_k_shawls 2 p_k_shawls_76) (va_up p_k_count 2 p_k_count_77) (va_up p_k_steps 2 p_k_steps_78) (va_up p_k_numbers 2 p_k_numbers_79) o_shutBits o_airs o_crownedBits o_sitters o_onBits o_turn o_taken o_warmth o_kind o_figure o_airCell o_way o_seat o_shawls o_count o_steps o_numbers)) ⟨hx, hb, hml, hown, hts⟩ (m_X2_take l D y (fun k => a (24 + k)) b (p_k_shutBits 2) (p_k_airs 2) (p_k_crownedBits 2) (p_k_sitters 2) (p_k_onBits 2) (p_k_turn 2) (p_k_taken 2) (p_k_warmth 2) (p_k_kind 2) (p_k_figure 2) (p_k_airCell 2) (p_k_way 2) (p_k_seat 2) (p_k_shawls 2) (p_k_count 2) (p_k_steps 2) (p_k_numbers 2) o_shutBits o_airs o_crownedBits o_sitters o_onBits o_turn o_taken o_warmth o_kind o_figure o_airCell o_way o_seat o_shawls o_count o_steps o_numbers p_k_shutBits_63 p_k_airs_64 p_k_crownedBits_65 p_k_sitters_66 p_k_onBits_67 p_k_turn_68 p_k_taken_69 p_k_warmth_70 p_k_kind_71 p_k_figure_72 p_k_airCell_73 p_k_way_74 p_k_seat_75 p_k_shawls_76 p_k_count_77 p_k_steps_78 p_k_numbers_79 hy80) (cwV 1 hts gX3_keep_X2_take rfl rfl rfl (by decide +kernel) ⟨Nat.le_of_ble_eq_true rfl, Nat.le_of_ble_eq_true rfl⟩) rfl rfl rfl hl.1 rfl (Nat.le_of_ble_eq_true rfl) dX3_keep_10 ⟨Nat.zero_le _, Nat.zero_le _⟩ hK hP hD hS hA [24, 25, 26, 27, 28, 29, 30, 31, 32, 33, 34, 90, 91, 92, 93, 94, 95, 96, 97, 98, 99, 100] [0, 1, 2, 3, 4, 5, 6, 7, 8, 9, 10, 11, 12, 13, 14, 15, 16, 17, 18, 19, 20, 21, 22, 23, 35, 36, 37, 38, 39, 40, 41, 42, 43, 44, 45, 46, 47, 48, 49, 50, 51, 52, 53, 54, 55, 56, 57, 58, 59, 60, 61, 62, 63, 64, 65, 66, 67, 68, 69, 70, 71, 72, 73, 74, 75, 76, 77, 78, 79, 80, 81, 82, 83, 84, 85, 86, 87, 88, 89] [0, 1, 2, 3, 4, 5, 6, 7, 8, 9, 10, 11, 12, 13, 14, 15, 16, 17, 18, 19, 20, 21, 22, 23, 79, 80, 81, 82, 83, 84, 85, 86, 87, 88, 89, 24, 25, 26, 27, 28, 29, 30, 31, 32, 33, 34, 35, 36, 37, 38, 39, 40, 41, 42, 43, 44, 45, 46, 47, 48, 49, 50, 51, 52, 53, 54, 55, 56, 57, 58, 59, 60, 61, 62, 63, 64, 65, 66, 67, 68, 69, 70, 71, 72, 73, 74, 75, 76, 77, 78, 90, 91, 92, 93, 94, 95, 96, 97, 98, 99, 100] rfl rfl (by decide) (by decide) (by decide) rfl (by decide) (fun H locs hP hD hS => ?_)
    refine lv_aload_n hx hb dX3_keep_13 rfl (lv_at hl 0 rfl) ?_
    refine lv_aload_n hx hb dX3_keep_14 rfl (lv_at hl 0 rfl) ?_
    refine va_get (D := D) (ci := 2) (v := .int p_next) (C := RX3) (T := TX3) (N := 3) hx hb hts hiX3 hown hK hP 0 rfl rfl 1 (by decide) hw2 (fun _ h9 => h9) rfl dX3_keep_15 ?_
    refine lv_iconst (v := 1) hx hb dX3_keep_18 (by decide) ?_
    refine lv_iadd hx hb dX3_keep_19 ?_
    refine lv_bipush (v := 8) hx hb dX3_keep_20 (by decide) ?_
    refine lv_irem hx hb dX3_keep_22 (by decide) ?_
    refine lv_topi (fun x81 ex81 => ?_)
    have hf := dq_l hf x81 ex81
    clear ex81
    refine va_put (D := D) (ci := 2) (v := .int x81) (ty := .int) (C := RX3) (T := TX3) (N := 3) hx hb hts hiX3 tyX3 tyX3_ok nmX3 hown hK hP hD hS 0 rfl rfl 1 (by decide) hw2 (fun _ h9 => h9) rfl (tyX3_ok 1 (by decide)) rfl rfl (Nat.le_of_ble_eq_true rfl) dX3_keep_23 (fun H locs hP hD hS => ?_)
    have hP : va_P D vwCl (w_X3_keep y a b x81 p_count (va_up p_k_shutBits 2 p_k_shutBits_63) (va_up p_k_airs 2 p_k_airs_64) (va_up p_k_crownedBits 2 p_k_crownedBits_65) (va_up p_k_sitters 2 p_k_sitters_66) (va_up p_k_onBits 2 p_k_onBits_67) (va_up p_k_turn 2 p_k_turn_68) (va_up p_k_taken 2 p_k_taken_69) (va_up p_k_warmth 2 p_k_warmth_70) (va_up p_k_kind 2 p_k_kind_71) (va_up p_k_figure 2 p_k_figure_72) (va_up p_k_airCell 2 p_k_airCell_73) (va_up p_k_way 2 p_k_way_74) (va_up p_k_seat 2 p_k_seat_75) (va_up p_k_shawls 2 p_k_shawls_76) (va_up p_k_count 2 p_k_count_77) (va_up p_k_steps 2 p_k_steps_78) (va_up p_k_numbers 2 p_k_numbers_79) o_shutBits o_airs o_crownedBits o_sitters o_onBits o_turn o_taken o_warmth o_kind o_figure o_airCell o_way o_seat o_shawls o_count o_steps o_numbers) H := hP
    have hD : va_D A (w_X3_keep y a b x81 p_count (va_up p_k_shutBits 2 p_k_shutBits_63) (va_up p_k_airs 2 p_k_airs_64) (va_up p_k_crownedBits 2 p_k_crownedBits_65) (va_up p_k_sitters 2 p_k_sitters_66) (va_up p_k_onBits 2 p_k_onBits_67) (va_up p_k_turn 2 p_k_turn_68) (va_up p_k_taken 2 p_k_taken_69) (va_up p_k_warmth 2 p_k_warmth_70) (va_up p_k_kind 2 p_k_kind_71) (va_up p_k_figure 2 p_k_figure_72) (va_up p_k_airCell 2 p_k_airCell_73) (va_up p_k_way 2 p_k_way_74) (va_up p_k_seat 2 p_k_seat_75) (va_up p_k_shawls 2 p_k_shawls_76) (va_up p_k_count 2 p_k_count_77) (va_up p_k_steps 2 p_k_steps_78) (va_up p_k_numbers 2 p_k_numbers_79) o_shutBits o_airs o_crownedBits o_sitters o_onBits o_turn o_taken o_warmth o_kind o_figure o_airCell o_way o_seat o_shawls o_count o_steps o_numbers) := hD
    refine lv_aload_n hx hb dX3_keep_26 rfl (lv_at hl 0 rfl) ?_
    refine lv_aload_n hx hb dX3_keep_27 rfl (lv_at hl 0 rfl) ?_
    refine va_get (D := D) (ci := 2) (v := .int p_count) (C := RX3) (T := TX3) (N := 3) hx hb hts hiX3 hown hK hP 0 rfl rfl 2 (by decide) hw3 (fun _ h9 => h9) rfl dX3_keep_28 ?_
    refine lv_iconst (v := 1) hx hb dX3_keep_31 (by decide) ?_
    refine lv_iadd hx hb dX3_keep_32 ?_
    refine lv_bipush (v := 8) hx hb dX3_keep_33 (by decide) ?_
    refine va_mmin hx hb (hml.trans hl.1.symm) hown hw4 hw5 hw6 hw7 (Nat.le_of_ble_eq_true rfl) (Nat.le_of_ble_eq_true rfl) (Nat.zero_le _) (Nat.zero_le _) dX3_keep_35 ?_
    refine lv_topi (fun x82 ex82 => ?_)
    have hf := dq_l hf x82 ex82
    clear ex82
    refine va_put (D := D) (ci := 2) (v := .int x82) (ty := .int) (C := RX3) (T := TX3) (N := 3) hx hb hts hiX3 tyX3 tyX3_ok nmX3 hown hK hP hD hS 0 rfl rfl 2 (by decide) hw3 (fun _ h9 => h9) rfl (tyX3_ok 2 (by decide)) rfl rfl (Nat.le_of_ble_eq_true rfl) dX3_keep_38 (fun H locs hP hD hS => ?_)
    have hP : va_P D vwCl (w_X3_keep y a b x81 x82 (va_up p_k_shutBits 2 p_k_shutBits_63) (va_up p_k_airs 2 p_k_airs_64) (va_up p_k_crownedBits 2 p_k_crownedBits_65) (va_up p_k_sitters 2 p_k_sitters_66) (va_up p_k_onBits 2 p_k_onBits_67) (va_up p_k_turn 2 p_k_turn_68) (va_up p_k_taken 2 p_k_taken_69) (va_up p_k_warmth 2 p_k_warmth_70) (va_up p_k_kind 2 p_k_kind_71) (va_up p_k_figure 2 p_k_figure_72) (va_up p_k_airCell 2 p_k_airCell_73) (va_up p_k_way 2 p_k_way_74) (va_up p_k_seat 2 p_k_seat_75) (va_up p_k_shawls 2 p_k_shawls_76) (va_up p_k_count 2 p_k_count_77) (va_up p_k_steps 2 p_k_steps_78) (va_up p_k_numbers 2 p_k_numbers_79) o_shutBits o_airs o_crownedBits o_sitters o_onBits o_turn o_taken o_warmth o_kind o_figure o_airCell o_way o_seat o_shawls o_count o_steps o_numbers) H := hP
    have hD : va_D A (w_X3_keep y a b x81 x82 (va_up p_k_shutBits 2 p_k_shutBits_63) (va_up p_k_airs 2 p_k_airs_64) (va_up p_k_crownedBits 2 p_k_crownedBits_65) (va_up p_k_sitters 2 p_k_sitters_66) (va_up p_k_onBits 2 p_k_onBits_67) (va_up p_k_turn 2 p_k_turn_68) (va_up p_k_taken 2 p_k_taken_69) (va_up p_k_warmth 2 p_k_warmth_70) (va_up p_k_kind 2 p_k_kind_71) (va_up p_k_figure 2 p_k_figure_72) (va_up p_k_airCell 2 p_k_airCell_73) (va_up p_k_way 2 p_k_way_74) (va_up p_k_seat 2 p_k_seat_75) (va_up p_k_shawls 2 p_k_shawls_76) (va_up p_k_count 2 p_k_count_77) (va_up p_k_steps 2 p_k_steps_78) (va_up p_k_numbers 2 p_k_numbers_79) o_shutBits o_airs o_crownedBits o_sitters o_onBits o_turn o_taken o_warmth o_kind o_figure o_airCell o_way o_seat o_shawls o_count o_steps o_numbers) := hD
    obtain ⟨rfl, rfl, rfl, rfl, rfl, rfl, rfl, rfl, rfl, rfl, rfl, rfl, rfl, rfl, rfl, rfl, rfl, rfl, rfl⟩ := dq_r19 hf
    exact ct_vret hx hb hr hlocks hAe hP hK hD hS dX3_keep_41
  · try rw [ej22] at hf
    refine dq_aldH (cA := y 3) (n := 8) (b := (a 35)) (f := (fun i => if i < 8 then some (a (2 + 11 * i)) else none)) hx hb hK hP 1 3 rfl rfl h1 (by rw [ej22]; rfl) dX3_keep_8 ?_
    refine lv_aload_n hx hb dX3_keep_9 rfl (lv_at hl 1 rfl) ?_
    obtain ⟨p_k_shutBits_83, p_k_airs_84, p_k_crownedBits_85, p_k_sitters_86, p_k_onBits_87, p_k_turn_88, p_k_taken_89, p_k_warmth_90, p_k_kind_91, p_k_figure_92, p_k_airCell_93, p_k_way_94, p_k_seat_95, p_k_shawls_96, p_k_count_97, p_k_steps_98, p_k_numbers_99, hy100, hf⟩ := dq_b17 hf
    refine ct_callV (ci := 1) (q0 := 0) (own := RX3) (As := [.ref (b 0)]) (rest := []) (ws' := (w_X3_keep y a b p_next p_count (va_up p_k_shutBits 3 p_k_shutBits_83) (va_up p_k_airs 3 p_k_airs_84) (va_up p_k_crownedBits 3 p_k_crownedBits_85) (va_up p_k_sitters 3 p_k_sitters_86) (va_up p_k_onBits 3 p_k_onBits_87) (va_up p_k_turn 3 p_k_turn_88) (va_up p_k_taken 3 p_k_taken_89) (va_up p_k_warmth 3 p_k_warmth_90) (va_up p_k_kind 3 p_k_kind_91) (va_up p_k_figure 3 p_k_figure_92) (va_up p_k_airCell 3 p_k_airCell_93) (va_up p_k_way 3 p_k_way_94) (va_up p_k_seat 3 p_k_seat_95) (va_up p_k_shawls 3 p_k_shawls_96) (va_up p_k_count 3 p_k_count_97) (va_up p_k_steps 3 p_k_steps_98) (va_up p_k_numbers 3 p_k_numbers_99) o_shutBits o_airs o_crownedBits o_sitters o_onBits o_turn o_taken o_warmth o_kind o_figure o_airCell o_way o_seat o_shawls o_count o_steps o_numbers)) ⟨hx, hb, hml, hown, hts⟩ (m_X2_take l D y (fun k => a (35 + k)) b (p_k_shutBits 3) (p_k_airs 3) (p_k_crownedBits 3) (p_k_sitters 3) (p_k_onBits 3) (p_k_turn 3) (p_k_taken 3) (p_k_warmth 3) (p_k_kind 3) (p_k_figure 3) (p_k_airCell 3) (p_k_way 3) (p_k_seat 3) (p_k_shawls 3) (p_k_count 3) (p_k_steps 3) (p_k_numbers 3) o_shutBits o_airs o_crownedBits o_sitters o_onBits o_turn o_taken o_warmth o_kind o_figure o_airCell o_way o_seat o_shawls o_count o_steps o_numbers p_k_shutBits_83 p_k_airs_84 p_k_crownedBits_85 p_k_sitters_86 p_k_onBits_87 p_k_turn_88 p_k_taken_89 p_k_warmth_90 p_k_kind_91 p_k_figure_92 p_k_airCell_93 p_k_way_94 p_k_seat_95 p_k_shawls_96 p_k_count_97 p_k_steps_98 p_k_numbers_99 hy100) (cwV 1 hts gX3_keep_X2_take rfl rfl rfl (by decide +kernel) ⟨Nat.le_of_ble_eq_true rfl, Nat.le_of_ble_eq_true rfl⟩) rfl rfl rfl hl.1 rfl (Nat.le_of_ble_eq_true rfl) dX3_keep_10 ⟨Nat.zero_le _, Nat.zero_le _⟩ hK hP hD hS hA [35, 36, 37, 38, 39, 40, 41, 42, 43, 44, 45, 90, 91, 92, 93, 94, 95, 96, 97, 98, 99, 100] [0, 1, 2, 3, 4, 5, 6, 7, 8, 9, 10, 11, 12, 13, 14, 15, 16, 17, 18, 19, 20, 21, 22, 23, 24, 25, 26, 27, 28, 29, 30, 31, 32, 33, 34, 46, 47, 48, 49, 50, 51, 52, 53, 54, 55, 56, 57, 58, 59, 60, 61, 62, 63, 64, 65, 66, 67, 68, 69, 70, 71, 72, 73, 74, 75, 76, 77, 78, 79, 80, 81, 82, 83, 84, 85, 86, 87, 88, 89] [0, 1, 2, 3, 4, 5, 6, 7, 8, 9, 10, 11, 12, 13, 14, 15, 16, 17, 18, 19, 20, 21, 22, 23, 24, 25, 26, 27, 28, 29, 30, 31, 32, 33, 34, 79, 80, 81, 82, 83, 84, 85, 86, 87, 88, 89, 35, 36, 37, 38, 39, 40, 41, 42, 43, 44, 45, 46, 47, 48, 49, 50, 51, 52, 53, 54, 55, 56, 57, 58, 59, 60, 61, 62, 63, 64, 65, 66, 67, 68, 69, 70, 71, 72, 73, 74, 75, 76, 77, 78, 90, 91, 92, 93, 94, 95, 96, 97, 98, 99, 100] rfl rfl (by decide) (by decide) (by decide) rfl (by decide) (fun H locs hP hD hS => ?_)
    refine lv_aload_n hx hb dX3_keep_13 rfl (lv_at hl 0 rfl) ?_
    refine lv_aload_n hx hb dX3_keep_14 rfl (lv_at hl 0 rfl) ?_
    refine va_get (D := D) (ci := 2) (v := .int p_next) (C := RX3) (T := TX3) (N := 3) hx hb hts hiX3 hown hK hP 0 rfl rfl 1 (by decide) hw2 (fun _ h9 => h9) rfl dX3_keep_15 ?_
    refine lv_iconst (v := 1) hx hb dX3_keep_18 (by decide) ?_
    refine lv_iadd hx hb dX3_keep_19 ?_
    refine lv_bipush (v := 8) hx hb dX3_keep_20 (by decide) ?_
    refine lv_irem hx hb dX3_keep_22 (by decide) ?_
    refine lv_topi (fun x101 ex101 => ?_)
    have hf := dq_l hf x101 ex101
    clear ex101
    refine va_put (D := D) (ci := 2) (v := .int x101) (ty := .int) (C := RX3) (T := TX3) (N := 3) hx hb hts hiX3 tyX3 tyX3_ok nmX3 hown hK hP hD hS 0 rfl rfl 1 (by decide) hw2 (fun _ h9 => h9) rfl (tyX3_ok 1 (by decide)) rfl rfl (Nat.le_of_ble_eq_true rfl) dX3_keep_23 (fun H locs hP hD hS => ?_)
    have hP : va_P D vwCl (w_X3_keep y a b x101 p_count (va_up p_k_shutBits 3 p_k_shutBits_83) (va_up p_k_airs 3 p_k_airs_84) (va_up p_k_crownedBits 3 p_k_crownedBits_85) (va_up p_k_sitters 3 p_k_sitters_86) (va_up p_k_onBits 3 p_k_onBits_87) (va_up p_k_turn 3 p_k_turn_88) (va_up p_k_taken 3 p_k_taken_89) (va_up p_k_warmth 3 p_k_warmth_90) (va_up p_k_kind 3 p_k_kind_91) (va_up p_k_figure 3 p_k_figure_92) (va_up p_k_airCell 3 p_k_airCell_93) (va_up p_k_way 3 p_k_way_94) (va_up p_k_seat 3 p_k_seat_95) (va_up p_k_shawls 3 p_k_shawls_96) (va_up p_k_count 3 p_k_count_97) (va_up p_k_steps 3 p_k_steps_98) (va_up p_k_numbers 3 p_k_numbers_99) o_shutBits o_airs o_crownedBits o_sitters o_onBits o_turn o_taken o_warmth o_kind o_figure o_airCell o_way o_seat o_shawls o_count o_steps o_numbers) H := hP
    have hD : va_D A (w_X3_keep y a b x101 p_count (va_up p_k_shutBits 3 p_k_shutBits_83) (va_up p_k_airs 3 p_k_airs_84) (va_up p_k_crownedBits 3 p_k_crownedBits_85) (va_up p_k_sitters 3 p_k_sitters_86) (va_up p_k_onBits 3 p_k_onBits_87) (va_up p_k_turn 3 p_k_turn_88) (va_up p_k_taken 3 p_k_taken_89) (va_up p_k_warmth 3 p_k_warmth_90) (va_up p_k_kind 3 p_k_kind_91) (va_up p_k_figure 3 p_k_figure_92) (va_up p_k_airCell 3 p_k_airCell_93) (va_up p_k_way 3 p_k_way_94) (va_up p_k_seat 3 p_k_seat_95) (va_up p_k_shawls 3 p_k_shawls_96) (va_up p_k_count 3 p_k_count_97) (va_up p_k_steps 3 p_k_steps_98) (va_up p_k_numbers 3 p_k_numbers_99) o_shutBits o_airs o_crownedBits o_sitters o_onBits o_turn o_taken o_warmth o_kind o_figure o_airCell o_way o_seat o_shawls o_count o_steps o_numbers) := hD
    refine lv_aload_n hx hb dX3_keep_26 rfl (lv_at hl 0 rfl) ?_
    refine lv_aload_n hx hb dX3_keep_27 rfl (lv_at hl 0 rfl) ?_
    refine va_get (D := D) (ci := 2) (v := .int p_count) (C := RX3) (T := TX3) (N := 3) hx hb hts hiX3 hown hK hP 0 rfl rfl 2 (by decide) hw3 (fun _ h9 => h9) rfl dX3_keep_28 ?_
    refine lv_iconst (v := 1) hx hb dX3_keep_31 (by decide) ?_
    refine lv_iadd hx hb dX3_keep_32 ?_
    refine lv_bipush (v := 8) hx hb dX3_keep_33 (by decide) ?_
    refine va_mmin hx hb (hml.trans hl.1.symm) hown hw4 hw5 hw6 hw7 (Nat.le_of_ble_eq_true rfl) (Nat.le_of_ble_eq_true rfl) (Nat.zero_le _) (Nat.zero_le _) dX3_keep_35 ?_
    refine lv_topi (fun x102 ex102 => ?_)
    have hf := dq_l hf x102 ex102
    clear ex102
    refine va_put (D := D) (ci := 2) (v := .int x102) (ty := .int) (C := RX3) (T := TX3) (N := 3) hx hb hts hiX3 tyX3 tyX3_ok nmX3 hown hK hP hD hS 0 rfl rfl 2 (by decide) hw3 (fun _ h9 => h9) rfl (tyX3_ok 2 (by decide)) rfl rfl (Nat.le_of_ble_eq_true rfl) dX3_keep_38 (fun H locs hP hD hS => ?_)
    have hP : va_P D vwCl (w_X3_keep y a b x101 x102 (va_up p_k_shutBits 3 p_k_shutBits_83) (va_up p_k_airs 3 p_k_airs_84) (va_up p_k_crownedBits 3 p_k_crownedBits_85) (va_up p_k_sitters 3 p_k_sitters_86) (va_up p_k_onBits 3 p_k_onBits_87) (va_up p_k_turn 3 p_k_turn_88) (va_up p_k_taken 3 p_k_taken_89) (va_up p_k_warmth 3 p_k_warmth_90) (va_up p_k_kind 3 p_k_kind_91) (va_up p_k_figure 3 p_k_figure_92) (va_up p_k_airCell 3 p_k_airCell_93) (va_up p_k_way 3 p_k_way_94) (va_up p_k_seat 3 p_k_seat_95) (va_up p_k_shawls 3 p_k_shawls_96) (va_up p_k_count 3 p_k_count_97) (va_up p_k_steps 3 p_k_steps_98) (va_up p_k_numbers 3 p_k_numbers_99) o_shutBits o_airs o_crownedBits o_sitters o_onBits o_turn o_taken o_warmth o_kind o_figure o_airCell o_way o_seat o_shawls o_count o_steps o_numbers) H := hP
    have hD : va_D A (w_X3_keep y a b x101 x102 (va_up p_k_shutBits 3 p_k_shutBits_83) (va_up p_k_airs 3 p_k_airs_84) (va_up p_k_crownedBits 3 p_k_crownedBits_85) (va_up p_k_sitters 3 p_k_sitters_86) (va_up p_k_onBits 3 p_k_onBits_87) (va_up p_k_turn 3 p_k_turn_88) (va_up p_k_taken 3 p_k_taken_89) (va_up p_k_warmth 3 p_k_warmth_90) (va_up p_k_kind 3 p_k_kind_91) (va_up p_k_figure 3 p_k_figure_92) (va_up p_k_airCell 3 p_k_airCell_93) (va_up p_k_way 3 p_k_way_94) (va_up p_k_seat 3 p_k_seat_95) (va_up p_k_shawls 3 p_k_shawls_96) (va_up p_k_count 3 p_k_count_97) (va_up p_k_steps 3 p_k_steps_98) (va_up p_k_numbers 3 p_k_numbers_99) o_shutBits o_airs o_crownedBits o_sitters o_onBits o_turn o_taken o_warmth o_kind o_figure o_airCell o_way o_seat o_shawls o_count o_steps o_numbers) := hD
    obtain ⟨rfl, rfl, rfl, rfl, rfl, rfl, rfl, rfl, rfl, rfl, rfl, rfl, rfl, rfl, rfl, rfl, rfl, rfl, rfl⟩ := dq_r19 hf
    exact ct_vret hx hb hr hlocks hAe hP hK hD hS dX3_keep_41
  · try rw [ej22] at hf
    refine dq_aldH (cA := y 3) (n := 8) (b := (a 46)) (f := (fun i => if i < 8 then some (a (2 + 11 * i)) else none)) hx hb hK hP 1 3 rfl rfl h1 (by rw [ej22]; rfl) dX3_keep_8 ?_
    refine lv_aload_n hx hb dX3_keep_9 rfl (lv_at hl 1 rfl) ?_
    obtain ⟨p_k_shutBits_103, p_k_airs_104, p_k_crownedBits_105, p_k_sitters_106, p_k_onBits_107, p_k_turn_108, p_k_taken_109, p_k_warmth_110, p_k_kind_111, p_k_figure_112, p_k_airCell_113, p_k_way_114, p_k_seat_115, p_k_shawls_116, p_k_count_117, p_k_steps_118, p_k_numbers_119, hy120, hf⟩ := dq_b17 hf
    refine ct_callV (ci := 1) (q0 := 0) (own := RX3) (As := [.ref (b 0)]) (rest := []) (ws' := (w_X3_keep y a b p_next p_count (va_up p_k_shutBits 4 p_k_shutBits_103) (va_up p_k_airs 4 p_k_airs_104) (va_up p_k_crownedBits 4 p_k_crownedBits_105) (va_up p_k_sitters 4 p_k_sitters_106) (va_up p_k_onBits 4 p_k_onBits_107) (va_up p_k_turn 4 p_k_turn_108) (va_up p_k_taken 4 p_k_taken_109) (va_up p_k_warmth 4 p_k_warmth_110) (va_up p_k_kind 4 p_k_kind_111) (va_up p_k_figure 4 p_k_figure_112) (va_up p_k_airCell 4 p_k_airCell_113) (va_up p_k_way 4 p_k_way_114) (va_up p_k_seat 4 p_k_seat_115) (va_up p_k_shawls 4 p_k_shawls_116) (va_up p_k_count 4 p_k_count_117) (va_up p_k_steps 4 p_k_steps_118) (va_up p_k_numbers 4 p_k_numbers_119) o_shutBits o_airs o_crownedBits o_sitters o_onBits o_turn o_taken o_warmth o_kind o_figure o_airCell o_way o_seat o_shawls o_count o_steps o_numbers)) ⟨hx, hb, hml, hown, hts⟩ (m_X2_take l D y (fun k => a (46 + k)) b (p_k_shutBits 4) (p_k_airs 4) (p_k_crownedBits 4) (p_k_sitters 4) (p_k_onBits 4) (p_k_turn 4) (p_k_taken 4) (p_k_warmth 4) (p_k_kind 4) (p_k_figure 4) (p_k_airCell 4) (p_k_way 4) (p_k_seat 4) (p_k_shawls 4) (p_k_count 4) (p_k_steps 4) (p_k_numbers 4) o_shutBits o_airs o_crownedBits o_sitters o_onBits o_turn o_taken o_warmth o_kind o_figure o_airCell o_way o_seat o_shawls o_count o_steps o_numbers p_k_shutBits_103 p_k_airs_104 p_k_crownedBits_105 p_k_sitters_106 p_k_onBits_107 p_k_turn_108 p_k_taken_109 p_k_warmth_110 p_k_kind_111 p_k_figure_112 p_k_airCell_113 p_k_way_114 p_k_seat_115 p_k_shawls_116 p_k_count_117 p_k_steps_118 p_k_numbers_119 hy120) (cwV 1 hts gX3_keep_X2_take rfl rfl rfl (by decide +kernel) ⟨Nat.le_of_ble_eq_true rfl, Nat.le_of_ble_eq_true rfl⟩) rfl rfl rfl hl.1 rfl (Nat.le_of_ble_eq_true rfl) dX3_keep_10 ⟨Nat.zero_le _, Nat.zero_le _⟩ hK hP hD hS hA [46, 47, 48, 49, 50, 51, 52, 53, 54, 55, 56, 90, 91, 92, 93, 94, 95, 96, 97, 98, 99, 100] [0, 1, 2, 3, 4, 5, 6, 7, 8, 9, 10, 11, 12, 13, 14, 15, 16, 17, 18, 19, 20, 21, 22, 23, 24, 25, 26, 27, 28, 29, 30, 31, 32, 33, 34, 35, 36, 37, 38, 39, 40, 41, 42, 43, 44, 45, 57, 58, 59, 60, 61, 62, 63, 64, 65, 66, 67, 68, 69, 70, 71, 72, 73, 74, 75, 76, 77, 78, 79, 80, 81, 82, 83, 84, 85, 86, 87, 88, 89] [0, 1, 2, 3, 4, 5, 6, 7, 8, 9, 10, 11, 12, 13, 14, 15, 16, 17, 18, 19, 20, 21, 22, 23, 24, 25, 26, 27, 28, 29, 30, 31, 32, 33, 34, 35, 36, 37, 38, 39, 40, 41, 42, 43, 44, 45, 79, 80, 81, 82, 83, 84, 85, 86, 87, 88, 89, 46, 47, 48, 49, 50, 51, 52, 53, 54, 55, 56, 57, 58, 59, 60, 61, 62, 63, 64, 65, 66, 67, 68, 69, 70, 71, 72, 73, 74, 75, 76, 77, 78, 90, 91, 92, 93, 94, 95, 96, 97, 98, 99, 100] rfl rfl (by decide) (by decide) (by decide) rfl (by decide) (fun H locs hP hD hS => ?_)
    refine lv_aload_n hx hb dX3_keep_13 rfl (lv_at hl 0 rfl) ?_
    refine lv_aload_n hx hb dX3_keep_14 rfl (lv_at hl 0 rfl) ?_
    refine va_get (D := D) (ci := 2) (v := .int p_next) (C := RX3) (T := TX3) (N := 3) hx hb hts hiX3 hown hK hP 0 rfl rfl 1 (by decide) hw2 (fun _ h9 => h9) rfl dX3_keep_15 ?_
    refine lv_iconst (v := 1) hx hb dX3_keep_18 (by decide) ?_
    refine lv_iadd hx hb dX3_keep_19 ?_
    refine lv_bipush (v := 8) hx hb dX3_keep_20 (by decide) ?_
    refine lv_irem hx hb dX3_keep_22 (by decide) ?_
    refine lv_topi (fun x121 ex121 => ?_)
    have hf := dq_l hf x121 ex121
    clear ex121
    refine va_put (D := D) (ci := 2) (v := .int x121) (ty := .int) (C := RX3) (T := TX3) (N := 3) hx hb hts hiX3 tyX3 tyX3_ok nmX3 hown hK hP hD hS 0 rfl rfl 1 (by decide) hw2 (fun _ h9 => h9) rfl (tyX3_ok 1 (by decide)) rfl rfl (Nat.le_of_ble_eq_true rfl) dX3_keep_23 (fun H locs hP hD hS => ?_)
    have hP : va_P D vwCl (w_X3_keep y a b x121 p_count (va_up p_k_shutBits 4 p_k_shutBits_103) (va_up p_k_airs 4 p_k_airs_104) (va_up p_k_crownedBits 4 p_k_crownedBits_105) (va_up p_k_sitters 4 p_k_sitters_106) (va_up p_k_onBits 4 p_k_onBits_107) (va_up p_k_turn 4 p_k_turn_108) (va_up p_k_taken 4 p_k_taken_109) (va_up p_k_warmth 4 p_k_warmth_110) (va_up p_k_kind 4 p_k_kind_111) (va_up p_k_figure 4 p_k_figure_112) (va_up p_k_airCell 4 p_k_airCell_113) (va_up p_k_way 4 p_k_way_114) (va_up p_k_seat 4 p_k_seat_115) (va_up p_k_shawls 4 p_k_shawls_116) (va_up p_k_count 4 p_k_count_117) (va_up p_k_steps 4 p_k_steps_118) (va_up p_k_numbers 4 p_k_numbers_119) o_shutBits o_airs o_crownedBits o_sitters o_onBits o_turn o_taken o_warmth o_kind o_figure o_airCell o_way o_seat o_shawls o_count o_steps o_numbers) H := hP
    have hD : va_D A (w_X3_keep y a b x121 p_count (va_up p_k_shutBits 4 p_k_shutBits_103) (va_up p_k_airs 4 p_k_airs_104) (va_up p_k_crownedBits 4 p_k_crownedBits_105) (va_up p_k_sitters 4 p_k_sitters_106) (va_up p_k_onBits 4 p_k_onBits_107) (va_up p_k_turn 4 p_k_turn_108) (va_up p_k_taken 4 p_k_taken_109) (va_up p_k_warmth 4 p_k_warmth_110) (va_up p_k_kind 4 p_k_kind_111) (va_up p_k_figure 4 p_k_figure_112) (va_up p_k_airCell 4 p_k_airCell_113) (va_up p_k_way 4 p_k_way_114) (va_up p_k_seat 4 p_k_seat_115) (va_up p_k_shawls 4 p_k_shawls_116) (va_up p_k_count 4 p_k_count_117) (va_up p_k_steps 4 p_k_steps_118) (va_up p_k_numbers 4 p_k_numbers_119) o_shutBits o_airs o_crownedBits o_sitters o_onBits o_turn o_taken o_warmth o_kind o_figure o_airCell o_way o_seat o_shawls o_count o_steps o_numbers) := hD
    refine lv_aload_n hx hb dX3_keep_26 rfl (lv_at hl 0 rfl) ?_
    refine lv_aload_n hx hb dX3_keep_27 rfl (lv_at hl 0 rfl) ?_
    refine va_get (D := D) (ci := 2) (v := .int p_count) (C := RX3) (T := TX3) (N := 3) hx hb hts hiX3 hown hK hP 0 rfl rfl 2 (by decide) hw3 (fun _ h9 => h9) rfl dX3_keep_28 ?_
    refine lv_iconst (v := 1) hx hb dX3_keep_31 (by decide) ?_
    refine lv_iadd hx hb dX3_keep_32 ?_
    refine lv_bipush (v := 8) hx hb dX3_keep_33 (by decide) ?_
    refine va_mmin hx hb (hml.trans hl.1.symm) hown hw4 hw5 hw6 hw7 (Nat.le_of_ble_eq_true rfl) (Nat.le_of_ble_eq_true rfl) (Nat.zero_le _) (Nat.zero_le _) dX3_keep_35 ?_
    refine lv_topi (fun x122 ex122 => ?_)
    have hf := dq_l hf x122 ex122
    clear ex122
    refine va_put (D := D) (ci := 2) (v := .int x122) (ty := .int) (C := RX3) (T := TX3) (N := 3) hx hb hts hiX3 tyX3 tyX3_ok nmX3 hown hK hP hD hS 0 rfl rfl 2 (by decide) hw3 (fun _ h9 => h9) rfl (tyX3_ok 2 (by decide)) rfl rfl (Nat.le_of_ble_eq_true rfl) dX3_keep_38 (fun H locs hP hD hS => ?_)
    have hP : va_P D vwCl (w_X3_keep y a b x121 x122 (va_up p_k_shutBits 4 p_k_shutBits_103) (va_up p_k_airs 4 p_k_airs_104) (va_up p_k_crownedBits 4 p_k_crownedBits_105) (va_up p_k_sitters 4 p_k_sitters_106) (va_up p_k_onBits 4 p_k_onBits_107) (va_up p_k_turn 4 p_k_turn_108) (va_up p_k_taken 4 p_k_taken_109) (va_up p_k_warmth 4 p_k_warmth_110) (va_up p_k_kind 4 p_k_kind_111) (va_up p_k_figure 4 p_k_figure_112) (va_up p_k_airCell 4 p_k_airCell_113) (va_up p_k_way 4 p_k_way_114) (va_up p_k_seat 4 p_k_seat_115) (va_up p_k_shawls 4 p_k_shawls_116) (va_up p_k_count 4 p_k_count_117) (va_up p_k_steps 4 p_k_steps_118) (va_up p_k_numbers 4 p_k_numbers_119) o_shutBits o_airs o_crownedBits o_sitters o_onBits o_turn o_taken o_warmth o_kind o_figure o_airCell o_way o_seat o_shawls o_count o_steps o_numbers) H := hP
    have hD : va_D A (w_X3_keep y a b x121 x122 (va_up p_k_shutBits 4 p_k_shutBits_103) (va_up p_k_airs 4 p_k_airs_104) (va_up p_k_crownedBits 4 p_k_crownedBits_105) (va_up p_k_sitters 4 p_k_sitters_106) (va_up p_k_onBits 4 p_k_onBits_107) (va_up p_k_turn 4 p_k_turn_108) (va_up p_k_taken 4 p_k_taken_109) (va_up p_k_warmth 4 p_k_warmth_110) (va_up p_k_kind 4 p_k_kind_111) (va_up p_k_figure 4 p_k_figure_112) (va_up p_k_airCell 4 p_k_airCell_113) (va_up p_k_way 4 p_k_way_114) (va_up p_k_seat 4 p_k_seat_115) (va_up p_k_shawls 4 p_k_shawls_116) (va_up p_k_count 4 p_k_count_117) (va_up p_k_steps 4 p_k_steps_118) (va_up p_k_numbers 4 p_k_numbers_119) o_shutBits o_airs o_crownedBits o_sitters o_onBits o_turn o_taken o_warmth o_kind o_figure o_airCell o_way o_seat o_shawls o_count o_steps o_numbers) := hD
    obtain ⟨rfl, rfl, rfl, rfl, rfl, rfl, rfl, rfl, rfl, rfl, rfl, rfl, rfl, rfl, rfl, rfl, rfl, rfl, rfl⟩ := dq_r19 hf
    exact ct_vret hx hb hr hlocks hAe hP hK hD hS dX3_keep_41
  · try rw [ej22] at hf
    refine dq_aldH (cA := y 3) (n := 8) (b := (a 57)) (f := (fun i => if i < 8 then some (a (2 + 11 * i)) else none)) hx hb hK hP 1 3 rfl rfl h1 (by rw [ej22]; rfl) dX3_keep_8 ?_
    refine lv_aload_n hx hb dX3_keep_9 rfl (lv_at hl 1 rfl) ?_
    obtain ⟨p_k_shutBits_123, p_k_airs_124, p_k_crownedBits_125, p_k_sitters_126, p_k_onBits_127, p_k_turn_128, p_k_taken_129, p_k_warmth_130, p_k_kind_131, p_k_figure_132, p_k_airCell_133, p_k_way_134, p_k_seat_135, p_k_shawls_136, p_k_count_137, p_k_steps_138, p_k_numbers_139, hy140, hf⟩ := dq_b17 hf
    refine ct_callV (ci := 1) (q0 := 0) (own := RX3) (As := [.ref (b 0)]) (rest := []) (ws' := (w_X3_keep y a b p_next p_count (va_up p_k_shutBits 5 p_k_shutBits_123) (va_up p_k_airs 5 p_k_airs_124) (va_up p_k_crownedBits 5 p_k_crownedBits_125) (va_up p_k_sitters 5 p_k_sitters_126) (va_up p_k_onBits 5 p_k_onBits_127) (va_up p_k_turn 5 p_k_turn_128) (va_up p_k_taken 5 p_k_taken_129) (va_up p_k_warmth 5 p_k_warmth_130) (va_up p_k_kind 5 p_k_kind_131) (va_up p_k_figure 5 p_k_figure_132) (va_up p_k_airCell 5 p_k_airCell_133) (va_up p_k_way 5 p_k_way_134) (va_up p_k_seat 5 p_k_seat_135) (va_up p_k_shawls 5 p_k_shawls_136) (va_up p_k_count 5 p_k_count_137) (va_up p_k_steps 5 p_k_steps_138) (va_up p_k_numbers 5 p_k_numbers_139) o_shutBits o_airs o_crownedBits o_sitters o_onBits o_turn o_taken o_warmth o_kind o_figure o_airCell o_way o_seat o_shawls o_count o_steps o_numbers)) ⟨hx, hb, hml, hown, hts⟩ (m_X2_take l D y (fun k => a (57 + k)) b (p_k_shutBits 5) (p_k_airs 5) (p_k_crownedBits 5) (p_k_sitters 5) (p_k_onBits 5) (p_k_turn 5) (p_k_taken 5) (p_k_warmth 5) (p_k_kind 5) (p_k_figure 5) (p_k_airCell 5) (p_k_way 5) (p_k_seat 5) (p_k_shawls 5) (p_k_count 5) (p_k_steps 5) (p_k_numbers 5) o_shutBits o_airs o_crownedBits o_sitters o_onBits o_turn o_taken o_warmth o_kind o_figure o_airCell o_way o_seat o_shawls o_count o_steps o_numbers p_k_shutBits_123 p_k_airs_124 p_k_crownedBits_125 p_k_sitters_126 p_k_onBits_127 p_k_turn_128 p_k_taken_129 p_k_warmth_130 p_k_kind_131 p_k_figure_132 p_k_airCell_133 p_k_way_134 p_k_seat_135 p_k_shawls_136 p_k_count_137 p_k_steps_138 p_k_numbers_139 hy140) (cwV 1 hts gX3_keep_X2_take rfl rfl rfl (by decide +kernel) ⟨Nat.le_of_ble_eq_true rfl, Nat.le_of_ble_eq_true rfl⟩) rfl rfl rfl hl.1 rfl (Nat.le_of_ble_eq_true rfl) dX3_keep_10 ⟨Nat.zero_le _, Nat.zero_le _⟩ hK hP hD hS hA [57, 58, 59, 60, 61, 62, 63, 64, 65, 66, 67, 90, 91, 92, 93, 94, 95, 96, 97, 98, 99, 100] [0, 1, 2, 3, 4, 5, 6, 7, 8, 9, 10, 11, 12, 13, 14, 15, 16, 17, 18, 19, 20, 21, 22, 23, 24, 25, 26, 27, 28, 29, 30, 31, 32, 33, 34, 35, 36, 37, 38, 39, 40, 41, 42, 43, 44, 45, 46, 47, 48, 49, 50, 51, 52, 53, 54, 55, 56, 68, 69, 70, 71, 72, 73, 74, 75, 76, 77, 78, 79, 80, 81, 82, 83, 84, 85, 86, 87, 88, 89] [0, 1, 2, 3, 4, 5, 6, 7, 8, 9, 10, 11, 12, 13, 14, 15, 16, 17, 18, 19, 20, 21, 22, 23, 24, 25, 26, 27, 28, 29, 30, 31, 32, 33, 34, 35, 36, 37, 38, 39, 40, 41, 42, 43, 44, 45, 46, 47, 48, 49, 50, 51, 52, 53, 54, 55, 56, 79, 80, 81, 82, 83, 84, 85, 86, 87, 88, 89, 57, 58, 59, 60, 61, 62, 63, 64, 65, 66, 67, 68, 69, 70, 71, 72, 73, 74, 75, 76, 77, 78, 90, 91, 92, 93, 94, 95, 96, 97, 98, 99, 100] rfl rfl (by decide) (by decide) (by decide) rfl (by decide) (fun H locs hP hD hS => ?_)
    refine lv_aload_n hx hb dX3_keep_13 rfl (lv_at hl 0 rfl) ?_
    refine lv_aload_n hx hb dX3_keep_14 rfl (lv_at hl 0 rfl) ?_
    refine va_get (D := D) (ci := 2) (v := .int p_next) (C := RX3) (T := TX3) (N := 3) hx hb hts hiX3 hown hK hP 0 rfl rfl 1 (by decide) hw2 (fun _ h9 => h9) rfl dX3_keep_15 ?_
    refine lv_iconst (v := 1) hx hb dX3_keep_18 (by decide) ?_
    refine lv_iadd hx hb dX3_keep_19 ?_
    refine lv_bipush (v := 8) hx hb dX3_keep_20 (by decide) ?_
    refine lv_irem hx hb dX3_keep_22 (by decide) ?_
    refine lv_topi (fun x141 ex141 => ?_)
    have hf := dq_l hf x141 ex141
    clear ex141
    refine va_put (D := D) (ci := 2) (v := .int x141) (ty := .int) (C := RX3) (T := TX3) (N := 3) hx hb hts hiX3 tyX3 tyX3_ok nmX3 hown hK hP hD hS 0 rfl rfl 1 (by decide) hw2 (fun _ h9 => h9) rfl (tyX3_ok 1 (by decide)) rfl rfl (Nat.le_of_ble_eq_true rfl) dX3_keep_23 (fun H locs hP hD hS => ?_)
    have hP : va_P D vwCl (w_X3_keep y a b x141 p_count (va_up p_k_shutBits 5 p_k_shutBits_123) (va_up p_k_airs 5 p_k_airs_124) (va_up p_k_crownedBits 5 p_k_crownedBits_125) (va_up p_k_sitters 5 p_k_sitters_126) (va_up p_k_onBits 5 p_k_onBits_127) (va_up p_k_turn 5 p_k_turn_128) (va_up p_k_taken 5 p_k_taken_129) (va_up p_k_warmth 5 p_k_warmth_130) (va_up p_k_kind 5 p_k_kind_131) (va_up p_k_figure 5 p_k_figure_132) (va_up p_k_airCell 5 p_k_airCell_133) (va_up p_k_way 5 p_k_way_134) (va_up p_k_seat 5 p_k_seat_135) (va_up p_k_shawls 5 p_k_shawls_136) (va_up p_k_count 5 p_k_count_137) (va_up p_k_steps 5 p_k_steps_138) (va_up p_k_numbers 5 p_k_numbers_139) o_shutBits o_airs o_crownedBits o_sitters o_onBits o_turn o_taken o_warmth o_kind o_figure o_airCell o_way o_seat o_shawls o_count o_steps o_numbers) H := hP
    have hD : va_D A (w_X3_keep y a b x141 p_count (va_up p_k_shutBits 5 p_k_shutBits_123) (va_up p_k_airs 5 p_k_airs_124) (va_up p_k_crownedBits 5 p_k_crownedBits_125) (va_up p_k_sitters 5 p_k_sitters_126) (va_up p_k_onBits 5 p_k_onBits_127) (va_up p_k_turn 5 p_k_turn_128) (va_up p_k_taken 5 p_k_taken_129) (va_up p_k_warmth 5 p_k_warmth_130) (va_up p_k_kind 5 p_k_kind_131) (va_up p_k_figure 5 p_k_figure_132) (va_up p_k_airCell 5 p_k_airCell_133) (va_up p_k_way 5 p_k_way_134) (va_up p_k_seat 5 p_k_seat_135) (va_up p_k_shawls 5 p_k_shawls_136) (va_up p_k_count 5 p_k_count_137) (va_up p_k_steps 5 p_k_steps_138) (va_up p_k_numbers 5 p_k_numbers_139) o_shutBits o_airs o_crownedBits o_sitters o_onBits o_turn o_taken o_warmth o_kind o_figure o_airCell o_way o_seat o_shawls o_count o_steps o_numbers) := hD
    refine lv_aload_n hx hb dX3_keep_26 rfl (lv_at hl 0 rfl) ?_
    refine lv_aload_n hx hb dX3_keep_27 rfl (lv_at hl 0 rfl) ?_
    refine va_get (D := D) (ci := 2) (v := .int p_count) (C := RX3) (T := TX3) (N := 3) hx hb hts hiX3 hown hK hP 0 rfl rfl 2 (by decide) hw3 (fun _ h9 => h9) rfl dX3_keep_28 ?_
    refine lv_iconst (v := 1) hx hb dX3_keep_31 (by decide) ?_
    refine lv_iadd hx hb dX3_keep_32 ?_
    refine lv_bipush (v := 8) hx hb dX3_keep_33 (by decide) ?_
    refine va_mmin hx hb (hml.trans hl.1.symm) hown hw4 hw5 hw6 hw7 (Nat.le_of_ble_eq_true rfl) (Nat.le_of_ble_eq_true rfl) (Nat.zero_le _) (Nat.zero_le _) dX3_keep_35 ?_
    refine lv_topi (fun x142 ex142 => ?_)
    have hf := dq_l hf x142 ex142
    clear ex142
    refine va_put (D := D) (ci := 2) (v := .int x142) (ty := .int) (C := RX3) (T := TX3) (N := 3) hx hb hts hiX3 tyX3 tyX3_ok nmX3 hown hK hP hD hS 0 rfl rfl 2 (by decide) hw3 (fun _ h9 => h9) rfl (tyX3_ok 2 (by decide)) rfl rfl (Nat.le_of_ble_eq_true rfl) dX3_keep_38 (fun H locs hP hD hS => ?_)
    have hP : va_P D vwCl (w_X3_keep y a b x141 x142 (va_up p_k_shutBits 5 p_k_shutBits_123) (va_up p_k_airs 5 p_k_airs_124) (va_up p_k_crownedBits 5 p_k_crownedBits_125) (va_up p_k_sitters 5 p_k_sitters_126) (va_up p_k_onBits 5 p_k_onBits_127) (va_up p_k_turn 5 p_k_turn_128) (va_up p_k_taken 5 p_k_taken_129) (va_up p_k_warmth 5 p_k_warmth_130) (va_up p_k_kind 5 p_k_kind_131) (va_up p_k_figure 5 p_k_figure_132) (va_up p_k_airCell 5 p_k_airCell_133) (va_up p_k_way 5 p_k_way_134) (va_up p_k_seat 5 p_k_seat_135) (va_up p_k_shawls 5 p_k_shawls_136) (va_up p_k_count 5 p_k_count_137) (va_up p_k_steps 5 p_k_steps_138) (va_up p_k_numbers 5 p_k_numbers_139) o_shutBits o_airs o_crownedBits o_sitters o_onBits o_turn o_taken o_warmth o_kind o_figure o_airCell o_way o_seat o_shawls o_count o_steps o_numbers) H := hP
    have hD : va_D A (w_X3_keep y a b x141 x142 (va_up p_k_shutBits 5 p_k_shutBits_123) (va_up p_k_airs 5 p_k_airs_124) (va_up p_k_crownedBits 5 p_k_crownedBits_125) (va_up p_k_sitters 5 p_k_sitters_126) (va_up p_k_onBits 5 p_k_onBits_127) (va_up p_k_turn 5 p_k_turn_128) (va_up p_k_taken 5 p_k_taken_129) (va_up p_k_warmth 5 p_k_warmth_130) (va_up p_k_kind 5 p_k_kind_131) (va_up p_k_figure 5 p_k_figure_132) (va_up p_k_airCell 5 p_k_airCell_133) (va_up p_k_way 5 p_k_way_134) (va_up p_k_seat 5 p_k_seat_135) (va_up p_k_shawls 5 p_k_shawls_136) (va_up p_k_count 5 p_k_count_137) (va_up p_k_steps 5 p_k_steps_138) (va_up p_k_numbers 5 p_k_numbers_139) o_shutBits o_airs o_crownedBits o_sitters o_onBits o_turn o_taken o_warmth o_kind o_figure o_airCell o_way o_seat o_shawls o_count o_steps o_numbers) := hD
    obtain ⟨rfl, rfl, rfl, rfl, rfl, rfl, rfl, rfl, rfl, rfl, rfl, rfl, rfl, rfl, rfl, rfl, rfl, rfl, rfl⟩ := dq_r19 hf
    exact ct_vret hx hb hr hlocks hAe hP hK hD hS dX3_keep_41
  · try rw [ej22] at hf
    refine dq_aldH (cA := y 3) (n := 8) (b := (a 68)) (f := (fun i => if i < 8 then some (a (2 + 11 * i)) else none)) hx hb hK hP 1 3 rfl rfl h1 (by rw [ej22]; rfl) dX3_keep_8 ?_
    refine lv_aload_n hx hb dX3_keep_9 rfl (lv_at hl 1 rfl) ?_
    obtain ⟨p_k_shutBits_143, p_k_airs_144, p_k_crownedBits_145, p_k_sitters_146, p_k_onBits_147, p_k_turn_148, p_k_taken_149, p_k_warmth_150, p_k_kind_151, p_k_figure_152, p_k_airCell_153, p_k_way_154, p_k_seat_155, p_k_shawls_156, p_k_count_157, p_k_steps_158, p_k_numbers_159, hy160, hf⟩ := dq_b17 hf
    refine ct_callV (ci := 1) (q0 := 0) (own := RX3) (As := [.ref (b 0)]) (rest := []) (ws' := (w_X3_keep y a b p_next p_count (va_up p_k_shutBits 6 p_k_shutBits_143) (va_up p_k_airs 6 p_k_airs_144) (va_up p_k_crownedBits 6 p_k_crownedBits_145) (va_up p_k_sitters 6 p_k_sitters_146) (va_up p_k_onBits 6 p_k_onBits_147) (va_up p_k_turn 6 p_k_turn_148) (va_up p_k_taken 6 p_k_taken_149) (va_up p_k_warmth 6 p_k_warmth_150) (va_up p_k_kind 6 p_k_kind_151) (va_up p_k_figure 6 p_k_figure_152) (va_up p_k_airCell 6 p_k_airCell_153) (va_up p_k_way 6 p_k_way_154) (va_up p_k_seat 6 p_k_seat_155) (va_up p_k_shawls 6 p_k_shawls_156) (va_up p_k_count 6 p_k_count_157) (va_up p_k_steps 6 p_k_steps_158) (va_up p_k_numbers 6 p_k_numbers_159) o_shutBits o_airs o_crownedBits o_sitters o_onBits o_turn o_taken o_warmth o_kind o_figure o_airCell o_way o_seat o_shawls o_count o_steps o_numbers)) ⟨hx, hb, hml, hown, hts⟩ (m_X2_take l D y (fun k => a (68 + k)) b (p_k_shutBits 6) (p_k_airs 6) (p_k_crownedBits 6) (p_k_sitters 6) (p_k_onBits 6) (p_k_turn 6) (p_k_taken 6) (p_k_warmth 6) (p_k_kind 6) (p_k_figure 6) (p_k_airCell 6) (p_k_way 6) (p_k_seat 6) (p_k_shawls 6) (p_k_count 6) (p_k_steps 6) (p_k_numbers 6) o_shutBits o_airs o_crownedBits o_sitters o_onBits o_turn o_taken o_warmth o_kind o_figure o_airCell o_way o_seat o_shawls o_count o_steps o_numbers p_k_shutBits_143 p_k_airs_144 p_k_crownedBits_145 p_k_sitters_146 p_k_onBits_147 p_k_turn_148 p_k_taken_149 p_k_warmth_150 p_k_kind_151 p_k_figure_152 p_k_airCell_153 p_k_way_154 p_k_seat_155 p_k_shawls_156 p_k_count_157 p_k_steps_158 p_k_numbers_159 hy160) (cwV 1 hts gX3_keep_X2_take rfl rfl rfl (by decide +kernel) ⟨Nat.le_of_ble_eq_true rfl, Nat.le_of_ble_eq_true rfl⟩) rfl rfl rfl hl.1 rfl (Nat.le_of_ble_eq_true rfl) dX3_keep_10 ⟨Nat.zero_le _, Nat.zero_le _⟩ hK hP hD hS hA [68, 69, 70, 71, 72, 73, 74, 75, 76, 77, 78, 90, 91, 92, 93, 94, 95, 96, 97, 98, 99, 100] [0, 1, 2, 3, 4, 5, 6, 7, 8, 9, 10, 11, 12, 13, 14, 15, 16, 17, 18, 19, 20, 21, 22, 23, 24, 25, 26, 27, 28, 29, 30, 31, 32, 33, 34, 35, 36, 37, 38, 39, 40, 41, 42, 43, 44, 45, 46, 47, 48, 49, 50, 51, 52, 53, 54, 55, 56, 57, 58, 59, 60, 61, 62, 63, 64, 65, 66, 67, 79, 80, 81, 82, 83, 84, 85, 86, 87, 88, 89] [0, 1, 2, 3, 4, 5, 6, 7, 8, 9, 10, 11, 12, 13, 14, 15, 16, 17, 18, 19, 20, 21, 22, 23, 24, 25, 26, 27, 28, 29, 30, 31, 32, 33, 34, 35, 36, 37, 38, 39, 40, 41, 42, 43, 44, 45, 46, 47, 48, 49, 50, 51, 52, 53, 54, 55, 56, 57, 58, 59, 60, 61, 62, 63, 64, 65, 66, 67, 79, 80, 81, 82, 83, 84, 85, 86, 87, 88, 89, 68, 69, 70, 71, 72, 73, 74, 75, 76, 77, 78, 90, 91, 92, 93, 94, 95, 96, 97, 98, 99, 100] rfl rfl (by decide) (by decide) (by decide) rfl (by decide) (fun H locs hP hD hS => ?_)
    refine lv_aload_n hx hb dX3_keep_13 rfl (lv_at hl 0 rfl) ?_
    refine lv_aload_n hx hb dX3_keep_14 rfl (lv_at hl 0 rfl) ?_
    refine va_get (D := D) (ci := 2) (v := .int p_next) (C := RX3) (T := TX3) (N := 3) hx hb hts hiX3 hown hK hP 0 rfl rfl 1 (by decide) hw2 (fun _ h9 => h9) rfl dX3_keep_15 ?_
    refine lv_iconst (v := 1) hx hb dX3_keep_18 (by decide) ?_
    refine lv_iadd hx hb dX3_keep_19 ?_
    refine lv_bipush (v := 8) hx hb dX3_keep_20 (by decide) ?_
    refine lv_irem hx hb dX3_keep_22 (by decide) ?_
    refine lv_topi (fun x161 ex161 => ?_)
    have hf := dq_l hf x161 ex161
    clear ex161
    refine va_put (D := D) (ci := 2) (v := .int x161) (ty := .int) (C := RX3) (T := TX3) (N := 3) hx hb hts hiX3 tyX3 tyX3_ok nmX3 hown hK hP hD hS 0 rfl rfl 1 (by decide) hw2 (fun _ h9 => h9) rfl (tyX3_ok 1 (by decide)) rfl rfl (Nat.le_of_ble_eq_true rfl) dX3_keep_23 (fun H locs hP hD hS => ?_)
    have hP : va_P D vwCl (w_X3_keep y a b x161 p_count (va_up p_k_shutBits 6 p_k_shutBits_143) (va_up p_k_airs 6 p_k_airs_144) (va_up p_k_crownedBits 6 p_k_crownedBits_145) (va_up p_k_sitters 6 p_k_sitters_146) (va_up p_k_onBits 6 p_k_onBits_147) (va_up p_k_turn 6 p_k_turn_148) (va_up p_k_taken 6 p_k_taken_149) (va_up p_k_warmth 6 p_k_warmth_150) (va_up p_k_kind 6 p_k_kind_151) (va_up p_k_figure 6 p_k_figure_152) (va_up p_k_airCell 6 p_k_airCell_153) (va_up p_k_way 6 p_k_way_154) (va_up p_k_seat 6 p_k_seat_155) (va_up p_k_shawls 6 p_k_shawls_156) (va_up p_k_count 6 p_k_count_157) (va_up p_k_steps 6 p_k_steps_158) (va_up p_k_numbers 6 p_k_numbers_159) o_shutBits o_airs o_crownedBits o_sitters o_onBits o_turn o_taken o_warmth o_kind o_figure o_airCell o_way o_seat o_shawls o_count o_steps o_numbers) H := hP
    have hD : va_D A (w_X3_keep y a b x161 p_count (va_up p_k_shutBits 6 p_k_shutBits_143) (va_up p_k_airs 6 p_k_airs_144) (va_up p_k_crownedBits 6 p_k_crownedBits_145) (va_up p_k_sitters 6 p_k_sitters_146) (va_up p_k_onBits 6 p_k_onBits_147) (va_up p_k_turn 6 p_k_turn_148) (va_up p_k_taken 6 p_k_taken_149) (va_up p_k_warmth 6 p_k_warmth_150) (va_up p_k_kind 6 p_k_kind_151) (va_up p_k_figure 6 p_k_figure_152) (va_up p_k_airCell 6 p_k_airCell_153) (va_up p_k_way 6 p_k_way_154) (va_up p_k_seat 6 p_k_seat_155) (va_up p_k_shawls 6 p_k_shawls_156) (va_up p_k_count 6 p_k_count_157) (va_up p_k_steps 6 p_k_steps_158) (va_up p_k_numbers 6 p_k_numbers_159) o_shutBits o_airs o_crownedBits o_sitters o_onBits o_turn o_taken o_warmth o_kind o_figure o_airCell o_way o_seat o_shawls o_count o_steps o_numbers) := hD
    refine lv_aload_n hx hb dX3_keep_26 rfl (lv_at hl 0 rfl) ?_
    refine lv_aload_n hx hb dX3_keep_27 rfl (lv_at hl 0 rfl) ?_
    refine va_get (D := D) (ci := 2) (v := .int p_count) (C := RX3) (T := TX3) (N := 3) hx hb hts hiX3 hown hK hP 0 rfl rfl 2 (by decide) hw3 (fun _ h9 => h9) rfl dX3_keep_28 ?_
    refine lv_iconst (v := 1) hx hb dX3_keep_31 (by decide) ?_
    refine lv_iadd hx hb dX3_keep_32 ?_
    refine lv_bipush (v := 8) hx hb dX3_keep_33 (by decide) ?_
    refine va_mmin hx hb (hml.trans hl.1.symm) hown hw4 hw5 hw6 hw7 (Nat.le_of_ble_eq_true rfl) (Nat.le_of_ble_eq_true rfl) (Nat.zero_le _) (Nat.zero_le _) dX3_keep_35 ?_
    refine lv_topi (fun x162 ex162 => ?_)
    have hf := dq_l hf x162 ex162
    clear ex162
    refine va_put (D := D) (ci := 2) (v := .int x162) (ty := .int) (C := RX3) (T := TX3) (N := 3) hx hb hts hiX3 tyX3 tyX3_ok nmX3 hown hK hP hD hS 0 rfl rfl 2 (by decide) hw3 (fun _ h9 => h9) rfl (tyX3_ok 2 (by decide)) rfl rfl (Nat.le_of_ble_eq_true rfl) dX3_keep_38 (fun H locs hP hD hS => ?_)
    have hP : va_P D vwCl (w_X3_keep y a b x161 x162 (va_up p_k_shutBits 6 p_k_shutBits_143) (va_up p_k_airs 6 p_k_airs_144) (va_up p_k_crownedBits 6 p_k_crownedBits_145) (va_up p_k_sitters 6 p_k_sitters_146) (va_up p_k_onBits 6 p_k_onBits_147) (va_up p_k_turn 6 p_k_turn_148) (va_up p_k_taken 6 p_k_taken_149) (va_up p_k_warmth 6 p_k_warmth_150) (va_up p_k_kind 6 p_k_kind_151) (va_up p_k_figure 6 p_k_figure_152) (va_up p_k_airCell 6 p_k_airCell_153) (va_up p_k_way 6 p_k_way_154) (va_up p_k_seat 6 p_k_seat_155) (va_up p_k_shawls 6 p_k_shawls_156) (va_up p_k_count 6 p_k_count_157) (va_up p_k_steps 6 p_k_steps_158) (va_up p_k_numbers 6 p_k_numbers_159) o_shutBits o_airs o_crownedBits o_sitters o_onBits o_turn o_taken o_warmth o_kind o_figure o_airCell o_way o_seat o_shawls o_count o_steps o_numbers) H := hP
    have hD : va_D A (w_X3_keep y a b x161 x162 (va_up p_k_shutBits 6 p_k_shutBits_143) (va_up p_k_airs 6 p_k_airs_144) (va_up p_k_crownedBits 6 p_k_crownedBits_145) (va_up p_k_sitters 6 p_k_sitters_146) (va_up p_k_onBits 6 p_k_onBits_147) (va_up p_k_turn 6 p_k_turn_148) (va_up p_k_taken 6 p_k_taken_149) (va_up p_k_warmth 6 p_k_warmth_150) (va_up p_k_kind 6 p_k_kind_151) (va_up p_k_figure 6 p_k_figure_152) (va_up p_k_airCell 6 p_k_airCell_153) (va_up p_k_way 6 p_k_way_154) (va_up p_k_seat 6 p_k_seat_155) (va_up p_k_shawls 6 p_k_shawls_156) (va_up p_k_count 6 p_k_count_157) (va_up p_k_steps 6 p_k_steps_158) (va_up p_k_numbers 6 p_k_numbers_159) o_shutBits o_airs o_crownedBits o_sitters o_onBits o_turn o_taken o_warmth o_kind o_figure o_airCell o_way o_seat o_shawls o_count o_steps o_numbers) := hD
    obtain ⟨rfl, rfl, rfl, rfl, rfl, rfl, rfl, rfl, rfl, rfl, rfl, rfl, rfl, rfl, rfl, rfl, rfl, rfl, rfl⟩ := dq_r19 hf
    exact ct_vret hx hb hr hlocks hAe hP hK hD hS dX3_keep_41
  · try rw [ej22] at hf
    refine dq_aldH (cA := y 3) (n := 8) (b := (a 79)) (f := (fun i => if i < 8 then some (a (2 + 11 * i)) else none)) hx hb hK hP 1 3 rfl rfl h1 (by rw [ej22]; rfl) dX3_keep_8 ?_
    refine lv_aload_n hx hb dX3_keep_9 rfl (lv_at hl 1 rfl) ?_
    obtain ⟨p_k_shutBits_163, p_k_airs_164, p_k_crownedBits_165, p_k_sitters_166, p_k_onBits_167, p_k_turn_168, p_k_taken_169, p_k_warmth_170, p_k_kind_171, p_k_figure_172, p_k_airCell_173, p_k_way_174, p_k_seat_175, p_k_shawls_176, p_k_count_177, p_k_steps_178, p_k_numbers_179, hy180, hf⟩ := dq_b17 hf
    refine ct_callV (ci := 1) (q0 := 0) (own := RX3) (As := [.ref (b 0)]) (rest := []) (ws' := (w_X3_keep y a b p_next p_count (va_up p_k_shutBits 7 p_k_shutBits_163) (va_up p_k_airs 7 p_k_airs_164) (va_up p_k_crownedBits 7 p_k_crownedBits_165) (va_up p_k_sitters 7 p_k_sitters_166) (va_up p_k_onBits 7 p_k_onBits_167) (va_up p_k_turn 7 p_k_turn_168) (va_up p_k_taken 7 p_k_taken_169) (va_up p_k_warmth 7 p_k_warmth_170) (va_up p_k_kind 7 p_k_kind_171) (va_up p_k_figure 7 p_k_figure_172) (va_up p_k_airCell 7 p_k_airCell_173) (va_up p_k_way 7 p_k_way_174) (va_up p_k_seat 7 p_k_seat_175) (va_up p_k_shawls 7 p_k_shawls_176) (va_up p_k_count 7 p_k_count_177) (va_up p_k_steps 7 p_k_steps_178) (va_up p_k_numbers 7 p_k_numbers_179) o_shutBits o_airs o_crownedBits o_sitters o_onBits o_turn o_taken o_warmth o_kind o_figure o_airCell o_way o_seat o_shawls o_count o_steps o_numbers)) ⟨hx, hb, hml, hown, hts⟩ (m_X2_take l D y (fun k => a (79 + k)) b (p_k_shutBits 7) (p_k_airs 7) (p_k_crownedBits 7) (p_k_sitters 7) (p_k_onBits 7) (p_k_turn 7) (p_k_taken 7) (p_k_warmth 7) (p_k_kind 7) (p_k_figure 7) (p_k_airCell 7) (p_k_way 7) (p_k_seat 7) (p_k_shawls 7) (p_k_count 7) (p_k_steps 7) (p_k_numbers 7) o_shutBits o_airs o_crownedBits o_sitters o_onBits o_turn o_taken o_warmth o_kind o_figure o_airCell o_way o_seat o_shawls o_count o_steps o_numbers p_k_shutBits_163 p_k_airs_164 p_k_crownedBits_165 p_k_sitters_166 p_k_onBits_167 p_k_turn_168 p_k_taken_169 p_k_warmth_170 p_k_kind_171 p_k_figure_172 p_k_airCell_173 p_k_way_174 p_k_seat_175 p_k_shawls_176 p_k_count_177 p_k_steps_178 p_k_numbers_179 hy180) (cwV 1 hts gX3_keep_X2_take rfl rfl rfl (by decide +kernel) ⟨Nat.le_of_ble_eq_true rfl, Nat.le_of_ble_eq_true rfl⟩) rfl rfl rfl hl.1 rfl (Nat.le_of_ble_eq_true rfl) dX3_keep_10 ⟨Nat.zero_le _, Nat.zero_le _⟩ hK hP hD hS hA [79, 80, 81, 82, 83, 84, 85, 86, 87, 88, 89, 90, 91, 92, 93, 94, 95, 96, 97, 98, 99, 100] [0, 1, 2, 3, 4, 5, 6, 7, 8, 9, 10, 11, 12, 13, 14, 15, 16, 17, 18, 19, 20, 21, 22, 23, 24, 25, 26, 27, 28, 29, 30, 31, 32, 33, 34, 35, 36, 37, 38, 39, 40, 41, 42, 43, 44, 45, 46, 47, 48, 49, 50, 51, 52, 53, 54, 55, 56, 57, 58, 59, 60, 61, 62, 63, 64, 65, 66, 67, 68, 69, 70, 71, 72, 73, 74, 75, 76, 77, 78] [0, 1, 2, 3, 4, 5, 6, 7, 8, 9, 10, 11, 12, 13, 14, 15, 16, 17, 18, 19, 20, 21, 22, 23, 24, 25, 26, 27, 28, 29, 30, 31, 32, 33, 34, 35, 36, 37, 38, 39, 40, 41, 42, 43, 44, 45, 46, 47, 48, 49, 50, 51, 52, 53, 54, 55, 56, 57, 58, 59, 60, 61, 62, 63, 64, 65, 66, 67, 68, 69, 70, 71, 72, 73, 74, 75, 76, 77, 78, 79, 80, 81, 82, 83, 84, 85, 86, 87, 88, 89, 90, 91, 92, 93, 94, 95, 96, 97, 98, 99, 100] rfl rfl (by decide) (by decide) (by decide) rfl (by decide) (fun H locs hP hD hS => ?_)
    refine lv_aload_n hx hb dX3_keep_13 rfl (lv_at hl 0 rfl) ?_
    refine lv_aload_n hx hb dX3_keep_14 rfl (lv_at hl 0 rfl) ?_
    refine va_get (D := D) (ci := 2) (v := .int p_next) (C := RX3) (T := TX3) (N := 3) hx hb hts hiX3 hown hK hP 0 rfl rfl 1 (by decide) hw2 (fun _ h9 => h9) rfl dX3_keep_15 ?_
    refine lv_iconst (v := 1) hx hb dX3_keep_18 (by decide) ?_
    refine lv_iadd hx hb dX3_keep_19 ?_
    refine lv_bipush (v := 8) hx hb dX3_keep_20 (by decide) ?_
    refine lv_irem hx hb dX3_keep_22 (by decide) ?_
    refine lv_topi (fun x181 ex181 => ?_)
    have hf := dq_l hf x181 ex181
    clear ex181
    refine va_put (D := D) (ci := 2) (v := .int x181) (ty := .int) (C := RX3) (T := TX3) (N := 3) hx hb hts hiX3 tyX3 tyX3_ok nmX3 hown hK hP hD hS 0 rfl rfl 1 (by decide) hw2 (fun _ h9 => h9) rfl (tyX3_ok 1 (by decide)) rfl rfl (Nat.le_of_ble_eq_true rfl) dX3_keep_23 (fun H locs hP hD hS => ?_)
    have hP : va_P D vwCl (w_X3_keep y a b x181 p_count (va_up p_k_shutBits 7 p_k_shutBits_163) (va_up p_k_airs 7 p_k_airs_164) (va_up p_k_crownedBits 7 p_k_crownedBits_165) (va_up p_k_sitters 7 p_k_sitters_166) (va_up p_k_onBits 7 p_k_onBits_167) (va_up p_k_turn 7 p_k_turn_168) (va_up p_k_taken 7 p_k_taken_169) (va_up p_k_warmth 7 p_k_warmth_170) (va_up p_k_kind 7 p_k_kind_171) (va_up p_k_figure 7 p_k_figure_172) (va_up p_k_airCell 7 p_k_airCell_173) (va_up p_k_way 7 p_k_way_174) (va_up p_k_seat 7 p_k_seat_175) (va_up p_k_shawls 7 p_k_shawls_176) (va_up p_k_count 7 p_k_count_177) (va_up p_k_steps 7 p_k_steps_178) (va_up p_k_numbers 7 p_k_numbers_179) o_shutBits o_airs o_crownedBits o_sitters o_onBits o_turn o_taken o_warmth o_kind o_figure o_airCell o_way o_seat o_shawls o_count o_steps o_numbers) H := hP
    have hD : va_D A (w_X3_keep y a b x181 p_count (va_up p_k_shutBits 7 p_k_shutBits_163) (va_up p_k_airs 7 p_k_airs_164) (va_up p_k_crownedBits 7 p_k_crownedBits_165) (va_up p_k_sitters 7 p_k_sitters_166) (va_up p_k_onBits 7 p_k_onBits_167) (va_up p_k_turn 7 p_k_turn_168) (va_up p_k_taken 7 p_k_taken_169) (va_up p_k_warmth 7 p_k_warmth_170) (va_up p_k_kind 7 p_k_kind_171) (va_up p_k_figure 7 p_k_figure_172) (va_up p_k_airCell 7 p_k_airCell_173) (va_up p_k_way 7 p_k_way_174) (va_up p_k_seat 7 p_k_seat_175) (va_up p_k_shawls 7 p_k_shawls_176) (va_up p_k_count 7 p_k_count_177) (va_up p_k_steps 7 p_k_steps_178) (va_up p_k_numbers 7 p_k_numbers_179) o_shutBits o_airs o_crownedBits o_sitters o_onBits o_turn o_taken o_warmth o_kind o_figure o_airCell o_way o_seat o_shawls o_count o_steps o_numbers) := hD
    refine lv_aload_n hx hb dX3_keep_26 rfl (lv_at hl 0 rfl) ?_
    refine lv_aload_n hx hb dX3_keep_27 rfl (lv_at hl 0 rfl) ?_
    refine va_get (D := D) (ci := 2) (v := .int p_count) (C := RX3) (T := TX3) (N := 3) hx hb hts hiX3 hown hK hP 0 rfl rfl 2 (by decide) hw3 (fun _ h9 => h9) rfl dX3_keep_28 ?_
    refine lv_iconst (v := 1) hx hb dX3_keep_31 (by decide) ?_
    refine lv_iadd hx hb dX3_keep_32 ?_
    refine lv_bipush (v := 8) hx hb dX3_keep_33 (by decide) ?_
    refine va_mmin hx hb (hml.trans hl.1.symm) hown hw4 hw5 hw6 hw7 (Nat.le_of_ble_eq_true rfl) (Nat.le_of_ble_eq_true rfl) (Nat.zero_le _) (Nat.zero_le _) dX3_keep_35 ?_
    refine lv_topi (fun x182 ex182 => ?_)
    have hf := dq_l hf x182 ex182
    clear ex182
    refine va_put (D := D) (ci := 2) (v := .int x182) (ty := .int) (C := RX3) (T := TX3) (N := 3) hx hb hts hiX3 tyX3 tyX3_ok nmX3 hown hK hP hD hS 0 rfl rfl 2 (by decide) hw3 (fun _ h9 => h9) rfl (tyX3_ok 2 (by decide)) rfl rfl (Nat.le_of_ble_eq_true rfl) dX3_keep_38 (fun H locs hP hD hS => ?_)
    have hP : va_P D vwCl (w_X3_keep y a b x181 x182 (va_up p_k_shutBits 7 p_k_shutBits_163) (va_up p_k_airs 7 p_k_airs_164) (va_up p_k_crownedBits 7 p_k_crownedBits_165) (va_up p_k_sitters 7 p_k_sitters_166) (va_up p_k_onBits 7 p_k_onBits_167) (va_up p_k_turn 7 p_k_turn_168) (va_up p_k_taken 7 p_k_taken_169) (va_up p_k_warmth 7 p_k_warmth_170) (va_up p_k_kind 7 p_k_kind_171) (va_up p_k_figure 7 p_k_figure_172) (va_up p_k_airCell 7 p_k_airCell_173) (va_up p_k_way 7 p_k_way_174) (va_up p_k_seat 7 p_k_seat_175) (va_up p_k_shawls 7 p_k_shawls_176) (va_up p_k_count 7 p_k_count_177) (va_up p_k_steps 7 p_k_steps_178) (va_up p_k_numbers 7 p_k_numbers_179) o_shutBits o_airs o_crownedBits o_sitters o_onBits o_turn o_taken o_warmth o_kind o_figure o_airCell o_way o_seat o_shawls o_count o_steps o_numbers) H := hP
    have hD : va_D A (w_X3_keep y a b x181 x182 (va_up p_k_shutBits 7 p_k_shutBits_163) (va_up p_k_airs 7 p_k_airs_164) (va_up p_k_crownedBits 7 p_k_crownedBits_165) (va_up p_k_sitters 7 p_k_sitters_166) (va_up p_k_onBits 7 p_k_onBits_167) (va_up p_k_turn 7 p_k_turn_168) (va_up p_k_taken 7 p_k_taken_169) (va_up p_k_warmth 7 p_k_warmth_170) (va_up p_k_kind 7 p_k_kind_171) (va_up p_k_figure 7 p_k_figure_172) (va_up p_k_airCell 7 p_k_airCell_173) (va_up p_k_way 7 p_k_way_174) (va_up p_k_seat 7 p_k_seat_175) (va_up p_k_shawls 7 p_k_shawls_176) (va_up p_k_count 7 p_k_count_177) (va_up p_k_steps 7 p_k_steps_178) (va_up p_k_numbers 7 p_k_numbers_179) o_shutBits o_airs o_crownedBits o_sitters o_onBits o_turn o_taken o_warmth o_kind o_figure o_airCell o_way o_seat o_shawls o_count o_steps o_numbers) := hD
    obtain ⟨rfl, rfl, rfl, rfl, rfl, rfl, rfl, rfl, rfl, rfl, rfl, rfl, rfl, rfl, rfl, rfl, rfl, rfl, rfl⟩ := dq_r19 hf
    exact ct_vret hx hb hr hlocks hAe hP hK hD hS dX3_keep_41
def w_X3_giveBack (y : Nat → ClassId) (a : Nat → Nat) (b : Nat → Nat) (p_next : Int32) (p_count : Int32) (p_k_shutBits : (Nat → Int64)) (p_k_airs : (Nat → Int32)) (p_k_crownedBits : (Nat → Int32)) (p_k_sitters : (Nat → Int32)) (p_k_onBits : (Nat → Int32)) (p_k_turn : (Nat → Int32)) (p_k_taken : (Nat → Int32)) (p_k_warmth : (Nat → Nat → UInt32)) (p_k_kind : (Nat → Nat → Int32)) (p_k_figure : (Nat → Nat → Int32)) (p_k_airCell : (Nat → Nat → Int32)) (p_k_way : (Nat → Nat → Int32)) (p_k_seat : (Nat → Nat → Int32)) (p_k_shawls : (Nat → Nat → Int32)) (p_k_count : (Nat → Int32)) (p_k_steps : (Nat → Nat → Int32)) (p_k_numbers : (Nat → Nat → Int32)) (o_shutBits : Int64) (o_airs : Int32) (o_crownedBits : Int32) (o_sitters : Int32) (o_onBits : Int32) (o_turn : Int32) (o_taken : Int32) (o_warmth : (Nat → UInt32)) (o_kind : (Nat → Int32)) (o_figure : (Nat → Int32)) (o_airCell : (Nat → Int32)) (o_way : (Nat → Int32)) (o_seat : (Nat → Int32)) (o_shawls : (Nat → Int32)) (o_count : Int32) (o_steps : (Nat → Int32)) (o_numbers : (Nat → Int32)) : va_W := [((a 0), .inr (2, [.ref (a 1), .int p_next, .int p_count])), ((a 1), .inl (y 3, 8, .inr (.inr (.inr (.inr (fun i => if i < 8 then some (a (2 + 11 * i)) else none)))))), ((a 2), .inr (1, [.ref (a 3), .long (p_k_shutBits 0), .int (p_k_airs 0), .ref (a 4), .ref (a 5), .ref (a 6), .ref (a 7), .int (p_k_crownedBits 0), .int (p_k_sitters 0), .ref (a 8), .ref (a 9), .int (p_k_onBits 0), .int (p_k_turn 0), .int (p_k_taken 0), .ref (a 10)])), ((a 3), .inl (y 0, 36, .inr (.inr (.inl (p_k_warmth 0))))), ((a 4), .inl (y 1, 5, .inl (p_k_kind 0))), ((a 5), .inl (y 1, 5, .inl (p_k_figure 0))), ((a 6), .inl (y 1, 5, .inl (p_k_airCell 0))), ((a 7), .inl (y 1, 5, .inl (p_k_way 0))), ((a 8), .inl (y 1, 6, .inl (p_k_seat 0))), ((a 9), .inl (y 1, 6, .inl (p_k_shawls 0))), ((a 10), .inr (0, [.ref (a 11), .ref (a 12), .int (p_k_count 0)])), ((a 11), .inl (y 1, 6, .inl (p_k_steps 0))), ((a 12), .inl (y 1, 6, .inl (p_k_numbers 0))), ((a 13), .inr (1, [.ref (a 14), .long (p_k_shutBits 1), .int (p_k_airs 1), .ref (a 15), .ref (a 16), .ref (a 17), .ref (a 18), .int (p_k_crownedBits 1), .int (p_k_sitters 1), .ref (a 19), .ref (a 20), .int (p_k_onBits 1), .int (p_k_turn 1), .int (p_k_taken 1), .ref (a 21)])), ((a 14), .inl (y 0, 36, .inr (.inr (.inl (p_k_warmth 1))))), ((a 15), .inl (y 1, 5, .inl (p_k_kind 1))), ((a 16), .inl (y 1, 5, .inl (p_k_figure 1))), ((a 17), .inl (y 1, 5, .inl (p_k_airCell 1))), ((a 18), .inl (y 1, 5, .inl (p_k_way 1))), ((a 19), .inl (y 1, 6, .inl (p_k_seat 1))), ((a 20), .inl (y 1, 6, .inl (p_k_shawls 1))), ((a 21), .inr (0, [.ref (a 22), .ref (a 23), .int (p_k_count 1)])), ((a 22), .inl (y 1, 6, .inl (p_k_steps 1))), ((a 23), .inl (y 1, 6, .inl (p_k_numbers 1))), ((a 24), .inr (1, [.ref (a 25), .long (p_k_shutBits 2), .int (p_k_airs 2), .ref (a 26), .ref (a 27), .ref (a 28), .ref (a 29), .int (p_k_crownedBits 2), .int (p_k_sitters 2), .ref (a 30), .ref (a 31), .int (p_k_onBits 2), .int (p_k_turn 2), .int (p_k_taken 2), .ref (a 32)])), ((a 25), .inl (y 0, 36, .inr (.inr (.inl (p_k_warmth 2))))), ((a 26), .inl (y 1, 5, .inl (p_k_kind 2))), ((a 27), .inl (y 1, 5, .inl (p_k_figure 2))), ((a 28), .inl (y 1, 5, .inl (p_k_airCell 2))), ((a 29), .inl (y 1, 5, .inl (p_k_way 2))), ((a 30), .inl (y 1, 6, .inl (p_k_seat 2))), ((a 31), .inl (y 1, 6, .inl (p_k_shawls 2))), ((a 32), .inr (0, [.ref (a 33), .ref (a 34), .int (p_k_count 2)])), ((a 33), .inl (y 1, 6, .inl (p_k_steps 2))), ((a 34), .inl (y 1, 6, .inl (p_k_numbers 2))), ((a 35), .inr (1, [.ref (a 36), .long (p_k_shutBits 3), .int (p_k_airs 3), .ref (a 37), .ref (a 38), .ref (a 39), .ref (a 40), .int (p_k_crownedBits 3), .int (p_k_sitters 3), .ref (a 41), .ref (a 42), .int (p_k_onBits 3), .int (p_k_turn 3), .int (p_k_taken 3), .ref (a 43)])), ((a 36), .inl (y 0, 36, .inr (.inr (.inl (p_k_warmth 3))))), ((a 37), .inl (y 1, 5, .inl (p_k_kind 3))), ((a 38), .inl (y 1, 5, .inl (p_k_figure 3))), ((a 39), .inl (y 1, 5, .inl (p_k_airCell 3))), ((a 40), .inl (y 1, 5, .inl (p_k_way 3))), ((a 41), .inl (y 1, 6, .inl (p_k_seat 3))), ((a 42), .inl (y 1, 6, .inl (p_k_shawls 3))), ((a 43), .inr (0, [.ref (a 44), .ref (a 45), .int (p_k_count 3)])), ((a 44), .inl (y 1, 6, .inl (p_k_steps 3))), ((a 45), .inl (y 1, 6, .inl (p_k_numbers 3))), ((a 46), .inr (1, [.ref (a 47), .long (p_k_shutBits 4), .int (p_k_airs 4), .ref (a 48), .ref (a 49), .ref (a 50), .ref (a 51), .int (p_k_crownedBits 4), .int (p_k_sitters 4), .ref (a 52), .ref (a 53), .int (p_k_onBits 4), .int (p_k_turn 4), .int (p_k_taken 4), .ref (a 54)])), ((a 47), .inl (y 0, 36, .inr (.inr (.inl (p_k_warmth 4))))), ((a 48), .inl (y 1, 5, .inl (p_k_kind 4))), ((a 49), .inl (y 1, 5, .inl (p_k_figure 4))), ((a 50), .inl (y 1, 5, .inl (p_k_airCell 4))), ((a 51), .inl (y 1, 5, .inl (p_k_way 4))), ((a 52), .inl (y 1, 6, .inl (p_k_seat 4))), ((a 53), .inl (y 1, 6, .inl (p_k_shawls 4))), ((a 54), .inr (0, [.ref (a 55), .ref (a 56), .int (p_k_count 4)])), ((a 55), .inl (y 1, 6, .inl (p_k_steps 4))), ((a 56), .inl (y 1, 6, .inl (p_k_numbers 4))), ((a 57), .inr (1, [.ref (a 58), .long (p_k_shutBits 5), .int (p_k_airs 5), .ref (a 59), .ref (a 60), .ref (a 61), .ref (a 62), .int (p_k_crownedBits 5), .int (p_k_sitters 5), .ref (a 63), .ref (a 64), .int (p_k_onBits 5), .int (p_k_turn 5), .int (p_k_taken 5), .ref (a 65)])), ((a 58), .inl (y 0, 36, .inr (.inr (.inl (p_k_warmth 5))))), ((a 59), .inl (y 1, 5, .inl (p_k_kind 5))), ((a 60), .inl (y 1, 5, .inl (p_k_figure 5))), ((a 61), .inl (y 1, 5, .inl (p_k_airCell 5))), ((a 62), .inl (y 1, 5, .inl (p_k_way 5))), ((a 63), .inl (y 1, 6, .inl (p_k_seat 5))), ((a 64), .inl (y 1, 6, .inl (p_k_shawls 5))), ((a 65), .inr (0, [.ref (a 66), .ref (a 67), .int (p_k_count 5)])), ((a 66), .inl (y 1, 6, .inl (p_k_steps 5))), ((a 67), .inl (y 1, 6, .inl (p_k_numbers 5))), ((a 68), .inr (1, [.ref (a 69), .long (p_k_shutBits 6), .int (p_k_airs 6), .ref (a 70), .ref (a 71), .ref (a 72), .ref (a 73), .int (p_k_crownedBits 6), .int (p_k_sitters 6), .ref (a 74), .ref (a 75), .int (p_k_onBits 6), .int (p_k_turn 6), .int (p_k_taken 6), .ref (a 76)])), ((a 69), .inl (y 0, 36, .inr (.inr (.inl (p_k_warmth 6))))), ((a 70), .inl (y 1, 5, .inl (p_k_kind 6))), ((a 71), .inl (y 1, 5, .inl (p_k_figure 6))), ((a 72), .inl (y 1, 5, .inl (p_k_airCell 6))), ((a 73), .inl (y 1, 5, .inl (p_k_way 6))), ((a 74), .inl (y 1, 6, .inl (p_k_seat 6))), ((a 75), .inl (y 1, 6, .inl (p_k_shawls 6))), ((a 76), .inr (0, [.ref (a 77), .ref (a 78), .int (p_k_count 6)])), ((a 77), .inl (y 1, 6, .inl (p_k_steps 6))), ((a 78), .inl (y 1, 6, .inl (p_k_numbers 6))), ((a 79), .inr (1, [.ref (a 80), .long (p_k_shutBits 7), .int (p_k_airs 7), .ref (a 81), .ref (a 82), .ref (a 83), .ref (a 84), .int (p_k_crownedBits 7), .int (p_k_sitters 7), .ref (a 85), .ref (a 86), .int (p_k_onBits 7), .int (p_k_turn 7), .int (p_k_taken 7), .ref (a 87)])), ((a 80), .inl (y 0, 36, .inr (.inr (.inl (p_k_warmth 7))))), ((a 81), .inl (y 1, 5, .inl (p_k_kind 7))), ((a 82), .inl (y 1, 5, .inl (p_k_figure 7))), ((a 83), .inl (y 1, 5, .inl (p_k_airCell 7))), ((a 84), .inl (y 1, 5, .inl (p_k_way 7))), ((a 85), .inl (y 1, 6, .inl (p_k_seat 7))), ((a 86), .inl (y 1, 6, .inl (p_k_shawls 7))), ((a 87), .inr (0, [.ref (a 88), .ref (a 89), .int (p_k_count 7)])), ((a 88), .inl (y 1, 6, .inl (p_k_steps 7))), ((a 89), .inl (y 1, 6, .inl (p_k_numbers 7))), ((b 0), .inr (1, [.ref (b 1), .long o_shutBits, .int o_airs, .ref (b 2), .ref (b 3), .ref (b 4), .ref (b 5), .int o_crownedBits, .int o_sitters, .ref (b 6), .ref (b 7), .int o_onBits, .int o_turn, .int o_taken, .ref (b 8)])), ((b 1), .inl (y 0, 36, .inr (.inr (.inl o_warmth)))), ((b 2), .inl (y 1, 5, .inl o_kind)), ((b 3), .inl (y 1, 5, .inl o_figure)), ((b 4), .inl (y 1, 5, .inl o_airCell)), ((b 5), .inl (y 1, 5, .inl o_way)), ((b 6), .inl (y 1, 6, .inl o_seat)), ((b 7), .inl (y 1, 6, .inl o_shawls)), ((b 8), .inr (0, [.ref (b 9), .ref (b 10), .int o_count])), ((b 9), .inl (y 1, 6, .inl o_steps)), ((b 10), .inl (y 1, 6, .inl o_numbers))]
noncomputable def f_X3_giveBack (p_next : Int32) (p_count : Int32) (p_k_shutBits : (Nat → Int64)) (p_k_airs : (Nat → Int32)) (p_k_crownedBits : (Nat → Int32)) (p_k_sitters : (Nat → Int32)) (p_k_onBits : (Nat → Int32)) (p_k_turn : (Nat → Int32)) (p_k_taken : (Nat → Int32)) (p_k_warmth : (Nat → Nat → UInt32)) (p_k_kind : (Nat → Nat → Int32)) (p_k_figure : (Nat → Nat → Int32)) (p_k_airCell : (Nat → Nat → Int32)) (p_k_way : (Nat → Nat → Int32)) (p_k_seat : (Nat → Nat → Int32)) (p_k_shawls : (Nat → Nat → Int32)) (p_k_count : (Nat → Int32)) (p_k_steps : (Nat → Nat → Int32)) (p_k_numbers : (Nat → Nat → Int32)) (o_warmth : (Nat → UInt32)) (o_kind : (Nat → Int32)) (o_figure : (Nat → Int32)) (o_airCell : (Nat → Int32)) (o_way : (Nat → Int32)) (o_seat : (Nat → Int32)) (o_shawls : (Nat → Int32)) (o_steps : (Nat → Int32)) (o_numbers : (Nat → Int32)) : Option (Int32 × Int32 × Int64 × Int32 × Int32 × Int32 × Int32 × Int32 × Int32 × (Nat → UInt32) × (Nat → Int32) × (Nat → Int32) × (Nat → Int32) × (Nat → Int32) × (Nat → Int32) × (Nat → Int32) × Int32 × (Nat → Int32) × (Nat → Int32)) := dq_let (((p_next + (8 : Int32)) - (1 : Int32)) - ((p_next + (8 : Int32)) - (1 : Int32)) / (8 : Int32) * (8 : Int32)) (fun (x1 : Int32) => dq_let (p_count - (1 : Int32)) (fun (x2 : Int32) => dq_gd (vp_in x1 8) (dq_bd17 (f_X2_take o_warmth o_kind o_figure o_airCell o_way o_seat o_shawls o_steps o_numbers (p_k_shutBits x1.toNatClampNeg) (p_k_airs x1.toNatClampNeg) (p_k_crownedBits x1.toNatClampNeg) (p_k_sitters x1.toNatClampNeg) (p_k_onBits x1.toNatClampNeg) (p_k_turn x1.toNatClampNeg) (p_k_taken x1.toNatClampNeg) (p_k_warmth x1.toNatClampNeg) (p_k_kind x1.toNatClampNeg) (p_k_figure x1.toNatClampNeg) (p_k_airCell x1.toNatClampNeg) (p_k_way x1.toNatClampNeg) (p_k_seat x1.toNatClampNeg) (p_k_shawls x1.toNatClampNeg) (p_k_count x1.toNatClampNeg) (p_k_steps x1.toNatClampNeg) (p_k_numbers x1.toNatClampNeg)) (fun (o_shutBits_4 : Int64) (o_airs_5 : Int32) (o_crownedBits_6 : Int32) (o_sitters_7 : Int32) (o_onBits_8 : Int32) (o_turn_9 : Int32) (o_taken_10 : Int32) (o_warmth_11 : (Nat → UInt32)) (o_kind_12 : (Nat → Int32)) (o_figure_13 : (Nat → Int32)) (o_airCell_14 : (Nat → Int32)) (o_way_15 : (Nat → Int32)) (o_seat_16 : (Nat → Int32)) (o_shawls_17 : (Nat → Int32)) (o_count_18 : Int32) (o_steps_19 : (Nat → Int32)) (o_numbers_20 : (Nat → Int32)) => some (x1, x2, o_shutBits_4, o_airs_5, o_crownedBits_6, o_sitters_7, o_onBits_8, o_turn_9, o_taken_10, o_warmth_11, o_kind_12, o_figure_13, o_airCell_14, o_way_15, o_seat_16, o_shawls_17, o_count_18, o_steps_19, o_numbers_20)))))
-- DraughtsTake$Past.giveBack(LDraughtsTake$House;)V
set_option maxHeartbeats 4000000 in
set_option maxRecDepth 100000 in
theorem m_X3_giveBack (l : Launch) (D : va_G) (y : Nat → ClassId) (a : (Nat → Nat)) (b : (Nat → Nat)) (p_next : Int32) (p_count : Int32) (p_k_shutBits : (Nat → Int64)) (p_k_airs : (Nat → Int32)) (p_k_crownedBits : (Nat → Int32)) (p_k_sitters : (Nat → Int32)) (p_k_onBits : (Nat → Int32)) (p_k_turn : (Nat → Int32)) (p_k_taken : (Nat → Int32)) (p_k_warmth : (Nat → Nat → UInt32)) (p_k_kind : (Nat → Nat → Int32)) (p_k_figure : (Nat → Nat → Int32)) (p_k_airCell : (Nat → Nat → Int32)) (p_k_way : (Nat → Nat → Int32)) (p_k_seat : (Nat → Nat → Int32)) (p_k_shawls : (Nat → Nat → Int32)) (p_k_count : (Nat → Int32)) (p_k_steps : (Nat → Nat → Int32)) (p_k_numbers : (Nat → Nat → Int32)) (o_shutBits : Int64) (o_airs : Int32) (o_crownedBits : Int32) (o_sitters : Int32) (o_onBits : Int32) (o_turn : Int32) (o_taken : Int32) (o_warmth : (Nat → UInt32)) (o_kind : (Nat → Int32)) (o_figure : (Nat → Int32)) (o_airCell : (Nat → Int32)) (o_way : (Nat → Int32)) (o_seat : (Nat → Int32)) (o_shawls : (Nat → Int32)) (o_count : Int32) (o_steps : (Nat → Int32)) (o_numbers : (Nat → Int32)) (z0 : Int32) (z1 : Int32) (z2 : Int64) (z3 : Int32) (z4 : Int32) (z5 : Int32) (z6 : Int32) (z7 : Int32) (z8 : Int32) (z9 : (Nat → UInt32)) (z10 : (Nat → Int32)) (z11 : (Nat → Int32)) (z12 : (Nat → Int32)) (z13 : (Nat → Int32)) (z14 : (Nat → Int32)) (z15 : (Nat → Int32)) (z16 : Int32) (z17 : (Nat → Int32)) (z18 : (Nat → Int32)) (hf : f_X3_giveBack p_next p_count p_k_shutBits p_k_airs p_k_crownedBits p_k_sitters p_k_onBits p_k_turn p_k_taken p_k_warmth p_k_kind p_k_figure p_k_airCell p_k_way p_k_seat p_k_shawls p_k_count p_k_steps p_k_numbers o_warmth o_kind o_figure o_airCell o_way o_seat o_shawls o_steps o_numbers = some (z0, z1, z2, z3, z4, z5, z6, z7, z8, z9, z10, z11, z12, z13, z14, z15, z16, z17, z18)) : Ct l D y yX3_giveBack wsX3_giveBack 3 82 [.ref (a 0), .ref (b 0)] (w_X3_giveBack y a b p_next p_count p_k_shutBits p_k_airs p_k_crownedBits p_k_sitters p_k_onBits p_k_turn p_k_taken p_k_warmth p_k_kind p_k_figure p_k_airCell p_k_way p_k_seat p_k_shawls p_k_count p_k_steps p_k_numbers o_shutBits o_airs o_crownedBits o_sitters o_onBits o_turn o_taken o_warmth o_kind o_figure o_airCell o_way o_seat o_shawls o_count o_steps o_numbers) (w_X3_giveBack y a b z0 z1 p_k_shutBits p_k_airs p_k_crownedBits p_k_sitters p_k_onBits p_k_turn p_k_taken p_k_warmth p_k_kind p_k_figure p_k_airCell p_k_way p_k_seat p_k_shawls p_k_count p_k_steps p_k_numbers z2 z3 z4 z5 z6 z7 z8 z9 z10 z11 z12 z13 z14 z15 z16 z17 z18) none := by
  refine ct_head (cc := cX3_giveBack) (n := 2) (ret := none) (by decide) rfl (Nat.le_of_ble_eq_true rfl) ?_
  intro p e s m below meth c A ls hx hb hr hml hown hlocks hts hA hAe hP hK hD hl
  have hS : va_S A s.heap s.heap [] := va_S.rf
  have hl : lv_has ls 2 [(0, .ref (a 0)), (1, .ref (b 0))] := hl
  have hown : s.vm.findClass RX3 = some m.cls := hown
  have hw1 := hts (.fieldLink RX3 18 "DraughtsTake$Past" "next" "I") (List.mem_of_getElem? (i := 1) rfl)
  have hw2 := hts (.fieldLink RX3 26 "DraughtsTake$Past" "count" "I") (List.mem_of_getElem? (i := 2) rfl)
  have hw3 := hts (.fieldLink RX3 11 "DraughtsTake$Past" "kept" "[LDraughtsTake$House;") (List.mem_of_getElem? (i := 3) rfl)
  have hiX3 : ∀ w ∈ wsX30, w ∈ wsX3_giveBack := fun w h => List.mem_cons_of_mem _ (List.mem_append_left _ (List.mem_append_left _ (List.mem_append_right _ (h))))
  unfold f_X3_giveBack at hf
  refine lv_aload_n hx hb dX3_giveBack_0 rfl (lv_at hl 0 rfl) ?_
  refine lv_aload_n hx hb dX3_giveBack_1 rfl (lv_at hl 0 rfl) ?_
  refine va_get (D := D) (ci := 2) (v := .int p_next) (C := RX3) (T := TX3) (N := 3) hx hb hts hiX3 hown hK hP 0 rfl rfl 1 (by decide) hw1 (fun _ h9 => h9) rfl dX3_giveBack_2 ?_
  refine lv_bipush (v := 8) hx hb dX3_giveBack_5 (by decide) ?_
  refine lv_iadd hx hb dX3_giveBack_7 ?_
  refine lv_iconst (v := 1) hx hb dX3_giveBack_8 (by decide) ?_
  refine lv_isub hx hb dX3_giveBack_9 ?_
  refine lv_bipush (v := 8) hx hb dX3_giveBack_10 (by decide) ?_
  refine lv_irem hx hb dX3_giveBack_12 (by decide) ?_
  refine lv_topi (fun x1 ex1 => ?_)
  have hf := dq_l hf x1 ex1
  clear ex1
  refine va_put (D := D) (ci := 2) (v := .int x1) (ty := .int) (C := RX3) (T := TX3) (N := 3) hx hb hts hiX3 tyX3 tyX3_ok nmX3 hown hK hP hD hS 0 rfl rfl 1 (by decide) hw1 (fun _ h9 => h9) rfl (tyX3_ok 1 (by decide)) rfl rfl (Nat.le_of_ble_eq_true rfl) dX3_giveBack_13 (fun H locs hP hD hS => ?_)
  have hP : va_P D vwCl (w_X3_giveBack y a b x1 p_count p_k_shutBits p_k_airs p_k_crownedBits p_k_sitters p_k_onBits p_k_turn p_k_taken p_k_warmth p_k_kind p_k_figure p_k_airCell p_k_way p_k_seat p_k_shawls p_k_count p_k_steps p_k_numbers o_shutBits o_airs o_crownedBits o_sitters o_onBits o_turn o_taken o_warmth o_kind o_figure o_airCell o_way o_seat o_shawls o_count o_steps o_numbers) H := hP
  have hD : va_D A (w_X3_giveBack y a b x1 p_count p_k_shutBits p_k_airs p_k_crownedBits p_k_sitters p_k_onBits p_k_turn p_k_taken p_k_warmth p_k_kind p_k_figure p_k_airCell p_k_way p_k_seat p_k_shawls p_k_count p_k_steps p_k_numbers o_shutBits o_airs o_crownedBits o_sitters o_onBits o_turn o_taken o_warmth o_kind o_figure o_airCell o_way o_seat o_shawls o_count o_steps o_numbers) := hD
  refine lv_aload_n hx hb dX3_giveBack_16 rfl (lv_at hl 0 rfl) ?_
  refine lv_dup hx hb dX3_giveBack_17 rfl ?_
  refine va_get (D := D) (ci := 2) (v := .int p_count) (C := RX3) (T := TX3) (N := 3) hx hb hts hiX3 hown hK hP 0 rfl rfl 2 (by decide) hw2 (fun _ h9 => h9) rfl dX3_giveBack_18 ?_
  refine lv_iconst (v := 1) hx hb dX3_giveBack_21 (by decide) ?_
  refine lv_isub hx hb dX3_giveBack_22 ?_
  refine lv_topi (fun x2 ex2 => ?_)
  have hf := dq_l hf x2 ex2
  clear ex2
  refine va_put (D := D) (ci := 2) (v := .int x2) (ty := .int) (C := RX3) (T := TX3) (N := 3) hx hb hts hiX3 tyX3 tyX3_ok nmX3 hown hK hP hD hS 0 rfl rfl 2 (by decide) hw2 (fun _ h9 => h9) rfl (tyX3_ok 2 (by decide)) rfl rfl (Nat.le_of_ble_eq_true rfl) dX3_giveBack_23 (fun H locs hP hD hS => ?_)
  have hP : va_P D vwCl (w_X3_giveBack y a b x1 x2 p_k_shutBits p_k_airs p_k_crownedBits p_k_sitters p_k_onBits p_k_turn p_k_taken p_k_warmth p_k_kind p_k_figure p_k_airCell p_k_way p_k_seat p_k_shawls p_k_count p_k_steps p_k_numbers o_shutBits o_airs o_crownedBits o_sitters o_onBits o_turn o_taken o_warmth o_kind o_figure o_airCell o_way o_seat o_shawls o_count o_steps o_numbers) H := hP
  have hD : va_D A (w_X3_giveBack y a b x1 x2 p_k_shutBits p_k_airs p_k_crownedBits p_k_sitters p_k_onBits p_k_turn p_k_taken p_k_warmth p_k_kind p_k_figure p_k_airCell p_k_way p_k_seat p_k_shawls p_k_count p_k_steps p_k_numbers o_shutBits o_airs o_crownedBits o_sitters o_onBits o_turn o_taken o_warmth o_kind o_figure o_airCell o_way o_seat o_shawls o_count o_steps o_numbers) := hD
  refine lv_aload_n hx hb dX3_giveBack_26 rfl (lv_at hl 1 rfl) ?_
  refine lv_aload_n hx hb dX3_giveBack_27 rfl (lv_at hl 0 rfl) ?_
  refine va_get (D := D) (ci := 2) (v := .ref (a 1)) (C := RX3) (T := TX3) (N := 3) hx hb hts hiX3 hown hK hP 0 rfl rfl 0 (by decide) hw3 (fun _ h9 => h9) rfl dX3_giveBack_28 ?_
  refine lv_aload_n hx hb dX3_giveBack_31 rfl (lv_at hl 0 rfl) ?_
  refine va_get (D := D) (ci := 2) (v := .int x1) (C := RX3) (T := TX3) (N := 3) hx hb hts hiX3 hown hK hP 0 rfl rfl 1 (by decide) hw1 (fun _ h9 => h9) rfl dX3_giveBack_32 ?_
  obtain ⟨h3, hf⟩ := dq_g hf
  obtain ⟨j22, hjj22, ej22⟩ := dq_ix h3
  have hjj22 : j22 = 0 ∨ j22 = 1 ∨ j22 = 2 ∨ j22 = 3 ∨ j22 = 4 ∨ j22 = 5 ∨ j22 = 6 ∨ j22 = 7 := by omega
  rcases hjj22 with rfl | rfl | rfl | rfl | rfl | rfl | rfl | rfl
  · try rw [ej22] at hf
    refine dq_aldH (cA := y 3) (n := 8) (b := (a 2)) (f := (fun i => if i < 8 then some (a (2 + 11 * i)) else none)) hx hb hK hP 1 3 rfl rfl h3 (by rw [ej22]; rfl) dX3_giveBack_35 ?_
    obtain ⟨o_shutBits_23, o_airs_24, o_crownedBits_25, o_sitters_26, o_onBits_27, o_turn_28, o_taken_29, o_warmth_30, o_kind_31, o_figure_32, o_airCell_33, o_way_34, o_seat_35, o_shawls_36, o_count_37, o_steps_38, o_numbers_39, hy40, hf⟩ := dq_b17 hf
    refine ct_callV (ci := 1) (q0 := 0) (own := RX3) (As := [.ref (a 2)]) (rest := []) (ws' := (w_X3_giveBack y a b x1 x2 p_k_shutBits p_k_airs p_k_crownedBits p_k_sitters p_k_onBits p_k_turn p_k_taken p_k_warmth p_k_kind p_k_figure p_k_airCell p_k_way p_k_seat p_k_shawls p_k_count p_k_steps p_k_numbers o_shutBits_23 o_airs_24 o_crownedBits_25 o_sitters_26 o_onBits_27 o_turn_28 o_taken_29 o_warmth_30 o_kind_31 o_figure_32 o_airCell_33 o_way_34 o_seat_35 o_shawls_36 o_count_37 o_steps_38 o_numbers_39)) ⟨hx, hb, hml, hown, hts⟩ (m_X2_take l D y b (fun k => a (2 + k)) o_shutBits o_airs o_crownedBits o_sitters o_onBits o_turn o_taken o_warmth o_kind o_figure o_airCell o_way o_seat o_shawls o_count o_steps o_numbers (p_k_shutBits 0) (p_k_airs 0) (p_k_crownedBits 0) (p_k_sitters 0) (p_k_onBits 0) (p_k_turn 0) (p_k_taken 0) (p_k_warmth 0) (p_k_kind 0) (p_k_figure 0) (p_k_airCell 0) (p_k_way 0) (p_k_seat 0) (p_k_shawls 0) (p_k_count 0) (p_k_steps 0) (p_k_numbers 0) o_shutBits_23 o_airs_24 o_crownedBits_25 o_sitters_26 o_onBits_27 o_turn_28 o_taken_29 o_warmth_30 o_kind_31 o_figure_32 o_airCell_33 o_way_34 o_seat_35 o_shawls_36 o_count_37 o_steps_38 o_numbers_39 hy40) (cwV 1 hts gX3_giveBack_X2_take rfl rfl rfl (by decide +kernel) ⟨Nat.le_of_ble_eq_true rfl, Nat.le_of_ble_eq_true rfl⟩) rfl rfl rfl hl.1 rfl (Nat.le_of_ble_eq_true rfl) dX3_giveBack_36 ⟨Nat.zero_le _, Nat.zero_le _⟩ hK hP hD hS hA [90, 91, 92, 93, 94, 95, 96, 97, 98, 99, 100, 2, 3, 4, 5, 6, 7, 8, 9, 10, 11, 12] [0, 1, 13, 14, 15, 16, 17, 18, 19, 20, 21, 22, 23, 24, 25, 26, 27, 28, 29, 30, 31, 32, 33, 34, 35, 36, 37, 38, 39, 40, 41, 42, 43, 44, 45, 46, 47, 48, 49, 50, 51, 52, 53, 54, 55, 56, 57, 58, 59, 60, 61, 62, 63, 64, 65, 66, 67, 68, 69, 70, 71, 72, 73, 74, 75, 76, 77, 78, 79, 80, 81, 82, 83, 84, 85, 86, 87, 88, 89] [0, 1, 90, 91, 92, 93, 94, 95, 96, 97, 98, 99, 100, 2, 3, 4, 5, 6, 7, 8, 9, 10, 11, 12, 13, 14, 15, 16, 17, 18, 19, 20, 21, 22, 23, 24, 25, 26, 27, 28, 29, 30, 31, 32, 33, 34, 35, 36, 37, 38, 39, 40, 41, 42, 43, 44, 45, 46, 47, 48, 49, 50, 51, 52, 53, 54, 55, 56, 57, 58, 59, 60, 61, 62, 63, 64, 65, 66, 67, 68, 69, 70, 71, 72, 73, 74, 75, 76, 77, 78, 79, 80, 81, 82, 83, 84, 85, 86, 87, 88, 89] rfl rfl (by decide) (by decide) (by decide) rfl (by decide) (fun H locs hP hD hS => ?_)
    obtain ⟨rfl, rfl, rfl, rfl, rfl, rfl, rfl, rfl, rfl, rfl, rfl, rfl, rfl, rfl, rfl, rfl, rfl, rfl, rfl⟩ := dq_r19 hf
    exact ct_vret hx hb hr hlocks hAe hP hK hD hS dX3_giveBack_39
  · try rw [ej22] at hf
    refine dq_aldH (cA := y 3) (n := 8) (b := (a 13)) (f := (fun i => if i < 8 then some (a (2 + 11 * i)) else none)) hx hb hK hP 1 3 rfl rfl h3 (by rw [ej22]; rfl) dX3_giveBack_35 ?_
    obtain ⟨o_shutBits_41, o_airs_42, o_crownedBits_43, o_sitters_44, o_onBits_45, o_turn_46, o_taken_47, o_warmth_48, o_kind_49, o_figure_50, o_airCell_51, o_way_52, o_seat_53, o_shawls_54, o_count_55, o_steps_56, o_numbers_57, hy58, hf⟩ := dq_b17 hf
    refine ct_callV (ci := 1) (q0 := 0) (own := RX3) (As := [.ref (a 13)]) (rest := []) (ws' := (w_X3_giveBack y a b x1 x2 p_k_shutBits p_k_airs p_k_crownedBits p_k_sitters p_k_onBits p_k_turn p_k_taken p_k_warmth p_k_kind p_k_figure p_k_airCell p_k_way p_k_seat p_k_shawls p_k_count p_k_steps p_k_numbers o_shutBits_41 o_airs_42 o_crownedBits_43 o_sitters_44 o_onBits_45 o_turn_46 o_taken_47 o_warmth_48 o_kind_49 o_figure_50 o_airCell_51 o_way_52 o_seat_53 o_shawls_54 o_count_55 o_steps_56 o_numbers_57)) ⟨hx, hb, hml, hown, hts⟩ (m_X2_take l D y b (fun k => a (13 + k)) o_shutBits o_airs o_crownedBits o_sitters o_onBits o_turn o_taken o_warmth o_kind o_figure o_airCell o_way o_seat o_shawls o_count o_steps o_numbers (p_k_shutBits 1) (p_k_airs 1) (p_k_crownedBits 1) (p_k_sitters 1) (p_k_onBits 1) (p_k_turn 1) (p_k_taken 1) (p_k_warmth 1) (p_k_kind 1) (p_k_figure 1) (p_k_airCell 1) (p_k_way 1) (p_k_seat 1) (p_k_shawls 1) (p_k_count 1) (p_k_steps 1) (p_k_numbers 1) o_shutBits_41 o_airs_42 o_crownedBits_43 o_sitters_44 o_onBits_45 o_turn_46 o_taken_47 o_warmth_48 o_kind_49 o_figure_50 o_airCell_51 o_way_52 o_seat_53 o_shawls_54 o_count_55 o_steps_56 o_numbers_57 hy58) (cwV 1 hts gX3_giveBack_X2_take rfl rfl rfl (by decide +kernel) ⟨Nat.le_of_ble_eq_true rfl, Nat.le_of_ble_eq_true rfl⟩) rfl rfl rfl hl.1 rfl (Nat.le_of_ble_eq_true rfl) dX3_giveBack_36 ⟨Nat.zero_le _, Nat.zero_le _⟩ hK hP hD hS hA [90, 91, 92, 93, 94, 95, 96, 97, 98, 99, 100, 13, 14, 15, 16, 17, 18, 19, 20, 21, 22, 23] [0, 1, 2, 3, 4, 5, 6, 7, 8, 9, 10, 11, 12, 24, 25, 26, 27, 28, 29, 30, 31, 32, 33, 34, 35, 36, 37, 38, 39, 40, 41, 42, 43, 44, 45, 46, 47, 48, 49, 50, 51, 52, 53, 54, 55, 56, 57, 58, 59, 60, 61, 62, 63, 64, 65, 66, 67, 68, 69, 70, 71, 72, 73, 74, 75, 76, 77, 78, 79, 80, 81, 82, 83, 84, 85, 86, 87, 88, 89] [0, 1, 2, 3, 4, 5, 6, 7, 8, 9, 10, 11, 12, 90, 91, 92, 93, 94, 95, 96, 97, 98, 99, 100, 13, 14, 15, 16, 17, 18, 19, 20, 21, 22, 23, 24, 25, 26, 27, 28, 29, 30, 31, 32, 33, 34, 35, 36, 37, 38, 39, 40, 41, 42, 43, 44, 45, 46, 47, 48, 49, 50, 51, 52, 53, 54, 55, 56, 57, 58, 59, 60, 61, 62, 63, 64, 65, 66, 67, 68, 69, 70, 71, 72, 73, 74, 75, 76, 77, 78, 79, 80, 81, 82, 83, 84, 85, 86, 87, 88, 89] rfl rfl (by decide) (by decide) (by decide) rfl (by decide) (fun H locs hP hD hS => ?_)
    obtain ⟨rfl, rfl, rfl, rfl, rfl, rfl, rfl, rfl, rfl, rfl, rfl, rfl, rfl, rfl, rfl, rfl, rfl, rfl, rfl⟩ := dq_r19 hf
    exact ct_vret hx hb hr hlocks hAe hP hK hD hS dX3_giveBack_39
  · try rw [ej22] at hf
    refine dq_aldH (cA := y 3) (n := 8) (b := (a 24)) (f := (fun i => if i < 8 then some (a (2 + 11 * i)) else none)) hx hb hK hP 1 3 rfl rfl h3 (by rw [ej22]; rfl) dX3_giveBack_35 ?_
    obtain ⟨o_shutBits_59, o_airs_60, o_crownedBits_61, o_sitters_62, o_onBits_63, o_turn_64, o_taken_65, o_warmth_66, o_kind_67, o_figure_68, o_airCell_69, o_way_70, o_seat_71, o_shawls_72, o_count_73, o_steps_74, o_numbers_75, hy76, hf⟩ := dq_b17 hf
    refine ct_callV (ci := 1) (q0 := 0) (own := RX3) (As := [.ref (a 24)]) (rest := []) (ws' := (w_X3_giveBack y a b x1 x2 p_k_shutBits p_k_airs p_k_crownedBits p_k_sitters p_k_onBits p_k_turn p_k_taken p_k_warmth p_k_kind p_k_figure p_k_airCell p_k_way p_k_seat p_k_shawls p_k_count p_k_steps p_k_numbers o_shutBits_59 o_airs_60 o_crownedBits_61 o_sitters_62 o_onBits_63 o_turn_64 o_taken_65 o_warmth_66 o_kind_67 o_figure_68 o_airCell_69 o_way_70 o_seat_71 o_shawls_72 o_count_73 o_steps_74 o_numbers_75)) ⟨hx, hb, hml, hown, hts⟩ (m_X2_take l D y b (fun k => a (24 + k)) o_shutBits o_airs o_crownedBits o_sitters o_onBits o_turn o_taken o_warmth o_kind o_figure o_airCell o_way o_seat o_shawls o_count o_steps o_numbers (p_k_shutBits 2) (p_k_airs 2) (p_k_crownedBits 2) (p_k_sitters 2) (p_k_onBits 2) (p_k_turn 2) (p_k_taken 2) (p_k_warmth 2) (p_k_kind 2) (p_k_figure 2) (p_k_airCell 2) (p_k_way 2) (p_k_seat 2) (p_k_shawls 2) (p_k_count 2) (p_k_steps 2) (p_k_numbers 2) o_shutBits_59 o_airs_60 o_crownedBits_61 o_sitters_62 o_onBits_63 o_turn_64 o_taken_65 o_warmth_66 o_kind_67 o_figure_68 o_airCell_69 o_way_70 o_seat_71 o_shawls_72 o_count_73 o_steps_74 o_numbers_75 hy76) (cwV 1 hts gX3_giveBack_X2_take rfl rfl rfl (by decide +kernel) ⟨Nat.le_of_ble_eq_true rfl, Nat.le_of_ble_eq_true rfl⟩) rfl rfl rfl hl.1 rfl (Nat.le_of_ble_eq_true rfl) dX3_giveBack_36 ⟨Nat.zero_le _, Nat.zero_le _⟩ hK hP hD hS hA [90, 91, 92, 93, 94, 95, 96, 97, 98, 99, 100, 24, 25, 26, 27, 28, 29, 30, 31, 32, 33, 34] [0, 1, 2, 3, 4, 5, 6, 7, 8, 9, 10, 11, 12, 13, 14, 15, 16, 17, 18, 19, 20, 21, 22, 23, 35, 36, 37, 38, 39, 40, 41, 42, 43, 44, 45, 46, 47, 48, 49, 50, 51, 52, 53, 54, 55, 56, 57, 58, 59, 60, 61, 62, 63, 64, 65, 66, 67, 68, 69, 70, 71, 72, 73, 74, 75, 76, 77, 78, 79, 80, 81, 82, 83, 84, 85, 86, 87, 88, 89] [0, 1, 2, 3, 4, 5, 6, 7, 8, 9, 10, 11, 12, 13, 14, 15, 16, 17, 18, 19, 20, 21, 22, 23, 90, 91, 92, 93, 94, 95, 96, 97, 98, 99, 100, 24, 25, 26, 27, 28, 29, 30, 31, 32, 33, 34, 35, 36, 37, 38, 39, 40, 41, 42, 43, 44, 45, 46, 47, 48, 49, 50, 51, 52, 53, 54, 55, 56, 57, 58, 59, 60, 61, 62, 63, 64, 65, 66, 67, 68, 69, 70, 71, 72, 73, 74, 75, 76, 77, 78, 79, 80, 81, 82, 83, 84, 85, 86, 87, 88, 89] rfl rfl (by decide) (by decide) (by decide) rfl (by decide) (fun H locs hP hD hS => ?_)
    obtain ⟨rfl, rfl, rfl, rfl, rfl, rfl, rfl, rfl, rfl, rfl, rfl, rfl, rfl, rfl, rfl, rfl, rfl, rfl, rfl⟩ := dq_r19 hf
    exact ct_vret hx hb hr hlocks hAe hP hK hD hS dX3_giveBack_39
  · try rw [ej22] at hf
    refine dq_aldH (cA := y 3) (n := 8) (b := (a 35)) (f := (fun i => if i < 8 then some (a (2 + 11 * i)) else none)) hx hb hK hP 1 3 rfl rfl h3 (by rw [ej22]; rfl) dX3_giveBack_35 ?_
    obtain ⟨o_shutBits_77, o_airs_78, o_crownedBits_79, o_sitters_80, o_onBits_81, o_turn_82, o_taken_83, o_warmth_84, o_kind_85, o_figure_86, o_airCell_87, o_way_88, o_seat_89, o_shawls_90, o_count_91, o_steps_92, o_numbers_93, hy94, hf⟩ := dq_b17 hf
    refine ct_callV (ci := 1) (q0 := 0) (own := RX3) (As := [.ref (a 35)]) (rest := []) (ws' := (w_X3_giveBack y a b x1 x2 p_k_shutBits p_k_airs p_k_crownedBits p_k_sitters p_k_onBits p_k_turn p_k_taken p_k_warmth p_k_kind p_k_figure p_k_airCell p_k_way p_k_seat p_k_shawls p_k_count p_k_steps p_k_numbers o_shutBits_77 o_airs_78 o_crownedBits_79 o_sitters_80 o_onBits_81 o_turn_82 o_taken_83 o_warmth_84 o_kind_85 o_figure_86 o_airCell_87 o_way_88 o_seat_89 o_shawls_90 o_count_91 o_steps_92 o_numbers_93)) ⟨hx, hb, hml, hown, hts⟩ (m_X2_take l D y b (fun k => a (35 + k)) o_shutBits o_airs o_crownedBits o_sitters o_onBits o_turn o_taken o_warmth o_kind o_figure o_airCell o_way o_seat o_shawls o_count o_steps o_numbers (p_k_shutBits 3) (p_k_airs 3) (p_k_crownedBits 3) (p_k_sitters 3) (p_k_onBits 3) (p_k_turn 3) (p_k_taken 3) (p_k_warmth 3) (p_k_kind 3) (p_k_figure 3) (p_k_airCell 3) (p_k_way 3) (p_k_seat 3) (p_k_shawls 3) (p_k_count 3) (p_k_steps 3) (p_k_numbers 3) o_shutBits_77 o_airs_78 o_crownedBits_79 o_sitters_80 o_onBits_81 o_turn_82 o_taken_83 o_warmth_84 o_kind_85 o_figure_86 o_airCell_87 o_way_88 o_seat_89 o_shawls_90 o_count_91 o_steps_92 o_numbers_93 hy94) (cwV 1 hts gX3_giveBack_X2_take rfl rfl rfl (by decide +kernel) ⟨Nat.le_of_ble_eq_true rfl, Nat.le_of_ble_eq_true rfl⟩) rfl rfl rfl hl.1 rfl (Nat.le_of_ble_eq_true rfl) dX3_giveBack_36 ⟨Nat.zero_le _, Nat.zero_le _⟩ hK hP hD hS hA [90, 91, 92, 93, 94, 95, 96, 97, 98, 99, 100, 35, 36, 37, 38, 39, 40, 41, 42, 43, 44, 45] [0, 1, 2, 3, 4, 5, 6, 7, 8, 9, 10, 11, 12, 13, 14, 15, 16, 17, 18, 19, 20, 21, 22, 23, 24, 25, 26, 27, 28, 29, 30, 31, 32, 33, 34, 46, 47, 48, 49, 50, 51, 52, 53, 54, 55, 56, 57, 58, 59, 60, 61, 62, 63, 64, 65, 66, 67, 68, 69, 70, 71, 72, 73, 74, 75, 76, 77, 78, 79, 80, 81, 82, 83, 84, 85, 86, 87, 88, 89] [0, 1, 2, 3, 4, 5, 6, 7, 8, 9, 10, 11, 12, 13, 14, 15, 16, 17, 18, 19, 20, 21, 22, 23, 24, 25, 26, 27, 28, 29, 30, 31, 32, 33, 34, 90, 91, 92, 93, 94, 95, 96, 97, 98, 99, 100, 35, 36, 37, 38, 39, 40, 41, 42, 43, 44, 45, 46, 47, 48, 49, 50, 51, 52, 53, 54, 55, 56, 57, 58, 59, 60, 61, 62, 63, 64, 65, 66, 67, 68, 69, 70, 71, 72, 73, 74, 75, 76, 77, 78, 79, 80, 81, 82, 83, 84, 85, 86, 87, 88, 89] rfl rfl (by decide) (by decide) (by decide) rfl (by decide) (fun H locs hP hD hS => ?_)
    obtain ⟨rfl, rfl, rfl, rfl, rfl, rfl, rfl, rfl, rfl, rfl, rfl, rfl, rfl, rfl, rfl, rfl, rfl, rfl, rfl⟩ := dq_r19 hf
    exact ct_vret hx hb hr hlocks hAe hP hK hD hS dX3_giveBack_39
  · try rw [ej22] at hf
    refine dq_aldH (cA := y 3) (n := 8) (b := (a 46)) (f := (fun i => if i < 8 then some (a (2 + 11 * i)) else none)) hx hb hK hP 1 3 rfl rfl h3 (by rw [ej22]; rfl) dX3_giveBack_35 ?_
    obtain ⟨o_shutBits_95, o_airs_96, o_crownedBits_97, o_sitters_98, o_onBits_99, o_turn_100, o_taken_101, o_warmth_102, o_kind_103, o_figure_104, o_airCell_105, o_way_106, o_seat_107, o_shawls_108, o_count_109, o_steps_110, o_numbers_111, hy112, hf⟩ := dq_b17 hf
    refine ct_callV (ci := 1) (q0 := 0) (own := RX3) (As := [.ref (a 46)]) (rest := []) (ws' := (w_X3_giveBack y a b x1 x2 p_k_shutBits p_k_airs p_k_crownedBits p_k_sitters p_k_onBits p_k_turn p_k_taken p_k_warmth p_k_kind p_k_figure p_k_airCell p_k_way p_k_seat p_k_shawls p_k_count p_k_steps p_k_numbers o_shutBits_95 o_airs_96 o_crownedBits_97 o_sitters_98 o_onBits_99 o_turn_100 o_taken_101 o_warmth_102 o_kind_103 o_figure_104 o_airCell_105 o_way_106 o_seat_107 o_shawls_108 o_count_109 o_steps_110 o_numbers_111)) ⟨hx, hb, hml, hown, hts⟩ (m_X2_take l D y b (fun k => a (46 + k)) o_shutBits o_airs o_crownedBits o_sitters o_onBits o_turn o_taken o_warmth o_kind o_figure o_airCell o_way o_seat o_shawls o_count o_steps o_numbers (p_k_shutBits 4) (p_k_airs 4) (p_k_crownedBits 4) (p_k_sitters 4) (p_k_onBits 4) (p_k_turn 4) (p_k_taken 4) (p_k_warmth 4) (p_k_kind 4) (p_k_figure 4) (p_k_airCell 4) (p_k_way 4) (p_k_seat 4) (p_k_shawls 4) (p_k_count 4) (p_k_steps 4) (p_k_numbers 4) o_shutBits_95 o_airs_96 o_crownedBits_97 o_sitters_98 o_onBits_99 o_turn_100 o_taken_101 o_warmth_102 o_kind_103 o_figure_104 o_airCell_105 o_way_106 o_seat_107 o_shawls_108 o_count_109 o_steps_110 o_numbers_111 hy112) (cwV 1 hts gX3_giveBack_X2_take rfl rfl rfl (by decide +kernel) ⟨Nat.le_of_ble_eq_true rfl, Nat.le_of_ble_eq_true rfl⟩) rfl rfl rfl hl.1 rfl (Nat.le_of_ble_eq_true rfl) dX3_giveBack_36 ⟨Nat.zero_le _, Nat.zero_le _⟩ hK hP hD hS hA [90, 91, 92, 93, 94, 95, 96, 97, 98, 99, 100, 46, 47, 48, 49, 50, 51, 52, 53, 54, 55, 56] [0, 1, 2, 3, 4, 5, 6, 7, 8, 9, 10, 11, 12, 13, 14, 15, 16, 17, 18, 19, 20, 21, 22, 23, 24, 25, 26, 27, 28, 29, 30, 31, 32, 33, 34, 35, 36, 37, 38, 39, 40, 41, 42, 43, 44, 45, 57, 58, 59, 60, 61, 62, 63, 64, 65, 66, 67, 68, 69, 70, 71, 72, 73, 74, 75, 76, 77, 78, 79, 80, 81, 82, 83, 84, 85, 86, 87, 88, 89] [0, 1, 2, 3, 4, 5, 6, 7, 8, 9, 10, 11, 12, 13, 14, 15, 16, 17, 18, 19, 20, 21, 22, 23, 24, 25, 26, 27, 28, 29, 30, 31, 32, 33, 34, 35, 36, 37, 38, 39, 40, 41, 42, 43, 44, 45, 90, 91, 92, 93, 94, 95, 96, 97, 98, 99, 100, 46, 47, 48, 49, 50, 51, 52, 53, 54, 55, 56, 57, 58, 59, 60, 61, 62, 63, 64, 65, 66, 67, 68, 69, 70, 71, 72, 73, 74, 75, 76, 77, 78, 79, 80, 81, 82, 83, 84, 85, 86, 87, 88, 89] rfl rfl (by decide) (by decide) (by decide) rfl (by decide) (fun H locs hP hD hS => ?_)
    obtain ⟨rfl, rfl, rfl, rfl, rfl, rfl, rfl, rfl, rfl, rfl, rfl, rfl, rfl, rfl, rfl, rfl, rfl, rfl, rfl⟩ := dq_r19 hf
    exact ct_vret hx hb hr hlocks hAe hP hK hD hS dX3_giveBack_39
  · try rw [ej22] at hf
    refine dq_aldH (cA := y 3) (n := 8) (b := (a 57)) (f := (fun i => if i < 8 then some (a (2 + 11 * i)) else none)) hx hb hK hP 1 3 rfl rfl h3 (by rw [ej22]; rfl) dX3_giveBack_35 ?_
    obtain ⟨o_shutBits_113, o_airs_114, o_crownedBits_115, o_sitters_116, o_onBits_117, o_turn_118, o_taken_119, o_warmth_120, o_kind_121, o_figure_122, o_airCell_123, o_way_124, o_seat_125, o_shawls_126, o_count_127, o_steps_128, o_numbers_129, hy130, hf⟩ := dq_b17 hf
    refine ct_callV (ci := 1) (q0 := 0) (own := RX3) (As := [.ref (a 57)]) (rest := []) (ws' := (w_X3_giveBack y a b x1 x2 p_k_shutBits p_k_airs p_k_crownedBits p_k_sitters p_k_onBits p_k_turn p_k_taken p_k_warmth p_k_kind p_k_figure p_k_airCell p_k_way p_k_seat p_k_shawls p_k_count p_k_steps p_k_numbers o_shutBits_113 o_airs_114 o_crownedBits_115 o_sitters_116 o_onBits_117 o_turn_118 o_taken_119 o_warmth_120 o_kind_121 o_figure_122 o_airCell_123 o_way_124 o_seat_125 o_shawls_126 o_count_127 o_steps_128 o_numbers_129)) ⟨hx, hb, hml, hown, hts⟩ (m_X2_take l D y b (fun k => a (57 + k)) o_shutBits o_airs o_crownedBits o_sitters o_onBits o_turn o_taken o_warmth o_kind o_figure o_airCell o_way o_seat o_shawls o_count o_steps o_numbers (p_k_shutBits 5) (p_k_airs 5) (p_k_crownedBits 5) (p_k_sitters 5) (p_k_onBits 5) (p_k_turn 5) (p_k_taken 5) (p_k_warmth 5) (p_k_kind 5) (p_k_figure 5) (p_k_airCell 5) (p_k_way 5) (p_k_seat 5) (p_k_shawls 5) (p_k_count 5) (p_k_steps 5) (p_k_numbers 5) o_shutBits_113 o_airs_114 o_crownedBits_115 o_sitters_116 o_onBits_117 o_turn_118 o_taken_119 o_warmth_120 o_kind_121 o_figure_122 o_airCell_123 o_way_124 o_seat_125 o_shawls_126 o_count_127 o_steps_128 o_numbers_129 hy130) (cwV 1 hts gX3_giveBack_X2_take rfl rfl rfl (by decide +kernel) ⟨Nat.le_of_ble_eq_true rfl, Nat.le_of_ble_eq_true rfl⟩) rfl rfl rfl hl.1 rfl (Nat.le_of_ble_eq_true rfl) dX3_giveBack_36 ⟨Nat.zero_le _, Nat.zero_le _⟩ hK hP hD hS hA [90, 91, 92, 93, 94, 95, 96, 97, 98, 99, 100, 57, 58, 59, 60, 61, 62, 63, 64, 65, 66, 67] [0, 1, 2, 3, 4, 5, 6, 7, 8, 9, 10, 11, 12, 13, 14, 15, 16, 17, 18, 19, 20, 21, 22, 23, 24, 25, 26, 27, 28, 29, 30, 31, 32, 33, 34, 35, 36, 37, 38, 39, 40, 41, 42, 43, 44, 45, 46, 47, 48, 49, 50, 51, 52, 53, 54, 55, 56, 68, 69, 70, 71, 72, 73, 74, 75, 76, 77, 78, 79, 80, 81, 82, 83, 84, 85, 86, 87, 88, 89] [0, 1, 2, 3, 4, 5, 6, 7, 8, 9, 10, 11, 12, 13, 14, 15, 16, 17, 18, 19, 20, 21, 22, 23, 24, 25, 26, 27, 28, 29, 30, 31, 32, 33, 34, 35, 36, 37, 38, 39, 40, 41, 42, 43, 44, 45, 46, 47, 48, 49, 50, 51, 52, 53, 54, 55, 56, 90, 91, 92, 93, 94, 95, 96, 97, 98, 99, 100, 57, 58, 59, 60, 61, 62, 63, 64, 65, 66, 67, 68, 69, 70, 71, 72, 73, 74, 75, 76, 77, 78, 79, 80, 81, 82, 83, 84, 85, 86, 87, 88, 89] rfl rfl (by decide) (by decide) (by decide) rfl (by decide) (fun H locs hP hD hS => ?_)
    obtain ⟨rfl, rfl, rfl, rfl, rfl, rfl, rfl, rfl, rfl, rfl, rfl, rfl, rfl, rfl, rfl, rfl, rfl, rfl, rfl⟩ := dq_r19 hf
    exact ct_vret hx hb hr hlocks hAe hP hK hD hS dX3_giveBack_39
  · try rw [ej22] at hf
    refine dq_aldH (cA := y 3) (n := 8) (b := (a 68)) (f := (fun i => if i < 8 then some (a (2 + 11 * i)) else none)) hx hb hK hP 1 3 rfl rfl h3 (by rw [ej22]; rfl) dX3_giveBack_35 ?_
    obtain ⟨o_shutBits_131, o_airs_132, o_crownedBits_133, o_sitters_134, o_onBits_135, o_turn_136, o_taken_137, o_warmth_138, o_kind_139, o_figure_140, o_airCell_141, o_way_142, o_seat_143, o_shawls_144, o_count_145, o_steps_146, o_numbers_147, hy148, hf⟩ := dq_b17 hf
    refine ct_callV (ci := 1) (q0 := 0) (own := RX3) (As := [.ref (a 68)]) (rest := []) (ws' := (w_X3_giveBack y a b x1 x2 p_k_shutBits p_k_airs p_k_crownedBits p_k_sitters p_k_onBits p_k_turn p_k_taken p_k_warmth p_k_kind p_k_figure p_k_airCell p_k_way p_k_seat p_k_shawls p_k_count p_k_steps p_k_numbers o_shutBits_131 o_airs_132 o_crownedBits_133 o_sitters_134 o_onBits_135 o_turn_136 o_taken_137 o_warmth_138 o_kind_139 o_figure_140 o_airCell_141 o_way_142 o_seat_143 o_shawls_144 o_count_145 o_steps_146 o_numbers_147)) ⟨hx, hb, hml, hown, hts⟩ (m_X2_take l D y b (fun k => a (68 + k)) o_shutBits o_airs o_crownedBits o_sitters o_onBits o_turn o_taken o_warmth o_kind o_figure o_airCell o_way o_seat o_shawls o_count o_steps o_numbers (p_k_shutBits 6) (p_k_airs 6) (p_k_crownedBits 6) (p_k_sitters 6) (p_k_onBits 6) (p_k_turn 6) (p_k_taken 6) (p_k_warmth 6) (p_k_kind 6) (p_k_figure 6) (p_k_airCell 6) (p_k_way 6) (p_k_seat 6) (p_k_shawls 6) (p_k_count 6) (p_k_steps 6) (p_k_numbers 6) o_shutBits_131 o_airs_132 o_crownedBits_133 o_sitters_134 o_onBits_135 o_turn_136 o_taken_137 o_warmth_138 o_kind_139 o_figure_140 o_airCell_141 o_way_142 o_seat_143 o_shawls_144 o_count_145 o_steps_146 o_numbers_147 hy148) (cwV 1 hts gX3_giveBack_X2_take rfl rfl rfl (by decide +kernel) ⟨Nat.le_of_ble_eq_true rfl, Nat.le_of_ble_eq_true rfl⟩) rfl rfl rfl hl.1 rfl (Nat.le_of_ble_eq_true rfl) dX3_giveBack_36 ⟨Nat.zero_le _, Nat.zero_le _⟩ hK hP hD hS hA [90, 91, 92, 93, 94, 95, 96, 97, 98, 99, 100, 68, 69, 70, 71, 72, 73, 74, 75, 76, 77, 78] [0, 1, 2, 3, 4, 5, 6, 7, 8, 9, 10, 11, 12, 13, 14, 15, 16, 17, 18, 19, 20, 21, 22, 23, 24, 25, 26, 27, 28, 29, 30, 31, 32, 33, 34, 35, 36, 37, 38, 39, 40, 41, 42, 43, 44, 45, 46, 47, 48, 49, 50, 51, 52, 53, 54, 55, 56, 57, 58, 59, 60, 61, 62, 63, 64, 65, 66, 67, 79, 80, 81, 82, 83, 84, 85, 86, 87, 88, 89] [0, 1, 2, 3, 4, 5, 6, 7, 8, 9, 10, 11, 12, 13, 14, 15, 16, 17, 18, 19, 20, 21, 22, 23, 24, 25, 26, 27, 28, 29, 30, 31, 32, 33, 34, 35, 36, 37, 38, 39, 40, 41, 42, 43, 44, 45, 46, 47, 48, 49, 50, 51, 52, 53, 54, 55, 56, 57, 58, 59, 60, 61, 62, 63, 64, 65, 66, 67, 90, 91, 92, 93, 94, 95, 96, 97, 98, 99, 100, 68, 69, 70, 71, 72, 73, 74, 75, 76, 77, 78, 79, 80, 81, 82, 83, 84, 85, 86, 87, 88, 89] rfl rfl (by decide) (by decide) (by decide) rfl (by decide) (fun H locs hP hD hS => ?_)
    obtain ⟨rfl, rfl, rfl, rfl, rfl, rfl, rfl, rfl, rfl, rfl, rfl, rfl, rfl, rfl, rfl, rfl, rfl, rfl, rfl⟩ := dq_r19 hf
    exact ct_vret hx hb hr hlocks hAe hP hK hD hS dX3_giveBack_39
  · try rw [ej22] at hf
    refine dq_aldH (cA := y 3) (n := 8) (b := (a 79)) (f := (fun i => if i < 8 then some (a (2 + 11 * i)) else none)) hx hb hK hP 1 3 rfl rfl h3 (by rw [ej22]; rfl) dX3_giveBack_35 ?_
    obtain ⟨o_shutBits_149, o_airs_150, o_crownedBits_151, o_sitters_152, o_onBits_153, o_turn_154, o_taken_155, o_warmth_156, o_kind_157, o_figure_158, o_airCell_159, o_way_160, o_seat_161, o_shawls_162, o_count_163, o_steps_164, o_numbers_165, hy166, hf⟩ := dq_b17 hf
    refine ct_callV (ci := 1) (q0 := 0) (own := RX3) (As := [.ref (a 79)]) (rest := []) (ws' := (w_X3_giveBack y a b x1 x2 p_k_shutBits p_k_airs p_k_crownedBits p_k_sitters p_k_onBits p_k_turn p_k_taken p_k_warmth p_k_kind p_k_figure p_k_airCell p_k_way p_k_seat p_k_shawls p_k_count p_k_steps p_k_numbers o_shutBits_149 o_airs_150 o_crownedBits_151 o_sitters_152 o_onBits_153 o_turn_154 o_taken_155 o_warmth_156 o_kind_157 o_figure_158 o_airCell_159 o_way_160 o_seat_161 o_shawls_162 o_count_163 o_steps_164 o_numbers_165)) ⟨hx, hb, hml, hown, hts⟩ (m_X2_take l D y b (fun k => a (79 + k)) o_shutBits o_airs o_crownedBits o_sitters o_onBits o_turn o_taken o_warmth o_kind o_figure o_airCell o_way o_seat o_shawls o_count o_steps o_numbers (p_k_shutBits 7) (p_k_airs 7) (p_k_crownedBits 7) (p_k_sitters 7) (p_k_onBits 7) (p_k_turn 7) (p_k_taken 7) (p_k_warmth 7) (p_k_kind 7) (p_k_figure 7) (p_k_airCell 7) (p_k_way 7) (p_k_seat 7) (p_k_shawls 7) (p_k_count 7) (p_k_steps 7) (p_k_numbers 7) o_shutBits_149 o_airs_150 o_crownedBits_151 o_sitters_152 o_onBits_153 o_turn_154 o_taken_155 o_warmth_156 o_kind_157 o_figure_158 o_airCell_159 o_way_160 o_seat_161 o_shawls_162 o_count_163 o_steps_164 o_numbers_165 hy166) (cwV 1 hts gX3_giveBack_X2_take rfl rfl rfl (by decide +kernel) ⟨Nat.le_of_ble_eq_true rfl, Nat.le_of_ble_eq_true rfl⟩) rfl rfl rfl hl.1 rfl (Nat.le_of_ble_eq_true rfl) dX3_giveBack_36 ⟨Nat.zero_le _, Nat.zero_le _⟩ hK hP hD hS hA [90, 91, 92, 93, 94, 95, 96, 97, 98, 99, 100, 79, 80, 81, 82, 83, 84, 85, 86, 87, 88, 89] [0, 1, 2, 3, 4, 5, 6, 7, 8, 9, 10, 11, 12, 13, 14, 15, 16, 17, 18, 19, 20, 21, 22, 23, 24, 25, 26, 27, 28, 29, 30, 31, 32, 33, 34, 35, 36, 37, 38, 39, 40, 41, 42, 43, 44, 45, 46, 47, 48, 49, 50, 51, 52, 53, 54, 55, 56, 57, 58, 59, 60, 61, 62, 63, 64, 65, 66, 67, 68, 69, 70, 71, 72, 73, 74, 75, 76, 77, 78] [0, 1, 2, 3, 4, 5, 6, 7, 8, 9, 10, 11, 12, 13, 14, 15, 16, 17, 18, 19, 20, 21, 22, 23, 24, 25, 26, 27, 28, 29, 30, 31, 32, 33, 34, 35, 36, 37, 38, 39, 40, 41, 42, 43, 44, 45, 46, 47, 48, 49, 50, 51, 52, 53, 54, 55, 56, 57, 58, 59, 60, 61, 62, 63, 64, 65, 66, 67, 68, 69, 70, 71, 72, 73, 74, 75, 76, 77, 78, 90, 91, 92, 93, 94, 95, 96, 97, 98, 99, 100, 79, 80, 81, 82, 83, 84, 85, 86, 87, 88, 89] rfl rfl (by decide) (by decide) (by decide) rfl (by decide) (fun H locs hP hD hS => ?_)
    obtain ⟨rfl, rfl, rfl, rfl, rfl, rfl, rfl, rfl, rfl, rfl, rfl, rfl, rfl, rfl, rfl, rfl, rfl, rfl, rfl⟩ := dq_r19 hf
    exact ct_vret hx hb hr hlocks hAe hP hK hD hS dX3_giveBack_39
def w_X3_forget (y : Nat → ClassId) (a : Nat → Nat) (p_next : Int32) (p_count : Int32) : va_W := [((a 0), .inr (2, [.ref (a 1), .int p_next, .int p_count]))]
noncomputable def f_X3_forget  : Option Int32 := some (0 : Int32)
-- DraughtsTake$Past.forget()V
set_option maxHeartbeats 4000000 in
set_option maxRecDepth 100000 in
theorem m_X3_forget (l : Launch) (D : va_G) (y : Nat → ClassId) (a : (Nat → Nat)) (p_next : Int32) (p_count : Int32) (z0 : Int32) (hf : f_X3_forget = some z0) : Ct l D y yX3_forget wsX3_forget 0 0 [.ref (a 0)] (w_X3_forget y a p_next p_count) (w_X3_forget y a p_next z0) none := by
  refine ct_head (cc := cX3_forget) (n := 1) (ret := none) (by decide) rfl (Nat.le_of_ble_eq_true rfl) ?_
  intro p e s m below meth c A ls hx hb hr hml hown hlocks hts hA hAe hP hK hD hl
  have hS : va_S A s.heap s.heap [] := va_S.rf
  have hl : lv_has ls 1 [(0, .ref (a 0))] := hl
  have hown : s.vm.findClass RX3 = some m.cls := hown
  have hw1 := hts (.fieldLink RX3 26 "DraughtsTake$Past" "count" "I") (List.mem_of_getElem? (i := 1) rfl)
  have hiX3 : ∀ w ∈ wsX30, w ∈ wsX3_forget := fun w h => List.mem_cons_of_mem _ (List.mem_append_right _ (h))
  unfold f_X3_forget at hf
  refine lv_aload_n hx hb dX3_forget_0 rfl (lv_at hl 0 rfl) ?_
  refine lv_iconst (v := 0) hx hb dX3_forget_1 (by decide) ?_
  refine va_put (D := D) (ci := 2) (v := .int (0 : Int32)) (ty := .int) (C := RX3) (T := TX3) (N := 3) hx hb hts hiX3 tyX3 tyX3_ok nmX3 hown hK hP hD hS 0 rfl rfl 2 (by decide) hw1 (fun _ h9 => h9) rfl (tyX3_ok 2 (by decide)) rfl rfl (Nat.le_of_ble_eq_true rfl) dX3_forget_2 (fun H locs hP hD hS => ?_)
  have hP : va_P D vwCl (w_X3_forget y a p_next (0 : Int32)) H := hP
  have hD : va_D A (w_X3_forget y a p_next (0 : Int32)) := hD
  obtain rfl := dq_r1 hf
  exact ct_vret hx hb hr hlocks hAe hP hK hD hS dX3_forget_5
def w_X4 (y : Nat → ClassId) (a : Nat → Nat) (c_sorts : (Nat → Int32)) (c_sizes : (Nat → Int32)) (c_places : (Nat → Nat → Int32)) (c_carried : (Nat → Int32)) : va_W := [((a 0), .inr (3, [.ref (a 1), .ref (a 2), .ref (a 3), .ref (a 7)])), ((a 1), .inl (y 1, 3, .inl c_sorts)), ((a 2), .inl (y 1, 3, .inl c_sizes)), ((a 3), .inl (y 4, 3, .inr (.inr (.inr (.inr (fun i => if i < 3 then some (a (4 + i)) else none)))))), ((a 4), .inl (y 1, 12, .inl (c_places 0))), ((a 5), .inl (y 1, 12, .inl (c_places 1))), ((a 6), .inl (y 1, 12, .inl (c_places 2))), ((a 7), .inl (y 1, 12, .inl c_carried))]
noncomputable def f_X4_holdRow_b17 (n0 : Int32) (c_sorts_2 : (Nat → Int32)) (c_sizes_4 : (Nat → Int32))  : Nat → Int32 → (Nat → Nat → Int32) → Option ((Nat → Int32) × (Nat → Int32) × (Nat → Nat → Int32))
  | 0, _, _ => none
  | m17 + 1, x5, c_places_6 => dq_if ((12 : Int32) ≤ x5) (some (c_sorts_2, c_sizes_4, c_places_6)) (dq_gd (vp_in n0 3) (dq_gd (vp_in x5 12) (dq_let (upd (c_places_6 n0.toNatClampNeg) x5.toNatClampNeg (0 : Int32)) (fun (c_places_10 : (Nat → Int32)) => dq_let (x5 + (1 : Int32)) (fun (x11 : Int32) => (f_X4_holdRow_b17 n0 c_sorts_2 c_sizes_4 m17) x11 (va_up c_places_6 n0.toNatClampNeg c_places_10))))))
noncomputable def f_X4_holdRow (c_sorts : (Nat → Int32)) (c_sizes : (Nat → Int32)) (c_places : (Nat → Nat → Int32)) (n0 : Int32) (n1 : Int32) (n2 : Int32) : Option ((Nat → Int32) × (Nat → Int32) × (Nat → Nat → Int32)) := dq_gd (vp_in n0 3) (dq_let (upd c_sorts n0.toNatClampNeg n1) (fun (c_sorts_2 : (Nat → Int32)) => dq_gd (vp_in n0 3) (dq_let (upd c_sizes n0.toNatClampNeg n2) (fun (c_sizes_4 : (Nat → Int32)) => f_X4_holdRow_b17 n0 c_sorts_2 c_sizes_4 4096 (0 : Int32) c_places))))
-- DraughtsTake$Pegs.holdRow(III)V
set_option maxHeartbeats 4000000 in
set_option maxRecDepth 100000 in
theorem m_X4_holdRow (l : Launch) (D : va_G) (y : Nat → ClassId) (a : (Nat → Nat)) (c_sorts : (Nat → Int32)) (c_sizes : (Nat → Int32)) (c_places : (Nat → Nat → Int32)) (c_carried : (Nat → Int32)) (n0 : Int32) (n1 : Int32) (n2 : Int32) (z0 : (Nat → Int32)) (z1 : (Nat → Int32)) (z2 : (Nat → Nat → Int32)) (hf : f_X4_holdRow c_sorts c_sizes c_places n0 n1 n2 = some (z0, z1, z2)) : Ct l D y yX4_holdRow wsX4_holdRow 0 0 [.ref (a 0), .int n0, .int n1, .int n2] (w_X4 y a c_sorts c_sizes c_places c_carried) (w_X4 y a z0 z1 z2 c_carried) none := by
  refine ct_head (cc := cX4_holdRow) (n := 5) (ret := none) (by decide) rfl (Nat.le_of_ble_eq_true rfl) ?_
  intro p e s m below meth c A ls hx hb hr hml hown hlocks hts hA hAe hP hK hD hl
  have hS : va_S A s.heap s.heap [] := va_S.rf
  have hl : lv_has ls 5 [(0, .ref (a 0)), (1, .int n0), (2, .int n1), (3, .int n2)] := hl
  have hown : s.vm.findClass RX4 = some m.cls := hown
  have hw1 := hts (.fieldLink RX4 9 "DraughtsTake$Pegs" "sorts" "[I") (List.mem_of_getElem? (i := 1) rfl)
  have hw2 := hts (.fieldLink RX4 15 "DraughtsTake$Pegs" "sizes" "[I") (List.mem_of_getElem? (i := 2) rfl)
  have hw3 := hts (.fieldLink RX4 20 "DraughtsTake$Pegs" "places" "[[I") (List.mem_of_getElem? (i := 3) rfl)
  have hiX4 : ∀ w ∈ wsX40, w ∈ wsX4_holdRow := fun w h => List.mem_cons_of_mem _ (List.mem_append_right _ (h))
  unfold f_X4_holdRow at hf
  refine lv_aload_n hx hb dX4_holdRow_0 rfl (lv_at hl 0 rfl) ?_
  refine va_get (D := D) (ci := 3) (v := .ref (a 1)) (C := RX4) (T := TX4) (N := 4) hx hb hts hiX4 hown hK hP 0 rfl rfl 0 (by decide) hw1 (fun _ h9 => h9) rfl dX4_holdRow_1 ?_
  refine lv_iload_n hx hb dX4_holdRow_4 rfl (lv_at hl 1 rfl) ?_
  refine lv_iload_n hx hb dX4_holdRow_5 rfl (lv_at hl 2 rfl) ?_
  obtain ⟨h1, hf⟩ := dq_g hf
  refine dq_iast (cA := y 1) (n := 3) (f := c_sorts) hx hb hK hP hD hS 1 1 rfl rfl h1 dX4_holdRow_6 (fun c_sorts_2 ec_sorts_2 H locs hP hD hS => ?_)
  have hf := dq_l hf c_sorts_2 ec_sorts_2
  clear ec_sorts_2
  have hP : va_P D vwCl (w_X4 y a c_sorts_2 c_sizes c_places c_carried) H := hP
  have hD : va_D A (w_X4 y a c_sorts_2 c_sizes c_places c_carried) := hD
  refine lv_aload_n hx hb dX4_holdRow_7 rfl (lv_at hl 0 rfl) ?_
  refine va_get (D := D) (ci := 3) (v := .ref (a 2)) (C := RX4) (T := TX4) (N := 4) hx hb hts hiX4 hown hK hP 0 rfl rfl 1 (by decide) hw2 (fun _ h9 => h9) rfl dX4_holdRow_8 ?_
  refine lv_iload_n hx hb dX4_holdRow_11 rfl (lv_at hl 1 rfl) ?_
  refine lv_iload_n hx hb dX4_holdRow_12 rfl (lv_at hl 3 rfl) ?_
  obtain ⟨h3, hf⟩ := dq_g hf
  refine dq_iast (cA := y 1) (n := 3) (f := c_sizes) hx hb hK hP hD hS 2 1 rfl rfl h3 dX4_holdRow_13 (fun c_sizes_4 ec_sizes_4 H locs hP hD hS => ?_)
  have hf := dq_l hf c_sizes_4 ec_sizes_4
  clear ec_sizes_4
  have hP : va_P D vwCl (w_X4 y a c_sorts_2 c_sizes_4 c_places c_carried) H := hP
  have hD : va_D A (w_X4 y a c_sorts_2 c_sizes_4 c_places c_carried) := hD
  refine lv_iconst (v := 0) hx hb dX4_holdRow_14 (by decide) ?_
  refine lv_istore (lv' := [(4, .int (0 : Int32)), (0, .ref (a 0)), (1, .int n0), (2, .int n1), (3, .int n2)]) hx hb dX4_holdRow_15 hl (by decide) rfl (fun ls hl => ?_)
  have J17 : ∀ (m17 : Nat) (x5 : Int32) (c_places_6 : (Nat → Nat → Int32)), f_X4_holdRow_b17 n0 c_sorts_2 c_sizes_4 m17 x5 c_places_6 = some (z0, z1, z2) → ∀ (H : Heap) (locs : List Loc), va_P D vwCl (w_X4 y a c_sorts_2 c_sizes_4 c_places_6 c_carried) H → va_D A (w_X4 y a c_sorts_2 c_sizes_4 c_places_6 c_carried) → va_S A s.heap H locs → ∀ ls : Array Slot, lv_has ls 5 [(0, .ref (a 0)), (1, .int n0), (4, .int x5)] → W p l e ({ frames := 0, cells := 0, slots := 0, locals := 0 } : Room) s m [.ref (a 0), .int n0, .int n1, .int n2].toArray below meth c H locs 0 0 (MQ below (dQ D y none s.heap.size (w_X4 y a c_sorts c_sizes c_places c_carried) (w_X4 y a z0 z1 z2 c_carried)) [.ref (a 0), .int n0, .int n1, .int n2].toArray s 0 0 A) (F0 m 17 ls []) := by
    intro m17
    induction m17 with
    | zero => intro x5 c_places_6 hf; exact absurd hf (by unfold f_X4_holdRow_b17; exact fun h => by cases h)
    | succ m17 I17 =>
      intro x5 c_places_6 hf H locs hP hD hS ls hl
      unfold f_X4_holdRow_b17 at hf
      refine lv_iload hx hb dX4_holdRow_17 (lv_at hl 2 rfl) ?_
      refine lv_bipush (v := 12) hx hb dX4_holdRow_19 (by decide) ?_
      refine lv_icmp_ge (tgt := 40) hx hb dX4_holdRow_21 (by decide) (fun c7 => ?_) (fun c7 => ?_)
      · have hf := dq_t hf c7
        clear c7
        obtain ⟨rfl, rfl, rfl⟩ := dq_r3 hf
        exact ct_vret hx hb hr hlocks hAe hP hK hD hS dX4_holdRow_40
      · have hf := dq_f hf c7
        clear c7
        refine lv_aload_n hx hb dX4_holdRow_24 rfl (lv_at hl 0 rfl) ?_
        refine va_get (D := D) (ci := 3) (v := .ref (a 3)) (C := RX4) (T := TX4) (N := 4) hx hb hts hiX4 hown hK hP 0 rfl rfl 2 (by decide) hw3 (fun _ h9 => h9) rfl dX4_holdRow_25 ?_
        refine lv_iload_n hx hb dX4_holdRow_28 rfl (lv_at hl 1 rfl) ?_
        obtain ⟨h8, hf⟩ := dq_g hf
        obtain ⟨j12, hjj12, ej12⟩ := dq_ix h8
        have hjj12 : j12 = 0 ∨ j12 = 1 ∨ j12 = 2 := by omega
        rcases hjj12 with rfl | rfl | rfl
        · try rw [ej12] at hf
          refine dq_aldI (cA := y 4) (n := 3) (b := (a 4)) (f := (fun i => if i < 3 then some (a (4 + i)) else none)) hx hb hK hP 3 4 rfl rfl h8 (by rw [ej12]; rfl) dX4_holdRow_29 ?_
          refine lv_iload hx hb dX4_holdRow_30 (lv_at hl 2 rfl) ?_
          refine lv_iconst (v := 0) hx hb dX4_holdRow_32 (by decide) ?_
          obtain ⟨h13, hf⟩ := dq_g hf
          refine dq_iast (cA := y 1) (n := 12) (f := (c_places_6 0)) hx hb hK hP hD hS 4 1 rfl rfl h13 dX4_holdRow_33 (fun c_places_14 ec_places_14 H locs hP hD hS => ?_)
          have hf := dq_l hf c_places_14 ec_places_14
          clear ec_places_14
          have hP : va_P D vwCl (w_X4 y a c_sorts_2 c_sizes_4 (va_up c_places_6 0 c_places_14) c_carried) H := hP
          have hD : va_D A (w_X4 y a c_sorts_2 c_sizes_4 (va_up c_places_6 0 c_places_14) c_carried) := hD
          obtain ⟨x15, ex15⟩ : ∃ z : Int32, z = (x5 + (1 : Int32)) := ⟨_, rfl⟩
          have hf := dq_l hf x15 ex15
          refine lv_iinc (v := x15) (lv' := [(4, .int x15), (0, .ref (a 0)), (1, .int n0)]) hx hb dX4_holdRow_34 hl (k := 2) rfl (by rw [ex15]; rfl) (by decide) rfl (fun ls hl => ?_)
          clear ex15
          refine lv_goto (tgt := 17) hx hb dX4_holdRow_37 (by decide) ?_
          exact I17 _ _ hf _ _ hP hD hS _ (lv_sub hl [1, 2, 0] rfl)
        · try rw [ej12] at hf
          refine dq_aldI (cA := y 4) (n := 3) (b := (a 5)) (f := (fun i => if i < 3 then some (a (4 + i)) else none)) hx hb hK hP 3 4 rfl rfl h8 (by rw [ej12]; rfl) dX4_holdRow_29 ?_
          refine lv_iload hx hb dX4_holdRow_30 (lv_at hl 2 rfl) ?_
          refine lv_iconst (v := 0) hx hb dX4_holdRow_32 (by decide) ?_
          obtain ⟨h16, hf⟩ := dq_g hf
          refine dq_iast (cA := y 1) (n := 12) (f := (c_places_6 1)) hx hb hK hP hD hS 5 1 rfl rfl h16 dX4_holdRow_33 (fun c_places_17 ec_places_17 H locs hP hD hS => ?_)
          have hf := dq_l hf c_places_17 ec_places_17
          clear ec_places_17
          have hP : va_P D vwCl (w_X4 y a c_sorts_2 c_sizes_4 (va_up c_places_6 1 c_places_17) c_carried) H := hP
          have hD : va_D A (w_X4 y a c_sorts_2 c_sizes_4 (va_up c_places_6 1 c_places_17) c_carried) := hD
          obtain ⟨x18, ex18⟩ : ∃ z : Int32, z = (x5 + (1 : Int32)) := ⟨_, rfl⟩
          have hf := dq_l hf x18 ex18
          refine lv_iinc (v := x18) (lv' := [(4, .int x18), (0, .ref (a 0)), (1, .int n0)]) hx hb dX4_holdRow_34 hl (k := 2) rfl (by rw [ex18]; rfl) (by decide) rfl (fun ls hl => ?_)
          clear ex18
          refine lv_goto (tgt := 17) hx hb dX4_holdRow_37 (by decide) ?_
          exact I17 _ _ hf _ _ hP hD hS _ (lv_sub hl [1, 2, 0] rfl)
        · try rw [ej12] at hf
          refine dq_aldI (cA := y 4) (n := 3) (b := (a 6)) (f := (fun i => if i < 3 then some (a (4 + i)) else none)) hx hb hK hP 3 4 rfl rfl h8 (by rw [ej12]; rfl) dX4_holdRow_29 ?_
          refine lv_iload hx hb dX4_holdRow_30 (lv_at hl 2 rfl) ?_
          refine lv_iconst (v := 0) hx hb dX4_holdRow_32 (by decide) ?_
          obtain ⟨h19, hf⟩ := dq_g hf
          refine dq_iast (cA := y 1) (n := 12) (f := (c_places_6 2)) hx hb hK hP hD hS 6 1 rfl rfl h19 dX4_holdRow_33 (fun c_places_20 ec_places_20 H locs hP hD hS => ?_)
          have hf := dq_l hf c_places_20 ec_places_20
          clear ec_places_20
          have hP : va_P D vwCl (w_X4 y a c_sorts_2 c_sizes_4 (va_up c_places_6 2 c_places_20) c_carried) H := hP
          have hD : va_D A (w_X4 y a c_sorts_2 c_sizes_4 (va_up c_places_6 2 c_places_20) c_carried) := hD
          obtain ⟨x21, ex21⟩ : ∃ z : Int32, z = (x5 + (1 : Int32)) := ⟨_, rfl⟩
          have hf := dq_l hf x21 ex21
          refine lv_iinc (v := x21) (lv' := [(4, .int x21), (0, .ref (a 0)), (1, .int n0)]) hx hb dX4_holdRow_34 hl (k := 2) rfl (by rw [ex21]; rfl) (by decide) rfl (fun ls hl => ?_)
          clear ex21
          refine lv_goto (tgt := 17) hx hb dX4_holdRow_37 (by decide) ?_
          exact I17 _ _ hf _ _ hP hD hS _ (lv_sub hl [1, 2, 0] rfl)
  exact J17 4096 _ _ hf _ _ hP hD hS _ (lv_sub hl [1, 2, 0] rfl)
noncomputable def f_X4_holdsRow (c_sizes : (Nat → Int32)) (n0 : Int32) : Option Int32 := dq_gd (vp_in n0 3) (dq_if ((c_sizes n0.toNatClampNeg) < 0) (some (0 : Int32)) (some (1 : Int32)))
-- DraughtsTake$Pegs.holdsRow(I)Z
set_option maxHeartbeats 4000000 in
set_option maxRecDepth 100000 in
theorem m_X4_holdsRow (l : Launch) (D : va_G) (y : Nat → ClassId) (a : (Nat → Nat)) (c_sorts : (Nat → Int32)) (c_sizes : (Nat → Int32)) (c_places : (Nat → Nat → Int32)) (c_carried : (Nat → Int32)) (n0 : Int32) (z0 : Int32) (hf : f_X4_holdsRow c_sizes n0 = some z0) : Ct l D y yX4_holdsRow wsX4_holdsRow 0 0 [.ref (a 0), .int n0] (w_X4 y a c_sorts c_sizes c_places c_carried) (w_X4 y a c_sorts c_sizes c_places c_carried) (some (.int z0)) := by
  refine ct_head (cc := cX4_holdsRow) (n := 2) (ret := (some .boolean)) (by decide) rfl (Nat.le_of_ble_eq_true rfl) ?_
  intro p e s m below meth c A ls hx hb hr hml hown hlocks hts hA hAe hP hK hD hl
  have hS : va_S A s.heap s.heap [] := va_S.rf
  have hl : lv_has ls 2 [(0, .ref (a 0)), (1, .int n0)] := hl
  have hown : s.vm.findClass RX4 = some m.cls := hown
  have hw1 := hts (.fieldLink RX4 15 "DraughtsTake$Pegs" "sizes" "[I") (List.mem_of_getElem? (i := 1) rfl)
  have hiX4 : ∀ w ∈ wsX40, w ∈ wsX4_holdsRow := fun w h => List.mem_cons_of_mem _ (List.mem_append_right _ (h))
  unfold f_X4_holdsRow at hf
  refine lv_aload_n hx hb dX4_holdsRow_0 rfl (lv_at hl 0 rfl) ?_
  refine va_get (D := D) (ci := 3) (v := .ref (a 2)) (C := RX4) (T := TX4) (N := 4) hx hb hts hiX4 hown hK hP 0 rfl rfl 1 (by decide) hw1 (fun _ h9 => h9) rfl dX4_holdsRow_1 ?_
  refine lv_iload_n hx hb dX4_holdsRow_4 rfl (lv_at hl 1 rfl) ?_
  obtain ⟨h1, hf⟩ := dq_g hf
  refine va_iald (cA := y 1) (n := 3) (f := c_sizes) hx hb hK hP 2 1 rfl rfl h1 dX4_holdsRow_5 ?_
  refine lv_if_lt (tgt := 13) hx hb dX4_holdsRow_6 (by decide) (fun c2 => ?_) (fun c2 => ?_)
  · have hf := dq_t hf c2
    clear c2
    refine lv_iconst (v := 0) hx hb dX4_holdsRow_13 (by decide) ?_
    obtain rfl := dq_r1 hf
    exact ct_zret hx hb hr rfl hlocks hAe hP hK hD hS dX4_holdsRow_14
  · have hf := dq_f hf c2
    clear c2
    refine lv_iconst (v := 1) hx hb dX4_holdsRow_9 (by decide) ?_
    refine lv_goto (tgt := 14) hx hb dX4_holdsRow_10 (by decide) ?_
    obtain rfl := dq_r1 hf
    exact ct_zret hx hb hr rfl hlocks hAe hP hK hD hS dX4_holdsRow_14
noncomputable def f_X4_hasPlaces (c_sizes : (Nat → Int32)) (n0 : Int32) (n1 : Int32) (n2 : Int32) : Option Int32 := dq_if (n1 < 0) (some (0 : Int32)) (dq_if (n2 < 0) (some (0 : Int32)) (dq_gd (vp_in n0 3) (dq_if ((c_sizes n0.toNatClampNeg) < n2) (some (0 : Int32)) (dq_gd (vp_in n0 3) (dq_if (((c_sizes n0.toNatClampNeg) - n2) < n1) (some (0 : Int32)) (some (1 : Int32)))))))
-- DraughtsTake$Pegs.hasPlaces(III)Z
set_option maxHeartbeats 4000000 in
set_option maxRecDepth 100000 in
theorem m_X4_hasPlaces (l : Launch) (D : va_G) (y : Nat → ClassId) (a : (Nat → Nat)) (c_sorts : (Nat → Int32)) (c_sizes : (Nat → Int32)) (c_places : (Nat → Nat → Int32)) (c_carried : (Nat → Int32)) (n0 : Int32) (n1 : Int32) (n2 : Int32) (z0 : Int32) (hf : f_X4_hasPlaces c_sizes n0 n1 n2 = some z0) : Ct l D y yX4_hasPlaces wsX4_hasPlaces 0 0 [.ref (a 0), .int n0, .int n1, .int n2] (w_X4 y a c_sorts c_sizes c_places c_carried) (w_X4 y a c_sorts c_sizes c_places c_carried) (some (.int z0)) := by
  refine ct_head (cc := cX4_hasPlaces) (n := 4) (ret := (some .boolean)) (by decide) rfl (Nat.le_of_ble_eq_true rfl) ?_
  intro p e s m below meth c A ls hx hb hr hml hown hlocks hts hA hAe hP hK hD hl
  have hS : va_S A s.heap s.heap [] := va_S.rf
  have hl : lv_has ls 4 [(0, .ref (a 0)), (1, .int n0), (2, .int n1), (3, .int n2)] := hl
  have hown : s.vm.findClass RX4 = some m.cls := hown
  have hw1 := hts (.fieldLink RX4 15 "DraughtsTake$Pegs" "sizes" "[I") (List.mem_of_getElem? (i := 1) rfl)
  have hiX4 : ∀ w ∈ wsX40, w ∈ wsX4_hasPlaces := fun w h => List.mem_cons_of_mem _ (List.mem_append_right _ (h))
  unfold f_X4_hasPlaces at hf
  refine lv_iload_n hx hb dX4_hasPlaces_0 rfl (lv_at hl 2 rfl) ?_
  refine lv_if_lt (tgt := 34) hx hb dX4_hasPlaces_1 (by decide) (fun c1 => ?_) (fun c1 => ?_)
  · have hf := dq_t hf c1
    clear c1
    refine lv_iconst (v := 0) hx hb dX4_hasPlaces_34 (by decide) ?_
    obtain rfl := dq_r1 hf
    exact ct_zret hx hb hr rfl hlocks hAe hP hK hD hS dX4_hasPlaces_35
  · have hf := dq_f hf c1
    clear c1
    refine lv_iload_n hx hb dX4_hasPlaces_4 rfl (lv_at hl 3 rfl) ?_
    refine lv_if_lt (tgt := 34) hx hb dX4_hasPlaces_5 (by decide) (fun c2 => ?_) (fun c2 => ?_)
    · have hf := dq_t hf c2
      clear c2
      refine lv_iconst (v := 0) hx hb dX4_hasPlaces_34 (by decide) ?_
      obtain rfl := dq_r1 hf
      exact ct_zret hx hb hr rfl hlocks hAe hP hK hD hS dX4_hasPlaces_35
    · have hf := dq_f hf c2
      clear c2
      refine lv_iload_n hx hb dX4_hasPlaces_8 rfl (lv_at hl 3 rfl) ?_
      refine lv_aload_n hx hb dX4_hasPlaces_9 rfl (lv_at hl 0 rfl) ?_
      refine va_get (D := D) (ci := 3) (v := .ref (a 2)) (C := RX4) (T := TX4) (N := 4) hx hb hts hiX4 hown hK hP 0 rfl rfl 1 (by decide) hw1 (fun _ h9 => h9) rfl dX4_hasPlaces_10 ?_
      refine lv_iload_n hx hb dX4_hasPlaces_13 rfl (lv_at hl 1 rfl) ?_
      obtain ⟨h3, hf⟩ := dq_g hf
      refine va_iald (cA := y 1) (n := 3) (f := c_sizes) hx hb hK hP 2 1 rfl rfl h3 dX4_hasPlaces_14 ?_
      refine lv_icmp_gt (tgt := 34) hx hb dX4_hasPlaces_15 (by decide) (fun c4 => ?_) (fun c4 => ?_)
      · have hf := dq_t hf c4
        clear c4
        refine lv_iconst (v := 0) hx hb dX4_hasPlaces_34 (by decide) ?_
        obtain rfl := dq_r1 hf
        exact ct_zret hx hb hr rfl hlocks hAe hP hK hD hS dX4_hasPlaces_35
      · have hf := dq_f hf c4
        clear c4
        refine lv_iload_n hx hb dX4_hasPlaces_18 rfl (lv_at hl 2 rfl) ?_
        refine lv_aload_n hx hb dX4_hasPlaces_19 rfl (lv_at hl 0 rfl) ?_
        refine va_get (D := D) (ci := 3) (v := .ref (a 2)) (C := RX4) (T := TX4) (N := 4) hx hb hts hiX4 hown hK hP 0 rfl rfl 1 (by decide) hw1 (fun _ h9 => h9) rfl dX4_hasPlaces_20 ?_
        refine lv_iload_n hx hb dX4_hasPlaces_23 rfl (lv_at hl 1 rfl) ?_
        obtain ⟨h5, hf⟩ := dq_g hf
        refine va_iald (cA := y 1) (n := 3) (f := c_sizes) hx hb hK hP 2 1 rfl rfl h5 dX4_hasPlaces_24 ?_
        refine lv_iload_n hx hb dX4_hasPlaces_25 rfl (lv_at hl 3 rfl) ?_
        refine lv_isub hx hb dX4_hasPlaces_26 ?_
        refine lv_icmp_gt (tgt := 34) hx hb dX4_hasPlaces_27 (by decide) (fun c6 => ?_) (fun c6 => ?_)
        · have hf := dq_t hf c6
          clear c6
          refine lv_iconst (v := 0) hx hb dX4_hasPlaces_34 (by decide) ?_
          obtain rfl := dq_r1 hf
          exact ct_zret hx hb hr rfl hlocks hAe hP hK hD hS dX4_hasPlaces_35
        · have hf := dq_f hf c6
          clear c6
          refine lv_iconst (v := 1) hx hb dX4_hasPlaces_30 (by decide) ?_
          refine lv_goto (tgt := 35) hx hb dX4_hasPlaces_31 (by decide) ?_
          obtain rfl := dq_r1 hf
          exact ct_zret hx hb hr rfl hlocks hAe hP hK hD hS dX4_hasPlaces_35
noncomputable def f_X4_placeFault (c_sizes : (Nat → Int32)) (n0 : Int32) (n1 : Int32) : Option Int32 := dq_bd (f_X4_holdsRow c_sizes n0) (fun (x1 : Int32) => dq_if (x1 = 0) (some (-11 : Int32)) (dq_bd (f_X4_hasPlaces c_sizes n0 n1 (1 : Int32)) (fun (x4 : Int32) => dq_if (x4 = 0) (some (-13 : Int32)) (some (0 : Int32)))))
-- DraughtsTake$Pegs.placeFault(II)I
set_option maxHeartbeats 4000000 in
set_option maxRecDepth 100000 in
theorem m_X4_placeFault (l : Launch) (D : va_G) (y : Nat → ClassId) (a : (Nat → Nat)) (c_sorts : (Nat → Int32)) (c_sizes : (Nat → Int32)) (c_places : (Nat → Nat → Int32)) (c_carried : (Nat → Int32)) (n0 : Int32) (n1 : Int32) (z0 : Int32) (hf : f_X4_placeFault c_sizes n0 n1 = some z0) : Ct l D y yX4_placeFault wsX4_placeFault 1 23 [.ref (a 0), .int n0, .int n1] (w_X4 y a c_sorts c_sizes c_places c_carried) (w_X4 y a c_sorts c_sizes c_places c_carried) (some (.int z0)) := by
  refine ct_head (cc := cX4_placeFault) (n := 3) (ret := (some .int)) (by decide) rfl (Nat.le_of_ble_eq_true rfl) ?_
  intro p e s m below meth c A ls hx hb hr hml hown hlocks hts hA hAe hP hK hD hl
  have hS : va_S A s.heap s.heap [] := va_S.rf
  have hl : lv_has ls 3 [(0, .ref (a 0)), (1, .int n0), (2, .int n1)] := hl
  have hown : s.vm.findClass RX4 = some m.cls := hown
  unfold f_X4_placeFault at hf
  refine lv_aload_n hx hb dX4_placeFault_0 rfl (lv_at hl 0 rfl) ?_
  refine lv_iload_n hx hb dX4_placeFault_1 rfl (lv_at hl 1 rfl) ?_
  obtain ⟨x1, hy2, hf⟩ := dq_b hf
  refine ct_callV0 (ci := 3) (q0 := 0) (own := RX4) (As := [.int n0]) (rest := []) (ws' := (w_X4 y a c_sorts c_sizes c_places c_carried)) ⟨hx, hb, hml, hown, hts⟩ (m_X4_holdsRow l D y a c_sorts c_sizes c_places c_carried n0 x1 hy2) (cwV 1 hts gX4_placeFault_X4_holdsRow rfl rfl rfl (by decide +kernel) ⟨Nat.le_of_ble_eq_true rfl, Nat.le_of_ble_eq_true rfl⟩) rfl rfl rfl hl.1 rfl (Nat.le_of_ble_eq_true rfl) dX4_placeFault_2 ⟨Nat.zero_le _, Nat.zero_le _⟩ hK hP hD hS hA (fun H locs hP hD hS => ?_)
  refine lv_if_ne (tgt := 11) hx hb dX4_placeFault_5 (by decide) (fun c3 => ?_) (fun c3 => ?_)
  · have hf := dq_f hf c3
    clear c3
    refine lv_aload_n hx hb dX4_placeFault_11 rfl (lv_at hl 0 rfl) ?_
    refine lv_iload_n hx hb dX4_placeFault_12 rfl (lv_at hl 1 rfl) ?_
    refine lv_iload_n hx hb dX4_placeFault_13 rfl (lv_at hl 2 rfl) ?_
    refine lv_iconst (v := 1) hx hb dX4_placeFault_14 (by decide) ?_
    obtain ⟨x4, hy5, hf⟩ := dq_b hf
    refine ct_callV0 (ci := 3) (q0 := 0) (own := RX4) (As := [.int n0, .int n1, .int (1 : Int32)]) (rest := []) (ws' := (w_X4 y a c_sorts c_sizes c_places c_carried)) ⟨hx, hb, hml, hown, hts⟩ (m_X4_hasPlaces l D y a c_sorts c_sizes c_places c_carried n0 n1 (1 : Int32) x4 hy5) (cwV 3 hts gX4_placeFault_X4_hasPlaces rfl rfl rfl (by decide +kernel) ⟨Nat.le_of_ble_eq_true rfl, Nat.le_of_ble_eq_true rfl⟩) rfl rfl rfl hl.1 rfl (Nat.le_of_ble_eq_true rfl) dX4_placeFault_15 ⟨Nat.zero_le _, Nat.zero_le _⟩ hK hP hD hS hA (fun H locs hP hD hS => ?_)
    refine lv_if_eq (tgt := 25) hx hb dX4_placeFault_18 (by decide) (fun c6 => ?_) (fun c6 => ?_)
    · have hf := dq_t hf c6
      clear c6
      refine lv_bipush (v := -13) hx hb dX4_placeFault_25 (by decide) ?_
      obtain rfl := dq_r1 hf
      exact ct_iret hx hb hr hlocks hAe hP hK hD hS dX4_placeFault_27
    · have hf := dq_f hf c6
      clear c6
      refine lv_iconst (v := 0) hx hb dX4_placeFault_21 (by decide) ?_
      refine lv_goto (tgt := 27) hx hb dX4_placeFault_22 (by decide) ?_
      obtain rfl := dq_r1 hf
      exact ct_iret hx hb hr hlocks hAe hP hK hD hS dX4_placeFault_27
  · have hf := dq_t hf c3
    clear c3
    refine lv_bipush (v := -11) hx hb dX4_placeFault_8 (by decide) ?_
    obtain rfl := dq_r1 hf
    exact ct_iret hx hb hr hlocks hAe hP hK hD hS dX4_placeFault_10
noncomputable def f_X4_coatFault (c_sizes : (Nat → Int32)) (c_places : (Nat → Nat → Int32)) (n0 : Int32) (n1 : Int32) : Option Int32 := dq_bd (f_X4_placeFault c_sizes n0 n1) (fun (x1 : Int32) => dq_if (x1 = 0) (dq_gd (vp_in n0 3) (dq_gd (vp_in n1 12) (dq_if (((c_places n0.toNatClampNeg) n1.toNatClampNeg) = 0) (some (-15 : Int32)) (some (0 : Int32))))) (some x1))
-- DraughtsTake$Pegs.coatFault(II)I
set_option maxHeartbeats 4000000 in
set_option maxRecDepth 100000 in
theorem m_X4_coatFault (l : Launch) (D : va_G) (y : Nat → ClassId) (a : (Nat → Nat)) (c_sorts : (Nat → Int32)) (c_sizes : (Nat → Int32)) (c_places : (Nat → Nat → Int32)) (c_carried : (Nat → Int32)) (n0 : Int32) (n1 : Int32) (z0 : Int32) (hf : f_X4_coatFault c_sizes c_places n0 n1 = some z0) : Ct l D y yX4_coatFault wsX4_coatFault 2 45 [.ref (a 0), .int n0, .int n1] (w_X4 y a c_sorts c_sizes c_places c_carried) (w_X4 y a c_sorts c_sizes c_places c_carried) (some (.int z0)) := by
  refine ct_head (cc := cX4_coatFault) (n := 4) (ret := (some .int)) (by decide) rfl (Nat.le_of_ble_eq_true rfl) ?_
  intro p e s m below meth c A ls hx hb hr hml hown hlocks hts hA hAe hP hK hD hl
  have hS : va_S A s.heap s.heap [] := va_S.rf
  have hl : lv_has ls 4 [(0, .ref (a 0)), (1, .int n0), (2, .int n1)] := hl
  have hown : s.vm.findClass RX4 = some m.cls := hown
  have hw1 := hts (.fieldLink RX4 20 "DraughtsTake$Pegs" "places" "[[I") (List.mem_of_getElem? (i := 1) rfl)
  have hiX4 : ∀ w ∈ wsX40, w ∈ wsX4_coatFault := fun w h => List.mem_cons_of_mem _ (List.mem_append_right _ (h))
  unfold f_X4_coatFault at hf
  refine lv_aload_n hx hb dX4_coatFault_0 rfl (lv_at hl 0 rfl) ?_
  refine lv_iload_n hx hb dX4_coatFault_1 rfl (lv_at hl 1 rfl) ?_
  refine lv_iload_n hx hb dX4_coatFault_2 rfl (lv_at hl 2 rfl) ?_
  obtain ⟨x1, hy2, hf⟩ := dq_b hf
  refine ct_callV0 (ci := 3) (q0 := 0) (own := RX4) (As := [.int n0, .int n1]) (rest := []) (ws' := (w_X4 y a c_sorts c_sizes c_places c_carried)) ⟨hx, hb, hml, hown, hts⟩ (m_X4_placeFault l D y a c_sorts c_sizes c_places c_carried n0 n1 x1 hy2) (cwV 2 hts gX4_coatFault_X4_placeFault rfl rfl rfl (by decide +kernel) ⟨Nat.le_of_ble_eq_true rfl, Nat.le_of_ble_eq_true rfl⟩) rfl rfl rfl hl.1 rfl (Nat.le_of_ble_eq_true rfl) dX4_coatFault_3 ⟨Nat.zero_le _, Nat.zero_le _⟩ hK hP hD hS hA (fun H locs hP hD hS => ?_)
  refine lv_istore_n (lv' := [(3, .int x1), (0, .ref (a 0)), (1, .int n0), (2, .int n1)]) hx hb dX4_coatFault_6 rfl hl (by decide) rfl (fun ls hl => ?_)
  refine lv_iload_n hx hb dX4_coatFault_7 rfl (lv_at hl 0 rfl) ?_
  refine lv_if_eq (tgt := 13) hx hb dX4_coatFault_8 (by decide) (fun c3 => ?_) (fun c3 => ?_)
  · have hf := dq_t hf c3
    clear c3
    refine lv_aload_n hx hb dX4_coatFault_13 rfl (lv_at hl 1 rfl) ?_
    refine va_get (D := D) (ci := 3) (v := .ref (a 3)) (C := RX4) (T := TX4) (N := 4) hx hb hts hiX4 hown hK hP 0 rfl rfl 2 (by decide) hw1 (fun _ h9 => h9) rfl dX4_coatFault_14 ?_
    refine lv_iload_n hx hb dX4_coatFault_17 rfl (lv_at hl 2 rfl) ?_
    obtain ⟨h4, hf⟩ := dq_g hf
    obtain ⟨j7, hjj7, ej7⟩ := dq_ix h4
    have hjj7 : j7 = 0 ∨ j7 = 1 ∨ j7 = 2 := by omega
    rcases hjj7 with rfl | rfl | rfl
    · try rw [ej7] at hf
      refine dq_aldI (cA := y 4) (n := 3) (b := (a 4)) (f := (fun i => if i < 3 then some (a (4 + i)) else none)) hx hb hK hP 3 4 rfl rfl h4 (by rw [ej7]; rfl) dX4_coatFault_18 ?_
      refine lv_iload_n hx hb dX4_coatFault_19 rfl (lv_at hl 3 rfl) ?_
      obtain ⟨h8, hf⟩ := dq_g hf
      refine va_iald (cA := y 1) (n := 12) (f := (c_places 0)) hx hb hK hP 4 1 rfl rfl h8 dX4_coatFault_20 ?_
      refine lv_if_ne (tgt := 29) hx hb dX4_coatFault_21 (by decide) (fun c9 => ?_) (fun c9 => ?_)
      · have hf := dq_f hf c9
        clear c9
        refine lv_iconst (v := 0) hx hb dX4_coatFault_29 (by decide) ?_
        obtain rfl := dq_r1 hf
        exact ct_iret hx hb hr hlocks hAe hP hK hD hS dX4_coatFault_30
      · have hf := dq_t hf c9
        clear c9
        refine lv_bipush (v := -15) hx hb dX4_coatFault_24 (by decide) ?_
        refine lv_goto (tgt := 30) hx hb dX4_coatFault_26 (by decide) ?_
        obtain rfl := dq_r1 hf
        exact ct_iret hx hb hr hlocks hAe hP hK hD hS dX4_coatFault_30
    · try rw [ej7] at hf
      refine dq_aldI (cA := y 4) (n := 3) (b := (a 5)) (f := (fun i => if i < 3 then some (a (4 + i)) else none)) hx hb hK hP 3 4 rfl rfl h4 (by rw [ej7]; rfl) dX4_coatFault_18 ?_
      refine lv_iload_n hx hb dX4_coatFault_19 rfl (lv_at hl 3 rfl) ?_
      obtain ⟨h10, hf⟩ := dq_g hf
      refine va_iald (cA := y 1) (n := 12) (f := (c_places 1)) hx hb hK hP 5 1 rfl rfl h10 dX4_coatFault_20 ?_
      refine lv_if_ne (tgt := 29) hx hb dX4_coatFault_21 (by decide) (fun c11 => ?_) (fun c11 => ?_)
      · have hf := dq_f hf c11
        clear c11
        refine lv_iconst (v := 0) hx hb dX4_coatFault_29 (by decide) ?_
        obtain rfl := dq_r1 hf
        exact ct_iret hx hb hr hlocks hAe hP hK hD hS dX4_coatFault_30
      · have hf := dq_t hf c11
        clear c11
        refine lv_bipush (v := -15) hx hb dX4_coatFault_24 (by decide) ?_
        refine lv_goto (tgt := 30) hx hb dX4_coatFault_26 (by decide) ?_
        obtain rfl := dq_r1 hf
        exact ct_iret hx hb hr hlocks hAe hP hK hD hS dX4_coatFault_30
    · try rw [ej7] at hf
      refine dq_aldI (cA := y 4) (n := 3) (b := (a 6)) (f := (fun i => if i < 3 then some (a (4 + i)) else none)) hx hb hK hP 3 4 rfl rfl h4 (by rw [ej7]; rfl) dX4_coatFault_18 ?_
      refine lv_iload_n hx hb dX4_coatFault_19 rfl (lv_at hl 3 rfl) ?_
      obtain ⟨h12, hf⟩ := dq_g hf
      refine va_iald (cA := y 1) (n := 12) (f := (c_places 2)) hx hb hK hP 6 1 rfl rfl h12 dX4_coatFault_20 ?_
      refine lv_if_ne (tgt := 29) hx hb dX4_coatFault_21 (by decide) (fun c13 => ?_) (fun c13 => ?_)
      · have hf := dq_f hf c13
        clear c13
        refine lv_iconst (v := 0) hx hb dX4_coatFault_29 (by decide) ?_
        obtain rfl := dq_r1 hf
        exact ct_iret hx hb hr hlocks hAe hP hK hD hS dX4_coatFault_30
      · have hf := dq_t hf c13
        clear c13
        refine lv_bipush (v := -15) hx hb dX4_coatFault_24 (by decide) ?_
        refine lv_goto (tgt := 30) hx hb dX4_coatFault_26 (by decide) ?_
        obtain rfl := dq_r1 hf
        exact ct_iret hx hb hr hlocks hAe hP hK hD hS dX4_coatFault_30
  · have hf := dq_f hf c3
    clear c3
    refine lv_iload_n hx hb dX4_coatFault_11 rfl (lv_at hl 0 rfl) ?_
    obtain rfl := dq_r1 hf
    exact ct_iret hx hb hr hlocks hAe hP hK hD hS dX4_coatFault_12
noncomputable def f_X4_put_b28 (n0 : Int32) (n1 : Int32) (n2 : Int32) (c_places : (Nat → Nat → Int32))   : Option (Int32 × (Nat → Nat → Int32)) := dq_gd (vp_in n0 3) (dq_gd (vp_in n1 12) (dq_let (upd (c_places n0.toNatClampNeg) n1.toNatClampNeg n2) (fun (c_places_3 : (Nat → Int32)) => some ((1 : Int32), (va_up c_places n0.toNatClampNeg c_places_3)))))
noncomputable def f_X4_put (c_sorts : (Nat → Int32)) (c_places : (Nat → Nat → Int32)) (n0 : Int32) (n1 : Int32) (n2 : Int32) : Option (Int32 × (Nat → Nat → Int32)) := dq_if (n2 = 0) (f_X4_put_b28 n0 n1 n2 c_places) (dq_gd (vp_in n0 3) (dq_if ((c_sorts n0.toNatClampNeg) = 0) (f_X4_put_b28 n0 n1 n2 c_places) (dq_gd (vp_in n0 3) (dq_if ((c_sorts n0.toNatClampNeg) = (n2 / (10 : Int32))) (f_X4_put_b28 n0 n1 n2 c_places) (some ((0 : Int32), c_places))))))
-- DraughtsTake$Pegs.put(III)Z
set_option maxHeartbeats 4000000 in
set_option maxRecDepth 100000 in
theorem m_X4_put (l : Launch) (D : va_G) (y : Nat → ClassId) (a : (Nat → Nat)) (c_sorts : (Nat → Int32)) (c_sizes : (Nat → Int32)) (c_places : (Nat → Nat → Int32)) (c_carried : (Nat → Int32)) (n0 : Int32) (n1 : Int32) (n2 : Int32) (z0 : Int32) (z1 : (Nat → Nat → Int32)) (hf : f_X4_put c_sorts c_places n0 n1 n2 = some (z0, z1)) : Ct l D y yX4_put wsX4_put 0 0 [.ref (a 0), .int n0, .int n1, .int n2] (w_X4 y a c_sorts c_sizes c_places c_carried) (w_X4 y a c_sorts c_sizes z1 c_carried) (some (.int z0)) := by
  refine ct_head (cc := cX4_put) (n := 4) (ret := (some .boolean)) (by decide) rfl (Nat.le_of_ble_eq_true rfl) ?_
  intro p e s m below meth c A ls hx hb hr hml hown hlocks hts hA hAe hP hK hD hl
  have hS : va_S A s.heap s.heap [] := va_S.rf
  have hl : lv_has ls 4 [(0, .ref (a 0)), (1, .int n0), (2, .int n1), (3, .int n2)] := hl
  have hown : s.vm.findClass RX4 = some m.cls := hown
  have hw1 := hts (.fieldLink RX4 9 "DraughtsTake$Pegs" "sorts" "[I") (List.mem_of_getElem? (i := 1) rfl)
  have hw2 := hts (.fieldLink RX4 20 "DraughtsTake$Pegs" "places" "[[I") (List.mem_of_getElem? (i := 2) rfl)
  have hiX4 : ∀ w ∈ wsX40, w ∈ wsX4_put := fun w h => List.mem_cons_of_mem _ (List.mem_append_right _ (h))
  unfold f_X4_put at hf
  refine lv_iload_n hx hb dX4_put_0 rfl (lv_at hl 3 rfl) ?_
  have J28 : f_X4_put_b28 n0 n1 n2 c_places = some (z0, z1) → ∀ (H : Heap) (locs : List Loc), va_P D vwCl (w_X4 y a c_sorts c_sizes c_places c_carried) H → va_D A (w_X4 y a c_sorts c_sizes c_places c_carried) → va_S A s.heap H locs → ∀ ls : Array Slot, lv_has ls 4 [(0, .ref (a 0)), (1, .int n0), (2, .int n1), (3, .int n2)] → W p l e ({ frames := 0, cells := 0, slots := 0, locals := 0 } : Room) s m [.ref (a 0), .int n0, .int n1, .int n2].toArray below meth c H locs 0 0 (MQ below (dQ D y (some (.int z0)) s.heap.size (w_X4 y a c_sorts c_sizes c_places c_carried) (w_X4 y a c_sorts c_sizes z1 c_carried)) [.ref (a 0), .int n0, .int n1, .int n2].toArray s 0 0 A) (F0 m 28 ls []) := by
    intro  hf H locs hP hD hS ls hl
    unfold f_X4_put_b28 at hf
    refine lv_aload_n hx hb dX4_put_28 rfl (lv_at hl 0 rfl) ?_
    refine va_get (D := D) (ci := 3) (v := .ref (a 3)) (C := RX4) (T := TX4) (N := 4) hx hb hts hiX4 hown hK hP 0 rfl rfl 2 (by decide) hw2 (fun _ h9 => h9) rfl dX4_put_29 ?_
    refine lv_iload_n hx hb dX4_put_32 rfl (lv_at hl 1 rfl) ?_
    obtain ⟨h1, hf⟩ := dq_g hf
    obtain ⟨j4, hjj4, ej4⟩ := dq_ix h1
    have hjj4 : j4 = 0 ∨ j4 = 1 ∨ j4 = 2 := by omega
    rcases hjj4 with rfl | rfl | rfl
    · try rw [ej4] at hf
      refine dq_aldI (cA := y 4) (n := 3) (b := (a 4)) (f := (fun i => if i < 3 then some (a (4 + i)) else none)) hx hb hK hP 3 4 rfl rfl h1 (by rw [ej4]; rfl) dX4_put_33 ?_
      refine lv_iload_n hx hb dX4_put_34 rfl (lv_at hl 2 rfl) ?_
      refine lv_iload_n hx hb dX4_put_35 rfl (lv_at hl 3 rfl) ?_
      obtain ⟨h5, hf⟩ := dq_g hf
      refine dq_iast (cA := y 1) (n := 12) (f := (c_places 0)) hx hb hK hP hD hS 4 1 rfl rfl h5 dX4_put_36 (fun c_places_6 ec_places_6 H locs hP hD hS => ?_)
      have hf := dq_l hf c_places_6 ec_places_6
      clear ec_places_6
      have hP : va_P D vwCl (w_X4 y a c_sorts c_sizes (va_up c_places 0 c_places_6) c_carried) H := hP
      have hD : va_D A (w_X4 y a c_sorts c_sizes (va_up c_places 0 c_places_6) c_carried) := hD
      refine lv_iconst (v := 1) hx hb dX4_put_37 (by decide) ?_
      obtain ⟨rfl, rfl⟩ := dq_r2 hf
      exact ct_zret hx hb hr rfl hlocks hAe hP hK hD hS dX4_put_38
    · try rw [ej4] at hf
      refine dq_aldI (cA := y 4) (n := 3) (b := (a 5)) (f := (fun i => if i < 3 then some (a (4 + i)) else none)) hx hb hK hP 3 4 rfl rfl h1 (by rw [ej4]; rfl) dX4_put_33 ?_
      refine lv_iload_n hx hb dX4_put_34 rfl (lv_at hl 2 rfl) ?_
      refine lv_iload_n hx hb dX4_put_35 rfl (lv_at hl 3 rfl) ?_
      obtain ⟨h7, hf⟩ := dq_g hf
      refine dq_iast (cA := y 1) (n := 12) (f := (c_places 1)) hx hb hK hP hD hS 5 1 rfl rfl h7 dX4_put_36 (fun c_places_8 ec_places_8 H locs hP hD hS => ?_)
      have hf := dq_l hf c_places_8 ec_places_8
      clear ec_places_8
      have hP : va_P D vwCl (w_X4 y a c_sorts c_sizes (va_up c_places 1 c_places_8) c_carried) H := hP
      have hD : va_D A (w_X4 y a c_sorts c_sizes (va_up c_places 1 c_places_8) c_carried) := hD
      refine lv_iconst (v := 1) hx hb dX4_put_37 (by decide) ?_
      obtain ⟨rfl, rfl⟩ := dq_r2 hf
      exact ct_zret hx hb hr rfl hlocks hAe hP hK hD hS dX4_put_38
    · try rw [ej4] at hf
      refine dq_aldI (cA := y 4) (n := 3) (b := (a 6)) (f := (fun i => if i < 3 then some (a (4 + i)) else none)) hx hb hK hP 3 4 rfl rfl h1 (by rw [ej4]; rfl) dX4_put_33 ?_
      refine lv_iload_n hx hb dX4_put_34 rfl (lv_at hl 2 rfl) ?_
      refine lv_iload_n hx hb dX4_put_35 rfl (lv_at hl 3 rfl) ?_
      obtain ⟨h9, hf⟩ := dq_g hf
      refine dq_iast (cA := y 1) (n := 12) (f := (c_places 2)) hx hb hK hP hD hS 6 1 rfl rfl h9 dX4_put_36 (fun c_places_10 ec_places_10 H locs hP hD hS => ?_)
      have hf := dq_l hf c_places_10 ec_places_10
      clear ec_places_10
      have hP : va_P D vwCl (w_X4 y a c_sorts c_sizes (va_up c_places 2 c_places_10) c_carried) H := hP
      have hD : va_D A (w_X4 y a c_sorts c_sizes (va_up c_places 2 c_places_10) c_carried) := hD
      refine lv_iconst (v := 1) hx hb dX4_put_37 (by decide) ?_
      obtain ⟨rfl, rfl⟩ := dq_r2 hf
      exact ct_zret hx hb hr rfl hlocks hAe hP hK hD hS dX4_put_38
  refine lv_if_eq (tgt := 28) hx hb dX4_put_1 (by decide) (fun c11 => ?_) (fun c11 => ?_)
  · have hf := dq_t hf c11
    clear c11
    exact J28  hf _ _ hP hD hS _ (lv_sub hl [0, 1, 2, 3] rfl)
  · have hf := dq_f hf c11
    clear c11
    refine lv_aload_n hx hb dX4_put_4 rfl (lv_at hl 0 rfl) ?_
    refine va_get (D := D) (ci := 3) (v := .ref (a 1)) (C := RX4) (T := TX4) (N := 4) hx hb hts hiX4 hown hK hP 0 rfl rfl 0 (by decide) hw1 (fun _ h9 => h9) rfl dX4_put_5 ?_
    refine lv_iload_n hx hb dX4_put_8 rfl (lv_at hl 1 rfl) ?_
    obtain ⟨h12, hf⟩ := dq_g hf
    refine va_iald (cA := y 1) (n := 3) (f := c_sorts) hx hb hK hP 1 1 rfl rfl h12 dX4_put_9 ?_
    refine lv_if_eq (tgt := 28) hx hb dX4_put_10 (by decide) (fun c13 => ?_) (fun c13 => ?_)
    · have hf := dq_t hf c13
      clear c13
      exact J28  hf _ _ hP hD hS _ (lv_sub hl [0, 1, 2, 3] rfl)
    · have hf := dq_f hf c13
      clear c13
      refine lv_aload_n hx hb dX4_put_13 rfl (lv_at hl 0 rfl) ?_
      refine va_get (D := D) (ci := 3) (v := .ref (a 1)) (C := RX4) (T := TX4) (N := 4) hx hb hts hiX4 hown hK hP 0 rfl rfl 0 (by decide) hw1 (fun _ h9 => h9) rfl dX4_put_14 ?_
      refine lv_iload_n hx hb dX4_put_17 rfl (lv_at hl 1 rfl) ?_
      obtain ⟨h14, hf⟩ := dq_g hf
      refine va_iald (cA := y 1) (n := 3) (f := c_sorts) hx hb hK hP 1 1 rfl rfl h14 dX4_put_18 ?_
      refine lv_iload_n hx hb dX4_put_19 rfl (lv_at hl 3 rfl) ?_
      refine lv_bipush (v := 10) hx hb dX4_put_20 (by decide) ?_
      refine lv_idiv hx hb dX4_put_22 (by decide) ?_
      refine lv_icmp_eq (tgt := 28) hx hb dX4_put_23 (by decide) (fun c15 => ?_) (fun c15 => ?_)
      · have hf := dq_t hf c15
        clear c15
        exact J28  hf _ _ hP hD hS _ (lv_sub hl [0, 1, 2, 3] rfl)
      · have hf := dq_f hf c15
        clear c15
        refine lv_iconst (v := 0) hx hb dX4_put_26 (by decide) ?_
        obtain ⟨rfl, rfl⟩ := dq_r2 hf
        exact ct_zret hx hb hr rfl hlocks hAe hP hK hD hS dX4_put_27
noncomputable def f_X4_carry_b37 (n2 : Int32) (n3 : Int32) (n4 : Int32) (c_sorts : (Nat → Int32)) (c_carried_2 : (Nat → Int32))  : Nat → Int32 → (Nat → Nat → Int32) → Option (Int32 × (Nat → Nat → Int32) × (Nat → Int32))
  | 0, _, _ => none
  | m37 + 1, x4, c_places_5 => dq_if (n4 ≤ x4) (some ((1 : Int32), c_places_5, c_carried_2)) (dq_gd (vp_in x4 12) (dq_bd2 (f_X4_put c_sorts c_places_5 n2 (n3 + x4) (c_carried_2 x4.toNatClampNeg)) (fun (x8 : Int32) (c_places_9 : (Nat → Nat → Int32)) => dq_if (x8 = 0) (some ((0 : Int32), c_places_9, c_carried_2)) (dq_let (x4 + (1 : Int32)) (fun (x12 : Int32) => (f_X4_carry_b37 n2 n3 n4 c_sorts c_carried_2 m37) x12 c_places_9)))))
noncomputable def f_X4_carry_b3 (n0 : Int32) (n1 : Int32) (n2 : Int32) (n3 : Int32) (n4 : Int32) (c_sorts : (Nat → Int32)) (c_places : (Nat → Nat → Int32))  : Nat → Int32 → (Nat → Int32) → Option (Int32 × (Nat → Nat → Int32) × (Nat → Int32))
  | 0, _, _ => none
  | m3 + 1, x1, c_carried_2 => dq_if (n4 ≤ x1) (f_X4_carry_b37 n2 n3 n4 c_sorts c_carried_2 4096 (0 : Int32) c_places) (dq_gd (vp_in n0 3) (dq_gd (vp_in (n1 + x1) 12) (dq_gd (vp_in x1 12) (dq_let (upd c_carried_2 x1.toNatClampNeg ((c_places n0.toNatClampNeg) (n1 + x1).toNatClampNeg)) (fun (c_carried_16 : (Nat → Int32)) => dq_let (x1 + (1 : Int32)) (fun (x17 : Int32) => (f_X4_carry_b3 n0 n1 n2 n3 n4 c_sorts c_places m3) x17 c_carried_16))))))
noncomputable def f_X4_carry (c_sorts : (Nat → Int32)) (c_places : (Nat → Nat → Int32)) (c_carried : (Nat → Int32)) (n0 : Int32) (n1 : Int32) (n2 : Int32) (n3 : Int32) (n4 : Int32) : Option (Int32 × (Nat → Nat → Int32) × (Nat → Int32)) := f_X4_carry_b3 n0 n1 n2 n3 n4 c_sorts c_places 4096 (0 : Int32) c_carried
-- DraughtsTake$Pegs.carry(IIIII)Z
set_option maxHeartbeats 4000000 in
set_option maxRecDepth 100000 in
theorem m_X4_carry (l : Launch) (D : va_G) (y : Nat → ClassId) (a : (Nat → Nat)) (c_sorts : (Nat → Int32)) (c_sizes : (Nat → Int32)) (c_places : (Nat → Nat → Int32)) (c_carried : (Nat → Int32)) (n0 : Int32) (n1 : Int32) (n2 : Int32) (n3 : Int32) (n4 : Int32) (z0 : Int32) (z1 : (Nat → Nat → Int32)) (z2 : (Nat → Int32)) (hf : f_X4_carry c_sorts c_places c_carried n0 n1 n2 n3 n4 = some (z0, z1, z2)) : Ct l D y yX4_carry wsX4_carry 1 23 [.ref (a 0), .int n0, .int n1, .int n2, .int n3, .int n4] (w_X4 y a c_sorts c_sizes c_places c_carried) (w_X4 y a c_sorts c_sizes z1 z2) (some (.int z0)) := by
  refine ct_head (cc := cX4_carry) (n := 7) (ret := (some .boolean)) (by decide) rfl (Nat.le_of_ble_eq_true rfl) ?_
  intro p e s m below meth c A ls hx hb hr hml hown hlocks hts hA hAe hP hK hD hl
  have hS : va_S A s.heap s.heap [] := va_S.rf
  have hl : lv_has ls 7 [(0, .ref (a 0)), (1, .int n0), (2, .int n1), (3, .int n2), (4, .int n3), (5, .int n4)] := hl
  have hown : s.vm.findClass RX4 = some m.cls := hown
  have hw1 := hts (.fieldLink RX4 23 "DraughtsTake$Pegs" "carried" "[I") (List.mem_of_getElem? (i := 1) rfl)
  have hw2 := hts (.fieldLink RX4 20 "DraughtsTake$Pegs" "places" "[[I") (List.mem_of_getElem? (i := 2) rfl)
  have hiX4 : ∀ w ∈ wsX40, w ∈ wsX4_carry := fun w h => List.mem_cons_of_mem _ (List.mem_append_right _ (h))
  unfold f_X4_carry at hf
  refine lv_iconst (v := 0) hx hb dX4_carry_0 (by decide) ?_
  refine lv_istore (lv' := [(6, .int (0 : Int32)), (0, .ref (a 0)), (1, .int n0), (2, .int n1), (3, .int n2), (4, .int n3), (5, .int n4)]) hx hb dX4_carry_1 hl (by decide) rfl (fun ls hl => ?_)
  have J3 : ∀ (m3 : Nat) (x1 : Int32) (c_carried_2 : (Nat → Int32)), f_X4_carry_b3 n0 n1 n2 n3 n4 c_sorts c_places m3 x1 c_carried_2 = some (z0, z1, z2) → ∀ (H : Heap) (locs : List Loc), va_P D vwCl (w_X4 y a c_sorts c_sizes c_places c_carried_2) H → va_D A (w_X4 y a c_sorts c_sizes c_places c_carried_2) → va_S A s.heap H locs → ∀ ls : Array Slot, lv_has ls 7 [(0, .ref (a 0)), (1, .int n0), (2, .int n1), (3, .int n2), (4, .int n3), (5, .int n4), (6, .int x1)] → W p l e ({ frames := 1, cells := 0, slots := 0, locals := 23 } : Room) s m [.ref (a 0), .int n0, .int n1, .int n2, .int n3, .int n4].toArray below meth c H locs 0 0 (MQ below (dQ D y (some (.int z0)) s.heap.size (w_X4 y a c_sorts c_sizes c_places c_carried) (w_X4 y a c_sorts c_sizes z1 z2)) [.ref (a 0), .int n0, .int n1, .int n2, .int n3, .int n4].toArray s 0 0 A) (F0 m 3 ls []) := by
    intro m3
    induction m3 with
    | zero => intro x1 c_carried_2 hf; exact absurd hf (by unfold f_X4_carry_b3; exact fun h => by cases h)
    | succ m3 I3 =>
      intro x1 c_carried_2 hf H locs hP hD hS ls hl
      unfold f_X4_carry_b3 at hf
      refine lv_iload hx hb dX4_carry_3 (lv_at hl 6 rfl) ?_
      refine lv_iload hx hb dX4_carry_5 (lv_at hl 5 rfl) ?_
      refine lv_icmp_ge (tgt := 34) hx hb dX4_carry_7 (by decide) (fun c3 => ?_) (fun c3 => ?_)
      · have hf := dq_t hf c3
        clear c3
        refine lv_iconst (v := 0) hx hb dX4_carry_34 (by decide) ?_
        refine lv_istore (lv' := [(6, .int (0 : Int32)), (0, .ref (a 0)), (1, .int n0), (2, .int n1), (3, .int n2), (4, .int n3), (5, .int n4)]) hx hb dX4_carry_35 hl (by decide) rfl (fun ls hl => ?_)
        have J37 : ∀ (m37 : Nat) (x4 : Int32) (c_places_5 : (Nat → Nat → Int32)), f_X4_carry_b37 n2 n3 n4 c_sorts c_carried_2 m37 x4 c_places_5 = some (z0, z1, z2) → ∀ (H : Heap) (locs : List Loc), va_P D vwCl (w_X4 y a c_sorts c_sizes c_places_5 c_carried_2) H → va_D A (w_X4 y a c_sorts c_sizes c_places_5 c_carried_2) → va_S A s.heap H locs → ∀ ls : Array Slot, lv_has ls 7 [(0, .ref (a 0)), (3, .int n2), (4, .int n3), (5, .int n4), (6, .int x4)] → W p l e ({ frames := 1, cells := 0, slots := 0, locals := 23 } : Room) s m [.ref (a 0), .int n0, .int n1, .int n2, .int n3, .int n4].toArray below meth c H locs 0 0 (MQ below (dQ D y (some (.int z0)) s.heap.size (w_X4 y a c_sorts c_sizes c_places c_carried) (w_X4 y a c_sorts c_sizes z1 z2)) [.ref (a 0), .int n0, .int n1, .int n2, .int n3, .int n4].toArray s 0 0 A) (F0 m 37 ls []) := by
          intro m37
          induction m37 with
          | zero => intro x4 c_places_5 hf; exact absurd hf (by unfold f_X4_carry_b37; exact fun h => by cases h)
          | succ m37 I37 =>
            intro x4 c_places_5 hf H locs hP hD hS ls hl
            unfold f_X4_carry_b37 at hf
            refine lv_iload hx hb dX4_carry_37 (lv_at hl 4 rfl) ?_
            refine lv_iload hx hb dX4_carry_39 (lv_at hl 3 rfl) ?_
            refine lv_icmp_ge (tgt := 72) hx hb dX4_carry_41 (by decide) (fun c6 => ?_) (fun c6 => ?_)
            · have hf := dq_t hf c6
              clear c6
              refine lv_iconst (v := 1) hx hb dX4_carry_72 (by decide) ?_
              obtain ⟨rfl, rfl, rfl⟩ := dq_r3 hf
              exact ct_zret hx hb hr rfl hlocks hAe hP hK hD hS dX4_carry_73
            · have hf := dq_f hf c6
              clear c6
              refine lv_aload_n hx hb dX4_carry_44 rfl (lv_at hl 0 rfl) ?_
              refine lv_iload_n hx hb dX4_carry_45 rfl (lv_at hl 1 rfl) ?_
              refine lv_iload hx hb dX4_carry_46 (lv_at hl 2 rfl) ?_
              refine lv_iload hx hb dX4_carry_48 (lv_at hl 4 rfl) ?_
              refine lv_iadd hx hb dX4_carry_50 ?_
              refine lv_aload_n hx hb dX4_carry_51 rfl (lv_at hl 0 rfl) ?_
              refine va_get (D := D) (ci := 3) (v := .ref (a 7)) (C := RX4) (T := TX4) (N := 4) hx hb hts hiX4 hown hK hP 0 rfl rfl 3 (by decide) hw1 (fun _ h9 => h9) rfl dX4_carry_52 ?_
              refine lv_iload hx hb dX4_carry_55 (lv_at hl 4 rfl) ?_
              obtain ⟨h7, hf⟩ := dq_g hf
              refine va_iald (cA := y 1) (n := 12) (f := c_carried_2) hx hb hK hP 7 1 rfl rfl h7 dX4_carry_57 ?_
              obtain ⟨x8, c_places_9, hy10, hf⟩ := dq_b2 hf
              refine ct_callV0 (ci := 3) (q0 := 0) (own := RX4) (As := [.int n2, .int (n3 + x4), .int (c_carried_2 x4.toNatClampNeg)]) (rest := []) (ws' := (w_X4 y a c_sorts c_sizes c_places_9 c_carried_2)) ⟨hx, hb, hml, hown, hts⟩ (m_X4_put l D y a c_sorts c_sizes c_places_5 c_carried_2 n2 (n3 + x4) (c_carried_2 x4.toNatClampNeg) x8 c_places_9 hy10) (cwV 3 hts gX4_carry_X4_put rfl rfl rfl (by decide +kernel) ⟨Nat.le_of_ble_eq_true rfl, Nat.le_of_ble_eq_true rfl⟩) rfl rfl rfl hl.1 rfl (Nat.le_of_ble_eq_true rfl) dX4_carry_58 ⟨Nat.zero_le _, Nat.zero_le _⟩ hK hP hD hS hA (fun H locs hP hD hS => ?_)
              refine lv_if_ne (tgt := 66) hx hb dX4_carry_61 (by decide) (fun c11 => ?_) (fun c11 => ?_)
              · have hf := dq_f hf c11
                clear c11
                obtain ⟨x12, ex12⟩ : ∃ z : Int32, z = (x4 + (1 : Int32)) := ⟨_, rfl⟩
                have hf := dq_l hf x12 ex12
                refine lv_iinc (v := x12) (lv' := [(6, .int x12), (0, .ref (a 0)), (3, .int n2), (4, .int n3), (5, .int n4)]) hx hb dX4_carry_66 hl (k := 4) rfl (by rw [ex12]; rfl) (by decide) rfl (fun ls hl => ?_)
                clear ex12
                refine lv_goto (tgt := 37) hx hb dX4_carry_69 (by decide) ?_
                exact I37 _ _ hf _ _ hP hD hS _ (lv_sub hl [1, 2, 3, 4, 0] rfl)
              · have hf := dq_t hf c11
                clear c11
                refine lv_iconst (v := 0) hx hb dX4_carry_64 (by decide) ?_
                obtain ⟨rfl, rfl, rfl⟩ := dq_r3 hf
                exact ct_zret hx hb hr rfl hlocks hAe hP hK hD hS dX4_carry_65
        exact J37 4096 _ _ hf _ _ hP hD hS _ (lv_sub hl [1, 4, 5, 6, 0] rfl)
      · have hf := dq_f hf c3
        clear c3
        refine lv_aload_n hx hb dX4_carry_10 rfl (lv_at hl 0 rfl) ?_
        refine va_get (D := D) (ci := 3) (v := .ref (a 7)) (C := RX4) (T := TX4) (N := 4) hx hb hts hiX4 hown hK hP 0 rfl rfl 3 (by decide) hw1 (fun _ h9 => h9) rfl dX4_carry_11 ?_
        refine lv_iload hx hb dX4_carry_14 (lv_at hl 6 rfl) ?_
        refine lv_aload_n hx hb dX4_carry_16 rfl (lv_at hl 0 rfl) ?_
        refine va_get (D := D) (ci := 3) (v := .ref (a 3)) (C := RX4) (T := TX4) (N := 4) hx hb hts hiX4 hown hK hP 0 rfl rfl 2 (by decide) hw2 (fun _ h9 => h9) rfl dX4_carry_17 ?_
        refine lv_iload_n hx hb dX4_carry_20 rfl (lv_at hl 1 rfl) ?_
        obtain ⟨h13, hf⟩ := dq_g hf
        obtain ⟨j18, hjj18, ej18⟩ := dq_ix h13
        have hjj18 : j18 = 0 ∨ j18 = 1 ∨ j18 = 2 := by omega
        rcases hjj18 with rfl | rfl | rfl
        · try rw [ej18] at hf
          refine dq_aldI (cA := y 4) (n := 3) (b := (a 4)) (f := (fun i => if i < 3 then some (a (4 + i)) else none)) hx hb hK hP 3 4 rfl rfl h13 (by rw [ej18]; rfl) dX4_carry_21 ?_
          refine lv_iload_n hx hb dX4_carry_22 rfl (lv_at hl 2 rfl) ?_
          refine lv_iload hx hb dX4_carry_23 (lv_at hl 6 rfl) ?_
          refine lv_iadd hx hb dX4_carry_25 ?_
          obtain ⟨h19, hf⟩ := dq_g hf
          refine va_iald (cA := y 1) (n := 12) (f := (c_places 0)) hx hb hK hP 4 1 rfl rfl h19 dX4_carry_26 ?_
          obtain ⟨h20, hf⟩ := dq_g hf
          refine dq_iast (cA := y 1) (n := 12) (f := c_carried_2) hx hb hK hP hD hS 7 1 rfl rfl h20 dX4_carry_27 (fun c_carried_21 ec_carried_21 H locs hP hD hS => ?_)
          have hf := dq_l hf c_carried_21 ec_carried_21
          clear ec_carried_21
          have hP : va_P D vwCl (w_X4 y a c_sorts c_sizes c_places c_carried_21) H := hP
          have hD : va_D A (w_X4 y a c_sorts c_sizes c_places c_carried_21) := hD
          obtain ⟨x22, ex22⟩ : ∃ z : Int32, z = (x1 + (1 : Int32)) := ⟨_, rfl⟩
          have hf := dq_l hf x22 ex22
          refine lv_iinc (v := x22) (lv' := [(6, .int x22), (0, .ref (a 0)), (1, .int n0), (2, .int n1), (3, .int n2), (4, .int n3), (5, .int n4)]) hx hb dX4_carry_28 hl (k := 6) rfl (by rw [ex22]; rfl) (by decide) rfl (fun ls hl => ?_)
          clear ex22
          refine lv_goto (tgt := 3) hx hb dX4_carry_31 (by decide) ?_
          exact I3 _ _ hf _ _ hP hD hS _ (lv_sub hl [1, 2, 3, 4, 5, 6, 0] rfl)
        · try rw [ej18] at hf
          refine dq_aldI (cA := y 4) (n := 3) (b := (a 5)) (f := (fun i => if i < 3 then some (a (4 + i)) else none)) hx hb hK hP 3 4 rfl rfl h13 (by rw [ej18]; rfl) dX4_carry_21 ?_
          refine lv_iload_n hx hb dX4_carry_22 rfl (lv_at hl 2 rfl) ?_
          refine lv_iload hx hb dX4_carry_23 (lv_at hl 6 rfl) ?_
          refine lv_iadd hx hb dX4_carry_25 ?_
          obtain ⟨h23, hf⟩ := dq_g hf
          refine va_iald (cA := y 1) (n := 12) (f := (c_places 1)) hx hb hK hP 5 1 rfl rfl h23 dX4_carry_26 ?_
          obtain ⟨h24, hf⟩ := dq_g hf
          refine dq_iast (cA := y 1) (n := 12) (f := c_carried_2) hx hb hK hP hD hS 7 1 rfl rfl h24 dX4_carry_27 (fun c_carried_25 ec_carried_25 H locs hP hD hS => ?_)
          have hf := dq_l hf c_carried_25 ec_carried_25
          clear ec_carried_25
          have hP : va_P D vwCl (w_X4 y a c_sorts c_sizes c_places c_carried_25) H := hP
          have hD : va_D A (w_X4 y a c_sorts c_sizes c_places c_carried_25) := hD
          obtain ⟨x26, ex26⟩ : ∃ z : Int32, z = (x1 + (1 : Int32)) := ⟨_, rfl⟩
          have hf := dq_l hf x26 ex26
          refine lv_iinc (v := x26) (lv' := [(6, .int x26), (0, .ref (a 0)), (1, .int n0), (2, .int n1), (3, .int n2), (4, .int n3), (5, .int n4)]) hx hb dX4_carry_28 hl (k := 6) rfl (by rw [ex26]; rfl) (by decide) rfl (fun ls hl => ?_)
          clear ex26
          refine lv_goto (tgt := 3) hx hb dX4_carry_31 (by decide) ?_
          exact I3 _ _ hf _ _ hP hD hS _ (lv_sub hl [1, 2, 3, 4, 5, 6, 0] rfl)
        · try rw [ej18] at hf
          refine dq_aldI (cA := y 4) (n := 3) (b := (a 6)) (f := (fun i => if i < 3 then some (a (4 + i)) else none)) hx hb hK hP 3 4 rfl rfl h13 (by rw [ej18]; rfl) dX4_carry_21 ?_
          refine lv_iload_n hx hb dX4_carry_22 rfl (lv_at hl 2 rfl) ?_
          refine lv_iload hx hb dX4_carry_23 (lv_at hl 6 rfl) ?_
          refine lv_iadd hx hb dX4_carry_25 ?_
          obtain ⟨h27, hf⟩ := dq_g hf
          refine va_iald (cA := y 1) (n := 12) (f := (c_places 2)) hx hb hK hP 6 1 rfl rfl h27 dX4_carry_26 ?_
          obtain ⟨h28, hf⟩ := dq_g hf
          refine dq_iast (cA := y 1) (n := 12) (f := c_carried_2) hx hb hK hP hD hS 7 1 rfl rfl h28 dX4_carry_27 (fun c_carried_29 ec_carried_29 H locs hP hD hS => ?_)
          have hf := dq_l hf c_carried_29 ec_carried_29
          clear ec_carried_29
          have hP : va_P D vwCl (w_X4 y a c_sorts c_sizes c_places c_carried_29) H := hP
          have hD : va_D A (w_X4 y a c_sorts c_sizes c_places c_carried_29) := hD
          obtain ⟨x30, ex30⟩ : ∃ z : Int32, z = (x1 + (1 : Int32)) := ⟨_, rfl⟩
          have hf := dq_l hf x30 ex30
          refine lv_iinc (v := x30) (lv' := [(6, .int x30), (0, .ref (a 0)), (1, .int n0), (2, .int n1), (3, .int n2), (4, .int n3), (5, .int n4)]) hx hb dX4_carry_28 hl (k := 6) rfl (by rw [ex30]; rfl) (by decide) rfl (fun ls hl => ?_)
          clear ex30
          refine lv_goto (tgt := 3) hx hb dX4_carry_31 (by decide) ?_
          exact I3 _ _ hf _ _ hP hD hS _ (lv_sub hl [1, 2, 3, 4, 5, 6, 0] rfl)
  exact J3 4096 _ _ hf _ _ hP hD hS _ (lv_sub hl [1, 2, 3, 4, 5, 6, 0] rfl)
