/-! the constructors of the small classes -/
def wrm (k : Nat) : Nat → UInt32 := fun i => if i < k then 1098907648 else 0
theorem wrm_0 : wrm 0 = fun _ => 0 := funext fun i => if_neg (Nat.not_lt_zero i)
theorem wrm_s {k : Nat} : vf_upd (wrm k) k 1098907648 = wrm (k + 1) := funext fun i => by
  unfold vf_upd wrm
  by_cases z : i = k
  · subst z
    rw [if_pos rfl, if_pos (by omega)]
  · rw [if_neg z]
    by_cases h : i < k
    · rw [if_pos h, if_pos (by omega)]
    · rw [if_neg h, if_neg (by omega)]
def wI_X1 : List Cond := .code yX1_init cX1_init 1 none :: wsL_law
theorem i_X1 (l : Launch) (D : va_G) (y : Nat → ClassId) (q0 : Nat) : Ci l D y yX1_init wI_X1 1 12 q0 (.inr (0, [.null, .null, .int 0])) (fun ad => w_X1 y ad 0 (fun _ => 0) (fun _ => 0)) 2 12 := by
  refine ci_head (cc := cX1_init) (nl := 1) (by decide) rfl rfl (Nat.le_of_ble_eq_true rfl) ?_
  intro p e s m below meth c A ls hx hb hr hml hown hlocks hin hts0 hA hAe hP hK hD hN hl
  have hts : ∀ w ∈ wsL_law, w.before [Value.ref q0].toArray s = true := fun w h => hts0 w (List.mem_cons_of_mem _ h)
  have hS : va_S A s.heap s.heap [] := va_S.rf
  have hl : lv_has ls 1 [(0, .ref q0)] := hl
  refine lv_aload_n hx hb dX1_init_0 rfl (lv_at hl 0 rfl) ?_
  refine W.objInit hx hb hown (hts _ wl_54) (hts _ wl_10) (hts _ wl_11) rfl (by rw [hml]; exact hl.1) rfl dX1_init_1 (Nat.le_of_ble_eq_true rfl) (Nat.le_of_ble_eq_true rfl) ?_
  refine W.eq (g2 := F0 m 4 ls []) rfl ?_
  refine lv_aload_n hx hb dX1_init_4 rfl (lv_at hl 0 rfl) ?_
  refine lv_bipush (v := 6) hx hb dX1_init_5 (by decide) ?_
  refine ci_naI (v := 6) (N' := 6) hx hb (hts _ wl_30) hK hP hD hS hA (by decide) (by decide) (by decide) (Nat.le_of_ble_eq_true rfl) (Nat.le_of_ble_eq_true rfl) dX1_init_7 (fun q1 H hP hD hS => ?_)
  have hP : va_P D vwCl [(q0, .inr (0, [.null, .null, .int 0])), (q1, .inl (y 1, 6, .inl (fun _ => 0)))] H := hP
  have hD : va_D A [(q0, .inr (0, [.null, .null, .int 0])), (q1, .inl (y 1, 6, .inl (fun _ => 0)))] := hD
  refine W.widen (k := 1) (n := 6) (Nat.le_of_ble_eq_true rfl) (Nat.le_of_ble_eq_true rfl) ?_
  refine va_putF (D := D) (ci := 0) (v := .ref q1) (ty := .array .int) (C := RX1) (T := TX1) (N := 3) hx hb hts iwX1 tyX1 tyX1_ok nmX1 hown hK hP hD hS 0 rfl rfl 0 (by decide) (hts _ wl_55) (fun _ h9 => h9) rfl hin rfl (tyX1_ok 0 (by decide)) rfl rfl (Nat.le_of_ble_eq_true rfl) dX1_init_9 (fun H locs hP hD hS => ?_)
  have hP : va_P D vwCl [(q0, .inr (0, [.ref q1, .null, .int 0])), (q1, .inl (y 1, 6, .inl (fun _ => 0)))] H := hP
  have hD : va_D A [(q0, .inr (0, [.ref q1, .null, .int 0])), (q1, .inl (y 1, 6, .inl (fun _ => 0)))] := hD
  refine lv_aload_n hx hb dX1_init_12 rfl (lv_at hl 0 rfl) ?_
  refine lv_bipush (v := 6) hx hb dX1_init_13 (by decide) ?_
  refine ci_naI (v := 6) (N' := 6) hx hb (hts _ wl_30) hK hP hD hS hA (by decide) (by decide) (by decide) (Nat.le_of_ble_eq_true rfl) (Nat.le_of_ble_eq_true rfl) dX1_init_15 (fun q2 H hP hD hS => ?_)
  have hP : va_P D vwCl [(q0, .inr (0, [.ref q1, .null, .int 0])), (q1, .inl (y 1, 6, .inl (fun _ => 0))), (q2, .inl (y 1, 6, .inl (fun _ => 0)))] H := hP
  have hD : va_D A [(q0, .inr (0, [.ref q1, .null, .int 0])), (q1, .inl (y 1, 6, .inl (fun _ => 0))), (q2, .inl (y 1, 6, .inl (fun _ => 0)))] := hD
  refine W.widen (k := 2) (n := 12) (Nat.le_of_ble_eq_true rfl) (Nat.le_of_ble_eq_true rfl) ?_
  refine va_putF (D := D) (ci := 0) (v := .ref q2) (ty := .array .int) (C := RX1) (T := TX1) (N := 3) hx hb hts iwX1 tyX1 tyX1_ok nmX1 hown hK hP hD hS 0 rfl rfl 1 (by decide) (hts _ wl_56) (fun _ h9 => h9) rfl hin rfl (tyX1_ok 1 (by decide)) rfl rfl (Nat.le_of_ble_eq_true rfl) dX1_init_17 (fun H locs hP hD hS => ?_)
  have hP : va_P D vwCl [(q0, .inr (0, [.ref q1, .ref q2, .int 0])), (q1, .inl (y 1, 6, .inl (fun _ => 0))), (q2, .inl (y 1, 6, .inl (fun _ => 0)))] H := hP
  have hD : va_D A [(q0, .inr (0, [.ref q1, .ref q2, .int 0])), (q1, .inl (y 1, 6, .inl (fun _ => 0))), (q2, .inl (y 1, 6, .inl (fun _ => 0)))] := hD
  exact ci_ret hx hb hr hlocks hAe (fun k => [q0, q1, q2].getD k 0) rfl hP hK hD hS dX1_init_20
def wI_X5 : List Cond := .code yX5_init cX5_init 1 none :: wsL_law
theorem i_X5 (l : Launch) (D : va_G) (y : Nat → ClassId) (q0 : Nat) : Ci l D y yX5_init wI_X5 1 12 q0 (.inr (4, [.null, .int 0])) (fun ad => w_X5 y ad 0 (fun _ => 0)) 1 96 := by
  refine ci_head (cc := cX5_init) (nl := 1) (by decide) rfl rfl (Nat.le_of_ble_eq_true rfl) ?_
  intro p e s m below meth c A ls hx hb hr hml hown hlocks hin hts0 hA hAe hP hK hD hN hl
  have hts : ∀ w ∈ wsL_law, w.before [Value.ref q0].toArray s = true := fun w h => hts0 w (List.mem_cons_of_mem _ h)
  have hS : va_S A s.heap s.heap [] := va_S.rf
  have hl : lv_has ls 1 [(0, .ref q0)] := hl
  refine lv_aload_n hx hb dX5_init_0 rfl (lv_at hl 0 rfl) ?_
  refine W.objInit hx hb hown (hts _ wl_66) (hts _ wl_10) (hts _ wl_11) rfl (by rw [hml]; exact hl.1) rfl dX5_init_1 (Nat.le_of_ble_eq_true rfl) (Nat.le_of_ble_eq_true rfl) ?_
  refine W.eq (g2 := F0 m 4 ls []) rfl ?_
  refine lv_aload_n hx hb dX5_init_4 rfl (lv_at hl 0 rfl) ?_
  refine lv_bipush (v := 96) hx hb dX5_init_5 (by decide) ?_
  refine ci_naI (v := 96) (N' := 96) hx hb (hts _ wl_30) hK hP hD hS hA (by decide) (by decide) (by decide) (Nat.le_of_ble_eq_true rfl) (Nat.le_of_ble_eq_true rfl) dX5_init_7 (fun q1 H hP hD hS => ?_)
  have hP : va_P D vwCl [(q0, .inr (4, [.null, .int 0])), (q1, .inl (y 1, 96, .inl (fun _ => 0)))] H := hP
  have hD : va_D A [(q0, .inr (4, [.null, .int 0])), (q1, .inl (y 1, 96, .inl (fun _ => 0)))] := hD
  refine W.widen (k := 1) (n := 96) (Nat.le_of_ble_eq_true rfl) (Nat.le_of_ble_eq_true rfl) ?_
  refine va_putF (D := D) (ci := 4) (v := .ref q1) (ty := .array .int) (C := RX5) (T := TX5) (N := 2) hx hb hts iwX5 tyX5 tyX5_ok nmX5 hown hK hP hD hS 0 rfl rfl 0 (by decide) (hts _ wl_67) (fun _ h9 => h9) rfl hin rfl (tyX5_ok 0 (by decide)) rfl rfl (Nat.le_of_ble_eq_true rfl) dX5_init_9 (fun H locs hP hD hS => ?_)
  have hP : va_P D vwCl [(q0, .inr (4, [.ref q1, .int 0])), (q1, .inl (y 1, 96, .inl (fun _ => 0)))] H := hP
  have hD : va_D A [(q0, .inr (4, [.ref q1, .int 0])), (q1, .inl (y 1, 96, .inl (fun _ => 0)))] := hD
  exact ci_ret hx hb hr hlocks hAe (fun k => [q0, q1].getD k 0) rfl hP hK hD hS dX5_init_12
def wI_X2 : List Cond := .code yX2_init cX2_init 2 none :: wsL_law
theorem i_X2 (l : Launch) (D : va_G) (y : Nat → ClassId) (q0 : Nat) : Ci l D y yX2_init wI_X2 2 32 q0 (.inr (1, [.null, .long 0, .int 0, .null, .null, .null, .null, .int 0, .int 0, .null, .null, .int 0, .int 0, .int 0, .null])) (fun ad => w_X2 y ad 0 0 0 0 0 0 0 (wrm 36) (fun _ => 0) (fun _ => 0) (fun _ => 0) (fun _ => 0) (fun _ => 0) (fun _ => 0) 0 (fun _ => 0) (fun _ => 0)) 10 83 := by
  refine ci_head (cc := cX2_init) (nl := 2) (by decide) rfl rfl (Nat.le_of_ble_eq_true rfl) ?_
  intro p e s m below meth c A ls hx hb hr hml hown hlocks hin hts0 hA hAe hP hK hD hN hl
  have hts : ∀ w ∈ wsL_law, w.before [Value.ref q0].toArray s = true := fun w h => hts0 w (List.mem_cons_of_mem _ h)
  have hS : va_S A s.heap s.heap [] := va_S.rf
  have hl : lv_has ls 2 [(0, .ref q0)] := hl
  refine lv_aload_n hx hb dX2_init_0 rfl (lv_at hl 0 rfl) ?_
  refine W.objInit hx hb hown (hts _ wl_38) (hts _ wl_10) (hts _ wl_11) rfl (by rw [hml]; exact hl.1) rfl dX2_init_1 (Nat.le_of_ble_eq_true rfl) (Nat.le_of_ble_eq_true rfl) ?_
  refine W.eq (g2 := F0 m 4 ls []) rfl ?_
  refine lv_aload_n hx hb dX2_init_4 rfl (lv_at hl 0 rfl) ?_
  refine lv_bipush (v := 36) hx hb dX2_init_5 (by decide) ?_
  refine ci_naF (v := 36) (N' := 36) hx hb (hts _ wl_39) hK hP hD hS hA (by decide) (by decide) (by decide) (Nat.le_of_ble_eq_true rfl) (Nat.le_of_ble_eq_true rfl) dX2_init_7 (fun q1 H hP hD hS => ?_)
  have hP : va_P D vwCl [(q0, .inr (1, [.null, .long 0, .int 0, .null, .null, .null, .null, .int 0, .int 0, .null, .null, .int 0, .int 0, .int 0, .null])), (q1, .inl (y 0, 36, .inr (.inr (.inl (fun _ => 0)))))] H := hP
  have hD : va_D A [(q0, .inr (1, [.null, .long 0, .int 0, .null, .null, .null, .null, .int 0, .int 0, .null, .null, .int 0, .int 0, .int 0, .null])), (q1, .inl (y 0, 36, .inr (.inr (.inl (fun _ => 0)))))] := hD
  refine W.widen (k := 1) (n := 36) (Nat.le_of_ble_eq_true rfl) (Nat.le_of_ble_eq_true rfl) ?_
  refine va_putF (D := D) (ci := 1) (v := .ref q1) (ty := .array .float) (C := RX2) (T := TX2) (N := 15) hx hb hts iwX2 tyX2 tyX2_ok nmX2 hown hK hP hD hS 0 rfl rfl 0 (by decide) (hts _ wl_40) (fun _ h9 => h9) rfl hin rfl (tyX2_ok 0 (by decide)) rfl rfl (Nat.le_of_ble_eq_true rfl) dX2_init_9 (fun H locs hP hD hS => ?_)
  have hP : va_P D vwCl [(q0, .inr (1, [.ref q1, .long 0, .int 0, .null, .null, .null, .null, .int 0, .int 0, .null, .null, .int 0, .int 0, .int 0, .null])), (q1, .inl (y 0, 36, .inr (.inr (.inl (fun _ => 0)))))] H := hP
  have hD : va_D A [(q0, .inr (1, [.ref q1, .long 0, .int 0, .null, .null, .null, .null, .int 0, .int 0, .null, .null, .int 0, .int 0, .int 0, .null])), (q1, .inl (y 0, 36, .inr (.inr (.inl (fun _ => 0)))))] := hD
  refine lv_aload_n hx hb dX2_init_12 rfl (lv_at hl 0 rfl) ?_
  refine lv_iconst (v := 5) hx hb dX2_init_13 (by decide) ?_
  refine ci_naI (v := 5) (N' := 5) hx hb (hts _ wl_30) hK hP hD hS hA (by decide) (by decide) (by decide) (Nat.le_of_ble_eq_true rfl) (Nat.le_of_ble_eq_true rfl) dX2_init_14 (fun q2 H hP hD hS => ?_)
  have hP : va_P D vwCl [(q0, .inr (1, [.ref q1, .long 0, .int 0, .null, .null, .null, .null, .int 0, .int 0, .null, .null, .int 0, .int 0, .int 0, .null])), (q1, .inl (y 0, 36, .inr (.inr (.inl (fun _ => 0))))), (q2, .inl (y 1, 5, .inl (fun _ => 0)))] H := hP
  have hD : va_D A [(q0, .inr (1, [.ref q1, .long 0, .int 0, .null, .null, .null, .null, .int 0, .int 0, .null, .null, .int 0, .int 0, .int 0, .null])), (q1, .inl (y 0, 36, .inr (.inr (.inl (fun _ => 0))))), (q2, .inl (y 1, 5, .inl (fun _ => 0)))] := hD
  refine W.widen (k := 2) (n := 41) (Nat.le_of_ble_eq_true rfl) (Nat.le_of_ble_eq_true rfl) ?_
  refine va_putF (D := D) (ci := 1) (v := .ref q2) (ty := .array .int) (C := RX2) (T := TX2) (N := 15) hx hb hts iwX2 tyX2 tyX2_ok nmX2 hown hK hP hD hS 0 rfl rfl 3 (by decide) (hts _ wl_41) (fun _ h9 => h9) rfl hin rfl (tyX2_ok 3 (by decide)) rfl rfl (Nat.le_of_ble_eq_true rfl) dX2_init_16 (fun H locs hP hD hS => ?_)
  have hP : va_P D vwCl [(q0, .inr (1, [.ref q1, .long 0, .int 0, .ref q2, .null, .null, .null, .int 0, .int 0, .null, .null, .int 0, .int 0, .int 0, .null])), (q1, .inl (y 0, 36, .inr (.inr (.inl (fun _ => 0))))), (q2, .inl (y 1, 5, .inl (fun _ => 0)))] H := hP
  have hD : va_D A [(q0, .inr (1, [.ref q1, .long 0, .int 0, .ref q2, .null, .null, .null, .int 0, .int 0, .null, .null, .int 0, .int 0, .int 0, .null])), (q1, .inl (y 0, 36, .inr (.inr (.inl (fun _ => 0))))), (q2, .inl (y 1, 5, .inl (fun _ => 0)))] := hD
  refine lv_aload_n hx hb dX2_init_19 rfl (lv_at hl 0 rfl) ?_
  refine lv_iconst (v := 5) hx hb dX2_init_20 (by decide) ?_
  refine ci_naI (v := 5) (N' := 5) hx hb (hts _ wl_30) hK hP hD hS hA (by decide) (by decide) (by decide) (Nat.le_of_ble_eq_true rfl) (Nat.le_of_ble_eq_true rfl) dX2_init_21 (fun q3 H hP hD hS => ?_)
  have hP : va_P D vwCl [(q0, .inr (1, [.ref q1, .long 0, .int 0, .ref q2, .null, .null, .null, .int 0, .int 0, .null, .null, .int 0, .int 0, .int 0, .null])), (q1, .inl (y 0, 36, .inr (.inr (.inl (fun _ => 0))))), (q2, .inl (y 1, 5, .inl (fun _ => 0))), (q3, .inl (y 1, 5, .inl (fun _ => 0)))] H := hP
  have hD : va_D A [(q0, .inr (1, [.ref q1, .long 0, .int 0, .ref q2, .null, .null, .null, .int 0, .int 0, .null, .null, .int 0, .int 0, .int 0, .null])), (q1, .inl (y 0, 36, .inr (.inr (.inl (fun _ => 0))))), (q2, .inl (y 1, 5, .inl (fun _ => 0))), (q3, .inl (y 1, 5, .inl (fun _ => 0)))] := hD
  refine W.widen (k := 3) (n := 46) (Nat.le_of_ble_eq_true rfl) (Nat.le_of_ble_eq_true rfl) ?_
  refine va_putF (D := D) (ci := 1) (v := .ref q3) (ty := .array .int) (C := RX2) (T := TX2) (N := 15) hx hb hts iwX2 tyX2 tyX2_ok nmX2 hown hK hP hD hS 0 rfl rfl 4 (by decide) (hts _ wl_42) (fun _ h9 => h9) rfl hin rfl (tyX2_ok 4 (by decide)) rfl rfl (Nat.le_of_ble_eq_true rfl) dX2_init_23 (fun H locs hP hD hS => ?_)
  have hP : va_P D vwCl [(q0, .inr (1, [.ref q1, .long 0, .int 0, .ref q2, .ref q3, .null, .null, .int 0, .int 0, .null, .null, .int 0, .int 0, .int 0, .null])), (q1, .inl (y 0, 36, .inr (.inr (.inl (fun _ => 0))))), (q2, .inl (y 1, 5, .inl (fun _ => 0))), (q3, .inl (y 1, 5, .inl (fun _ => 0)))] H := hP
  have hD : va_D A [(q0, .inr (1, [.ref q1, .long 0, .int 0, .ref q2, .ref q3, .null, .null, .int 0, .int 0, .null, .null, .int 0, .int 0, .int 0, .null])), (q1, .inl (y 0, 36, .inr (.inr (.inl (fun _ => 0))))), (q2, .inl (y 1, 5, .inl (fun _ => 0))), (q3, .inl (y 1, 5, .inl (fun _ => 0)))] := hD
  refine lv_aload_n hx hb dX2_init_26 rfl (lv_at hl 0 rfl) ?_
  refine lv_iconst (v := 5) hx hb dX2_init_27 (by decide) ?_
  refine ci_naI (v := 5) (N' := 5) hx hb (hts _ wl_30) hK hP hD hS hA (by decide) (by decide) (by decide) (Nat.le_of_ble_eq_true rfl) (Nat.le_of_ble_eq_true rfl) dX2_init_28 (fun q4 H hP hD hS => ?_)
  have hP : va_P D vwCl [(q0, .inr (1, [.ref q1, .long 0, .int 0, .ref q2, .ref q3, .null, .null, .int 0, .int 0, .null, .null, .int 0, .int 0, .int 0, .null])), (q1, .inl (y 0, 36, .inr (.inr (.inl (fun _ => 0))))), (q2, .inl (y 1, 5, .inl (fun _ => 0))), (q3, .inl (y 1, 5, .inl (fun _ => 0))), (q4, .inl (y 1, 5, .inl (fun _ => 0)))] H := hP
  have hD : va_D A [(q0, .inr (1, [.ref q1, .long 0, .int 0, .ref q2, .ref q3, .null, .null, .int 0, .int 0, .null, .null, .int 0, .int 0, .int 0, .null])), (q1, .inl (y 0, 36, .inr (.inr (.inl (fun _ => 0))))), (q2, .inl (y 1, 5, .inl (fun _ => 0))), (q3, .inl (y 1, 5, .inl (fun _ => 0))), (q4, .inl (y 1, 5, .inl (fun _ => 0)))] := hD
  refine W.widen (k := 4) (n := 51) (Nat.le_of_ble_eq_true rfl) (Nat.le_of_ble_eq_true rfl) ?_
  refine va_putF (D := D) (ci := 1) (v := .ref q4) (ty := .array .int) (C := RX2) (T := TX2) (N := 15) hx hb hts iwX2 tyX2 tyX2_ok nmX2 hown hK hP hD hS 0 rfl rfl 5 (by decide) (hts _ wl_43) (fun _ h9 => h9) rfl hin rfl (tyX2_ok 5 (by decide)) rfl rfl (Nat.le_of_ble_eq_true rfl) dX2_init_30 (fun H locs hP hD hS => ?_)
  have hP : va_P D vwCl [(q0, .inr (1, [.ref q1, .long 0, .int 0, .ref q2, .ref q3, .ref q4, .null, .int 0, .int 0, .null, .null, .int 0, .int 0, .int 0, .null])), (q1, .inl (y 0, 36, .inr (.inr (.inl (fun _ => 0))))), (q2, .inl (y 1, 5, .inl (fun _ => 0))), (q3, .inl (y 1, 5, .inl (fun _ => 0))), (q4, .inl (y 1, 5, .inl (fun _ => 0)))] H := hP
  have hD : va_D A [(q0, .inr (1, [.ref q1, .long 0, .int 0, .ref q2, .ref q3, .ref q4, .null, .int 0, .int 0, .null, .null, .int 0, .int 0, .int 0, .null])), (q1, .inl (y 0, 36, .inr (.inr (.inl (fun _ => 0))))), (q2, .inl (y 1, 5, .inl (fun _ => 0))), (q3, .inl (y 1, 5, .inl (fun _ => 0))), (q4, .inl (y 1, 5, .inl (fun _ => 0)))] := hD
  refine lv_aload_n hx hb dX2_init_33 rfl (lv_at hl 0 rfl) ?_
  refine lv_iconst (v := 5) hx hb dX2_init_34 (by decide) ?_
  refine ci_naI (v := 5) (N' := 5) hx hb (hts _ wl_30) hK hP hD hS hA (by decide) (by decide) (by decide) (Nat.le_of_ble_eq_true rfl) (Nat.le_of_ble_eq_true rfl) dX2_init_35 (fun q5 H hP hD hS => ?_)
  have hP : va_P D vwCl [(q0, .inr (1, [.ref q1, .long 0, .int 0, .ref q2, .ref q3, .ref q4, .null, .int 0, .int 0, .null, .null, .int 0, .int 0, .int 0, .null])), (q1, .inl (y 0, 36, .inr (.inr (.inl (fun _ => 0))))), (q2, .inl (y 1, 5, .inl (fun _ => 0))), (q3, .inl (y 1, 5, .inl (fun _ => 0))), (q4, .inl (y 1, 5, .inl (fun _ => 0))), (q5, .inl (y 1, 5, .inl (fun _ => 0)))] H := hP
  have hD : va_D A [(q0, .inr (1, [.ref q1, .long 0, .int 0, .ref q2, .ref q3, .ref q4, .null, .int 0, .int 0, .null, .null, .int 0, .int 0, .int 0, .null])), (q1, .inl (y 0, 36, .inr (.inr (.inl (fun _ => 0))))), (q2, .inl (y 1, 5, .inl (fun _ => 0))), (q3, .inl (y 1, 5, .inl (fun _ => 0))), (q4, .inl (y 1, 5, .inl (fun _ => 0))), (q5, .inl (y 1, 5, .inl (fun _ => 0)))] := hD
  refine W.widen (k := 5) (n := 56) (Nat.le_of_ble_eq_true rfl) (Nat.le_of_ble_eq_true rfl) ?_
  refine va_putF (D := D) (ci := 1) (v := .ref q5) (ty := .array .int) (C := RX2) (T := TX2) (N := 15) hx hb hts iwX2 tyX2 tyX2_ok nmX2 hown hK hP hD hS 0 rfl rfl 6 (by decide) (hts _ wl_44) (fun _ h9 => h9) rfl hin rfl (tyX2_ok 6 (by decide)) rfl rfl (Nat.le_of_ble_eq_true rfl) dX2_init_37 (fun H locs hP hD hS => ?_)
  have hP : va_P D vwCl [(q0, .inr (1, [.ref q1, .long 0, .int 0, .ref q2, .ref q3, .ref q4, .ref q5, .int 0, .int 0, .null, .null, .int 0, .int 0, .int 0, .null])), (q1, .inl (y 0, 36, .inr (.inr (.inl (fun _ => 0))))), (q2, .inl (y 1, 5, .inl (fun _ => 0))), (q3, .inl (y 1, 5, .inl (fun _ => 0))), (q4, .inl (y 1, 5, .inl (fun _ => 0))), (q5, .inl (y 1, 5, .inl (fun _ => 0)))] H := hP
  have hD : va_D A [(q0, .inr (1, [.ref q1, .long 0, .int 0, .ref q2, .ref q3, .ref q4, .ref q5, .int 0, .int 0, .null, .null, .int 0, .int 0, .int 0, .null])), (q1, .inl (y 0, 36, .inr (.inr (.inl (fun _ => 0))))), (q2, .inl (y 1, 5, .inl (fun _ => 0))), (q3, .inl (y 1, 5, .inl (fun _ => 0))), (q4, .inl (y 1, 5, .inl (fun _ => 0))), (q5, .inl (y 1, 5, .inl (fun _ => 0)))] := hD
  refine lv_aload_n hx hb dX2_init_40 rfl (lv_at hl 0 rfl) ?_
  refine lv_bipush (v := 6) hx hb dX2_init_41 (by decide) ?_
  refine ci_naI (v := 6) (N' := 6) hx hb (hts _ wl_30) hK hP hD hS hA (by decide) (by decide) (by decide) (Nat.le_of_ble_eq_true rfl) (Nat.le_of_ble_eq_true rfl) dX2_init_43 (fun q6 H hP hD hS => ?_)
  have hP : va_P D vwCl [(q0, .inr (1, [.ref q1, .long 0, .int 0, .ref q2, .ref q3, .ref q4, .ref q5, .int 0, .int 0, .null, .null, .int 0, .int 0, .int 0, .null])), (q1, .inl (y 0, 36, .inr (.inr (.inl (fun _ => 0))))), (q2, .inl (y 1, 5, .inl (fun _ => 0))), (q3, .inl (y 1, 5, .inl (fun _ => 0))), (q4, .inl (y 1, 5, .inl (fun _ => 0))), (q5, .inl (y 1, 5, .inl (fun _ => 0))), (q6, .inl (y 1, 6, .inl (fun _ => 0)))] H := hP
  have hD : va_D A [(q0, .inr (1, [.ref q1, .long 0, .int 0, .ref q2, .ref q3, .ref q4, .ref q5, .int 0, .int 0, .null, .null, .int 0, .int 0, .int 0, .null])), (q1, .inl (y 0, 36, .inr (.inr (.inl (fun _ => 0))))), (q2, .inl (y 1, 5, .inl (fun _ => 0))), (q3, .inl (y 1, 5, .inl (fun _ => 0))), (q4, .inl (y 1, 5, .inl (fun _ => 0))), (q5, .inl (y 1, 5, .inl (fun _ => 0))), (q6, .inl (y 1, 6, .inl (fun _ => 0)))] := hD
  refine W.widen (k := 6) (n := 62) (Nat.le_of_ble_eq_true rfl) (Nat.le_of_ble_eq_true rfl) ?_
  refine va_putF (D := D) (ci := 1) (v := .ref q6) (ty := .array .int) (C := RX2) (T := TX2) (N := 15) hx hb hts iwX2 tyX2 tyX2_ok nmX2 hown hK hP hD hS 0 rfl rfl 9 (by decide) (hts _ wl_45) (fun _ h9 => h9) rfl hin rfl (tyX2_ok 9 (by decide)) rfl rfl (Nat.le_of_ble_eq_true rfl) dX2_init_45 (fun H locs hP hD hS => ?_)
  have hP : va_P D vwCl [(q0, .inr (1, [.ref q1, .long 0, .int 0, .ref q2, .ref q3, .ref q4, .ref q5, .int 0, .int 0, .ref q6, .null, .int 0, .int 0, .int 0, .null])), (q1, .inl (y 0, 36, .inr (.inr (.inl (fun _ => 0))))), (q2, .inl (y 1, 5, .inl (fun _ => 0))), (q3, .inl (y 1, 5, .inl (fun _ => 0))), (q4, .inl (y 1, 5, .inl (fun _ => 0))), (q5, .inl (y 1, 5, .inl (fun _ => 0))), (q6, .inl (y 1, 6, .inl (fun _ => 0)))] H := hP
  have hD : va_D A [(q0, .inr (1, [.ref q1, .long 0, .int 0, .ref q2, .ref q3, .ref q4, .ref q5, .int 0, .int 0, .ref q6, .null, .int 0, .int 0, .int 0, .null])), (q1, .inl (y 0, 36, .inr (.inr (.inl (fun _ => 0))))), (q2, .inl (y 1, 5, .inl (fun _ => 0))), (q3, .inl (y 1, 5, .inl (fun _ => 0))), (q4, .inl (y 1, 5, .inl (fun _ => 0))), (q5, .inl (y 1, 5, .inl (fun _ => 0))), (q6, .inl (y 1, 6, .inl (fun _ => 0)))] := hD
  refine lv_aload_n hx hb dX2_init_48 rfl (lv_at hl 0 rfl) ?_
  refine lv_bipush (v := 6) hx hb dX2_init_49 (by decide) ?_
  refine ci_naI (v := 6) (N' := 6) hx hb (hts _ wl_30) hK hP hD hS hA (by decide) (by decide) (by decide) (Nat.le_of_ble_eq_true rfl) (Nat.le_of_ble_eq_true rfl) dX2_init_51 (fun q7 H hP hD hS => ?_)
  have hP : va_P D vwCl [(q0, .inr (1, [.ref q1, .long 0, .int 0, .ref q2, .ref q3, .ref q4, .ref q5, .int 0, .int 0, .ref q6, .null, .int 0, .int 0, .int 0, .null])), (q1, .inl (y 0, 36, .inr (.inr (.inl (fun _ => 0))))), (q2, .inl (y 1, 5, .inl (fun _ => 0))), (q3, .inl (y 1, 5, .inl (fun _ => 0))), (q4, .inl (y 1, 5, .inl (fun _ => 0))), (q5, .inl (y 1, 5, .inl (fun _ => 0))), (q6, .inl (y 1, 6, .inl (fun _ => 0))), (q7, .inl (y 1, 6, .inl (fun _ => 0)))] H := hP
  have hD : va_D A [(q0, .inr (1, [.ref q1, .long 0, .int 0, .ref q2, .ref q3, .ref q4, .ref q5, .int 0, .int 0, .ref q6, .null, .int 0, .int 0, .int 0, .null])), (q1, .inl (y 0, 36, .inr (.inr (.inl (fun _ => 0))))), (q2, .inl (y 1, 5, .inl (fun _ => 0))), (q3, .inl (y 1, 5, .inl (fun _ => 0))), (q4, .inl (y 1, 5, .inl (fun _ => 0))), (q5, .inl (y 1, 5, .inl (fun _ => 0))), (q6, .inl (y 1, 6, .inl (fun _ => 0))), (q7, .inl (y 1, 6, .inl (fun _ => 0)))] := hD
  refine W.widen (k := 7) (n := 68) (Nat.le_of_ble_eq_true rfl) (Nat.le_of_ble_eq_true rfl) ?_
  refine va_putF (D := D) (ci := 1) (v := .ref q7) (ty := .array .int) (C := RX2) (T := TX2) (N := 15) hx hb hts iwX2 tyX2 tyX2_ok nmX2 hown hK hP hD hS 0 rfl rfl 10 (by decide) (hts _ wl_46) (fun _ h9 => h9) rfl hin rfl (tyX2_ok 10 (by decide)) rfl rfl (Nat.le_of_ble_eq_true rfl) dX2_init_53 (fun H locs hP hD hS => ?_)
  have hP : va_P D vwCl [(q0, .inr (1, [.ref q1, .long 0, .int 0, .ref q2, .ref q3, .ref q4, .ref q5, .int 0, .int 0, .ref q6, .ref q7, .int 0, .int 0, .int 0, .null])), (q1, .inl (y 0, 36, .inr (.inr (.inl (fun _ => 0))))), (q2, .inl (y 1, 5, .inl (fun _ => 0))), (q3, .inl (y 1, 5, .inl (fun _ => 0))), (q4, .inl (y 1, 5, .inl (fun _ => 0))), (q5, .inl (y 1, 5, .inl (fun _ => 0))), (q6, .inl (y 1, 6, .inl (fun _ => 0))), (q7, .inl (y 1, 6, .inl (fun _ => 0)))] H := hP
  have hD : va_D A [(q0, .inr (1, [.ref q1, .long 0, .int 0, .ref q2, .ref q3, .ref q4, .ref q5, .int 0, .int 0, .ref q6, .ref q7, .int 0, .int 0, .int 0, .null])), (q1, .inl (y 0, 36, .inr (.inr (.inl (fun _ => 0))))), (q2, .inl (y 1, 5, .inl (fun _ => 0))), (q3, .inl (y 1, 5, .inl (fun _ => 0))), (q4, .inl (y 1, 5, .inl (fun _ => 0))), (q5, .inl (y 1, 5, .inl (fun _ => 0))), (q6, .inl (y 1, 6, .inl (fun _ => 0))), (q7, .inl (y 1, 6, .inl (fun _ => 0)))] := hD
  refine lv_aload_n hx hb dX2_init_56 rfl (lv_at hl 0 rfl) ?_
  refine va_new (ci := 0) (fs := [.null, .null, .int 0]) (C := RX1) (T := TX1) (N := 3) hx hb hts iwX1 tyX1 tyX1_ok hown (hts _ wl_47) (hts _ wl_48) (hts _ wl_49) hK hP hD hS hA rfl (fun j hj => by rcases (show j = 0 ∨ j = 1 ∨ j = 2 by omega) with rfl | rfl | rfl <;> rfl) (Nat.le_of_ble_eq_true rfl) (Nat.le_of_ble_eq_true rfl) dX2_init_57 (fun q8 H hP hD hS => ?_)
  refine W.widen (k := 8) (n := 71) (Nat.le_of_ble_eq_true rfl) (Nat.le_of_ble_eq_true rfl) ?_
  refine lv_dup hx hb dX2_init_60 rfl ?_
  refine ci_callN (own := RX2) (wr := [(q0, .inr (1, [.ref q1, .long 0, .int 0, .ref q2, .ref q3, .ref q4, .ref q5, .int 0, .int 0, .ref q6, .ref q7, .int 0, .int 0, .int 0, .null])), (q1, .inl (y 0, 36, .inr (.inr (.inl (fun _ => 0))))), (q2, .inl (y 1, 5, .inl (fun _ => 0))), (q3, .inl (y 1, 5, .inl (fun _ => 0))), (q4, .inl (y 1, 5, .inl (fun _ => 0))), (q5, .inl (y 1, 5, .inl (fun _ => 0))), (q6, .inl (y 1, 6, .inl (fun _ => 0))), (q7, .inl (y 1, 6, .inl (fun _ => 0)))]) (rest := [.ref q8, .ref q0]) ⟨hx, hb, hml, hown, hts⟩ (i_X1 l D y q8) ⟨va_cnB 0 hts (gA_I wl_53) rfl rfl rfl hN.1 (hts _ wl_49) (by decide +kernel) ⟨Nat.le_of_ble_eq_true rfl, Nat.le_of_ble_eq_true rfl⟩, rfl, hts _ wl_52⟩ hl.1 rfl (Nat.le_of_ble_eq_true rfl) dX2_init_61 ⟨Nat.le_of_ble_eq_true rfl, Nat.le_of_ble_eq_true rfl⟩ hK hN hP hD hS hA (fun H locs ad8 had8 hPn hDn hSn => ?_)
  subst had8
  have hP : va_P D vwCl [(q0, .inr (1, [.ref q1, .long 0, .int 0, .ref q2, .ref q3, .ref q4, .ref q5, .int 0, .int 0, .ref q6, .ref q7, .int 0, .int 0, .int 0, .null])), (q1, .inl (y 0, 36, .inr (.inr (.inl (fun _ => 0))))), (q2, .inl (y 1, 5, .inl (fun _ => 0))), (q3, .inl (y 1, 5, .inl (fun _ => 0))), (q4, .inl (y 1, 5, .inl (fun _ => 0))), (q5, .inl (y 1, 5, .inl (fun _ => 0))), (q6, .inl (y 1, 6, .inl (fun _ => 0))), (q7, .inl (y 1, 6, .inl (fun _ => 0))), ((ad8 0), .inr (0, [.ref (ad8 1), .ref (ad8 2), .int 0])), ((ad8 1), .inl (y 1, 6, .inl (fun _ => 0))), ((ad8 2), .inl (y 1, 6, .inl (fun _ => 0)))] H := hPn
  have hD : va_D A [(q0, .inr (1, [.ref q1, .long 0, .int 0, .ref q2, .ref q3, .ref q4, .ref q5, .int 0, .int 0, .ref q6, .ref q7, .int 0, .int 0, .int 0, .null])), (q1, .inl (y 0, 36, .inr (.inr (.inl (fun _ => 0))))), (q2, .inl (y 1, 5, .inl (fun _ => 0))), (q3, .inl (y 1, 5, .inl (fun _ => 0))), (q4, .inl (y 1, 5, .inl (fun _ => 0))), (q5, .inl (y 1, 5, .inl (fun _ => 0))), (q6, .inl (y 1, 6, .inl (fun _ => 0))), (q7, .inl (y 1, 6, .inl (fun _ => 0))), ((ad8 0), .inr (0, [.ref (ad8 1), .ref (ad8 2), .int 0])), ((ad8 1), .inl (y 1, 6, .inl (fun _ => 0))), ((ad8 2), .inl (y 1, 6, .inl (fun _ => 0)))] := hDn
  have hS := hSn
  refine W.widen (k := 10) (n := 83) (Nat.le_of_ble_eq_true rfl) (Nat.le_of_ble_eq_true rfl) ?_
  refine va_putF (D := D) (ci := 1) (v := .ref (ad8 0)) (ty := .object "DraughtsTake$Hearth") (C := RX2) (T := TX2) (N := 15) hx hb hts iwX2 tyX2 tyX2_ok nmX2 hown hK hP hD hS 0 rfl rfl 14 (by decide) (hts _ wl_50) (fun _ h9 => h9) rfl hin rfl (tyX2_ok 14 (by decide)) rfl rfl (Nat.le_of_ble_eq_true rfl) dX2_init_64 (fun H locs hP hD hS => ?_)
  have hP : va_P D vwCl [(q0, .inr (1, [.ref q1, .long 0, .int 0, .ref q2, .ref q3, .ref q4, .ref q5, .int 0, .int 0, .ref q6, .ref q7, .int 0, .int 0, .int 0, .ref (ad8 0)])), (q1, .inl (y 0, 36, .inr (.inr (.inl (fun _ => 0))))), (q2, .inl (y 1, 5, .inl (fun _ => 0))), (q3, .inl (y 1, 5, .inl (fun _ => 0))), (q4, .inl (y 1, 5, .inl (fun _ => 0))), (q5, .inl (y 1, 5, .inl (fun _ => 0))), (q6, .inl (y 1, 6, .inl (fun _ => 0))), (q7, .inl (y 1, 6, .inl (fun _ => 0))), ((ad8 0), .inr (0, [.ref (ad8 1), .ref (ad8 2), .int 0])), ((ad8 1), .inl (y 1, 6, .inl (fun _ => 0))), ((ad8 2), .inl (y 1, 6, .inl (fun _ => 0)))] H := hP
  have hD : va_D A [(q0, .inr (1, [.ref q1, .long 0, .int 0, .ref q2, .ref q3, .ref q4, .ref q5, .int 0, .int 0, .ref q6, .ref q7, .int 0, .int 0, .int 0, .ref (ad8 0)])), (q1, .inl (y 0, 36, .inr (.inr (.inl (fun _ => 0))))), (q2, .inl (y 1, 5, .inl (fun _ => 0))), (q3, .inl (y 1, 5, .inl (fun _ => 0))), (q4, .inl (y 1, 5, .inl (fun _ => 0))), (q5, .inl (y 1, 5, .inl (fun _ => 0))), (q6, .inl (y 1, 6, .inl (fun _ => 0))), (q7, .inl (y 1, 6, .inl (fun _ => 0))), ((ad8 0), .inr (0, [.ref (ad8 1), .ref (ad8 2), .int 0])), ((ad8 1), .inl (y 1, 6, .inl (fun _ => 0))), ((ad8 2), .inl (y 1, 6, .inl (fun _ => 0)))] := hD
  refine lv_iconst (v := 0) hx hb dX2_init_67 (by decide) ?_
  refine lv_istore_n (lv' := [(1, .int 0), (0, .ref q0)]) hx hb dX2_init_68 rfl hl (by decide) rfl (fun ls hl => ?_)
  have J : ∀ (d k : Nat) (x : Int32) (f : Nat → UInt32), k + d = 36 → x = nI k → f = wrm k → ∀ (H : Heap) (locs : List Loc) (ls : Array Slot), va_P D vwCl [(q0, .inr (1, [.ref q1, .long 0, .int 0, .ref q2, .ref q3, .ref q4, .ref q5, .int 0, .int 0, .ref q6, .ref q7, .int 0, .int 0, .int 0, .ref (ad8 0)])), (q1, .inl (y 0, 36, .inr (.inr (.inl f)))), (q2, .inl (y 1, 5, .inl (fun _ => 0))), (q3, .inl (y 1, 5, .inl (fun _ => 0))), (q4, .inl (y 1, 5, .inl (fun _ => 0))), (q5, .inl (y 1, 5, .inl (fun _ => 0))), (q6, .inl (y 1, 6, .inl (fun _ => 0))), (q7, .inl (y 1, 6, .inl (fun _ => 0))), ((ad8 0), .inr (0, [.ref (ad8 1), .ref (ad8 2), .int 0])), ((ad8 1), .inl (y 1, 6, .inl (fun _ => 0))), ((ad8 2), .inl (y 1, 6, .inl (fun _ => 0)))] H → va_D A [(q0, .inr (1, [.ref q1, .long 0, .int 0, .ref q2, .ref q3, .ref q4, .ref q5, .int 0, .int 0, .ref q6, .ref q7, .int 0, .int 0, .int 0, .ref (ad8 0)])), (q1, .inl (y 0, 36, .inr (.inr (.inl f)))), (q2, .inl (y 1, 5, .inl (fun _ => 0))), (q3, .inl (y 1, 5, .inl (fun _ => 0))), (q4, .inl (y 1, 5, .inl (fun _ => 0))), (q5, .inl (y 1, 5, .inl (fun _ => 0))), (q6, .inl (y 1, 6, .inl (fun _ => 0))), (q7, .inl (y 1, 6, .inl (fun _ => 0))), ((ad8 0), .inr (0, [.ref (ad8 1), .ref (ad8 2), .int 0])), ((ad8 1), .inl (y 1, 6, .inl (fun _ => 0))), ((ad8 2), .inl (y 1, 6, .inl (fun _ => 0)))] → va_S A s.heap H locs → lv_has ls 2 [(0, .ref q0), (1, .int x)] → W p l e ({ frames := 2, cells := 10, slots := 83, locals := 32 } : Room) s m [Value.ref q0].toArray below meth c H locs 10 83 (MQ below (dQn D y s.heap.size [(q0, .inr (1, [.null, .long 0, .int 0, .null, .null, .null, .null, .int 0, .int 0, .null, .null, .int 0, .int 0, .int 0, .null]))] q0 (fun ad => w_X2 y ad 0 0 0 0 0 0 0 (wrm 36) (fun _ => 0) (fun _ => 0) (fun _ => 0) (fun _ => 0) (fun _ => 0) (fun _ => 0) 0 (fun _ => 0) (fun _ => 0))) [Value.ref q0].toArray s 10 83 A) (F0 m 69 ls []) := by
    intro d
    induction d with
    | zero =>
      intro k x f hk hx1 hf H locs ls hP hD hS hl
      refine lv_iload_n hx hb dX2_init_69 rfl (lv_at hl 1 rfl) ?_
      refine lv_bipush (v := 36) hx hb dX2_init_70 (by decide) ?_
      refine lv_icmp_ge (tgt := 89) hx hb dX2_init_72 (by decide) (fun cc => ?_) (fun cc => ?_)
      · have e : k = 36 := by omega
        subst e hf
        exact ci_ret hx hb hr hlocks hAe (fun k => [q0, q1, q2, q3, q4, q5, q6, q7, (ad8 0), (ad8 1), (ad8 2)].getD k 0) rfl hP hK hD hS dX2_init_89
      · exact absurd (by rw [hx1]; exact nI_le (a := 36) (by omega) (by omega)) cc
    | succ d ih =>
      intro k x f hk hx1 hf H locs ls hP hD hS hl
      refine lv_iload_n hx hb dX2_init_69 rfl (lv_at hl 1 rfl) ?_
      refine lv_bipush (v := 36) hx hb dX2_init_70 (by decide) ?_
      refine lv_icmp_ge (tgt := 89) hx hb dX2_init_72 (by decide) (fun cc => ?_) (fun cc => ?_)
      · exact absurd cc (by rw [hx1]; exact nI_ge (b := 36) (by omega) (by omega))
      · refine lv_aload_n hx hb dX2_init_75 rfl (lv_at hl 0 rfl) ?_
        refine va_get (D := D) (ci := 1) (v := .ref q1) (C := RX2) (T := TX2) (N := 15) hx hb hts iwX2 hown hK hP 0 rfl rfl 0 (by decide) (hts _ wl_40) (fun _ h9 => h9) rfl dX2_init_76 ?_
        refine lv_iload_n hx hb dX2_init_79 rfl (lv_at hl 1 rfl) ?_
        refine lv_ldcf hx hb hown (hts _ wl_51) dX2_init_80 ?_
        refine dq_fast (cA := y 0) (n := 36) (f := f) hx hb hK hP hD hS 1 0 rfl rfl (by rw [hx1]; exact vp_in_nI (by omega) (by omega)) dX2_init_82 (fun g eg H locs hP hD hS => ?_)
        have hP : va_P D vwCl [(q0, .inr (1, [.ref q1, .long 0, .int 0, .ref q2, .ref q3, .ref q4, .ref q5, .int 0, .int 0, .ref q6, .ref q7, .int 0, .int 0, .int 0, .ref (ad8 0)])), (q1, .inl (y 0, 36, .inr (.inr (.inl g)))), (q2, .inl (y 1, 5, .inl (fun _ => 0))), (q3, .inl (y 1, 5, .inl (fun _ => 0))), (q4, .inl (y 1, 5, .inl (fun _ => 0))), (q5, .inl (y 1, 5, .inl (fun _ => 0))), (q6, .inl (y 1, 6, .inl (fun _ => 0))), (q7, .inl (y 1, 6, .inl (fun _ => 0))), ((ad8 0), .inr (0, [.ref (ad8 1), .ref (ad8 2), .int 0])), ((ad8 1), .inl (y 1, 6, .inl (fun _ => 0))), ((ad8 2), .inl (y 1, 6, .inl (fun _ => 0)))] H := hP
        have hD : va_D A [(q0, .inr (1, [.ref q1, .long 0, .int 0, .ref q2, .ref q3, .ref q4, .ref q5, .int 0, .int 0, .ref q6, .ref q7, .int 0, .int 0, .int 0, .ref (ad8 0)])), (q1, .inl (y 0, 36, .inr (.inr (.inl g)))), (q2, .inl (y 1, 5, .inl (fun _ => 0))), (q3, .inl (y 1, 5, .inl (fun _ => 0))), (q4, .inl (y 1, 5, .inl (fun _ => 0))), (q5, .inl (y 1, 5, .inl (fun _ => 0))), (q6, .inl (y 1, 6, .inl (fun _ => 0))), (q7, .inl (y 1, 6, .inl (fun _ => 0))), ((ad8 0), .inr (0, [.ref (ad8 1), .ref (ad8 2), .int 0])), ((ad8 1), .inl (y 1, 6, .inl (fun _ => 0))), ((ad8 2), .inl (y 1, 6, .inl (fun _ => 0)))] := hD
        refine lv_iinc (v := x + 1) (lv' := [(1, .int (x + 1)), (0, .ref q0)]) hx hb dX2_init_83 hl (k := 1) rfl rfl (by decide) rfl (fun ls hl => ?_)
        refine lv_goto (tgt := 69) hx hb dX2_init_86 (by decide) ?_
        exact ih (k + 1) (x + 1) g (by omega) (by rw [hx1]; exact nI_1 k) (by rw [eg, hf, hx1, nI_clamp (by omega)]; exact wrm_s) H locs ls hP hD hS (lv_sub hl [1, 0] rfl)
  exact J 36 0 0 _ rfl nI_0.symm wrm_0.symm H _ ls hP hD hS (lv_sub hl [1, 0] rfl)
