/-! the constructor of the pegs -/
def siz (k : Nat) : Nat → Int32 := fun i => if i < k then -1 else 0
theorem siz_0 : siz 0 = fun _ => 0 := funext fun i => if_neg (Nat.not_lt_zero i)
theorem siz_s {k : Nat} : upd (siz k) k (-1) = siz (k + 1) := funext fun i => by
  unfold upd siz
  by_cases z : i = k
  · subst z
    rw [if_pos rfl, if_pos (by omega)]
  · rw [if_neg z]
    by_cases h : i < k
    · rw [if_pos h, if_pos (by omega)]
    · rw [if_neg h, if_neg (by omega)]
def wI_X4 : List Cond := .code yX4_init cX4_init 2 none :: wsL_law
theorem i_X4 (l : Launch) (D : va_G) (y : Nat → ClassId) (q0 : Nat) : Ci l D y yX4_init wI_X4 1 12 q0 (.inr (3, [.null, .null, .null, .null])) (fun ad => w_X4 y ad (fun _ => 0) (siz 3) (fun _ _ => 0) (fun _ => 0)) 7 57 := by
  refine ci_head (cc := cX4_init) (nl := 2) (by decide) rfl rfl (Nat.le_of_ble_eq_true rfl) ?_
  intro p e s m below meth c A ls hx hb hr hml hown hlocks hin hts0 hA hAe hP hK hD hN hl
  have hts : ∀ w ∈ wsL_law, w.before [Value.ref q0].toArray s = true := fun w h => hts0 w (List.mem_cons_of_mem _ h)
  have hS : va_S A s.heap s.heap [] := va_S.rf
  have hl : lv_has ls 2 [(0, .ref q0)] := hl
  refine lv_aload_n hx hb dX4_init_0 rfl (lv_at hl 0 rfl) ?_
  refine W.objInit hx hb hown (hts _ wl_71) (hts _ wl_10) (hts _ wl_11) rfl (by rw [hml]; exact hl.1) rfl dX4_init_1 (Nat.le_of_ble_eq_true rfl) (Nat.le_of_ble_eq_true rfl) ?_
  refine W.eq (g2 := F0 m 4 ls []) rfl ?_
  refine lv_aload_n hx hb dX4_init_4 rfl (lv_at hl 0 rfl) ?_
  refine lv_iconst (v := 3) hx hb dX4_init_5 (by decide) ?_
  refine ci_naI (v := 3) (N' := 3) hx hb (hts _ wl_30) hK hP hD hS hA (by decide) (by decide) (by decide) (Nat.le_of_ble_eq_true rfl) (Nat.le_of_ble_eq_true rfl) dX4_init_6 (fun q1 H hP hD hS => ?_)
  have hP : va_P D vwCl [(q0, .inr (3, [.null, .null, .null, .null])), (q1, .inl (y 1, 3, .inl (fun _ => 0)))] H := hP
  have hD : va_D A [(q0, .inr (3, [.null, .null, .null, .null])), (q1, .inl (y 1, 3, .inl (fun _ => 0)))] := hD
  refine W.widen (k := 1) (n := 3) (Nat.le_of_ble_eq_true rfl) (Nat.le_of_ble_eq_true rfl) ?_
  refine va_putF (D := D) (ci := 3) (v := .ref q1) (ty := .array .int) (C := RX4) (T := TX4) (N := 4) hx hb hts iwX4 tyX4 tyX4_ok nmX4 hown hK hP hD hS 0 rfl rfl 0 (by decide) (hts _ wl_72) (fun _ h9 => h9) rfl hin rfl (tyX4_ok 0 (by decide)) rfl rfl (Nat.le_of_ble_eq_true rfl) dX4_init_8 (fun H locs hP hD hS => ?_)
  have hP : va_P D vwCl [(q0, .inr (3, [.ref q1, .null, .null, .null])), (q1, .inl (y 1, 3, .inl (fun _ => 0)))] H := hP
  have hD : va_D A [(q0, .inr (3, [.ref q1, .null, .null, .null])), (q1, .inl (y 1, 3, .inl (fun _ => 0)))] := hD
  refine lv_aload_n hx hb dX4_init_11 rfl (lv_at hl 0 rfl) ?_
  refine lv_iconst (v := 3) hx hb dX4_init_12 (by decide) ?_
  refine ci_naI (v := 3) (N' := 3) hx hb (hts _ wl_30) hK hP hD hS hA (by decide) (by decide) (by decide) (Nat.le_of_ble_eq_true rfl) (Nat.le_of_ble_eq_true rfl) dX4_init_13 (fun q2 H hP hD hS => ?_)
  have hP : va_P D vwCl [(q0, .inr (3, [.ref q1, .null, .null, .null])), (q1, .inl (y 1, 3, .inl (fun _ => 0))), (q2, .inl (y 1, 3, .inl (fun _ => 0)))] H := hP
  have hD : va_D A [(q0, .inr (3, [.ref q1, .null, .null, .null])), (q1, .inl (y 1, 3, .inl (fun _ => 0))), (q2, .inl (y 1, 3, .inl (fun _ => 0)))] := hD
  refine W.widen (k := 2) (n := 6) (Nat.le_of_ble_eq_true rfl) (Nat.le_of_ble_eq_true rfl) ?_
  refine va_putF (D := D) (ci := 3) (v := .ref q2) (ty := .array .int) (C := RX4) (T := TX4) (N := 4) hx hb hts iwX4 tyX4 tyX4_ok nmX4 hown hK hP hD hS 0 rfl rfl 1 (by decide) (hts _ wl_73) (fun _ h9 => h9) rfl hin rfl (tyX4_ok 1 (by decide)) rfl rfl (Nat.le_of_ble_eq_true rfl) dX4_init_15 (fun H locs hP hD hS => ?_)
  have hP : va_P D vwCl [(q0, .inr (3, [.ref q1, .ref q2, .null, .null])), (q1, .inl (y 1, 3, .inl (fun _ => 0))), (q2, .inl (y 1, 3, .inl (fun _ => 0)))] H := hP
  have hD : va_D A [(q0, .inr (3, [.ref q1, .ref q2, .null, .null])), (q1, .inl (y 1, 3, .inl (fun _ => 0))), (q2, .inl (y 1, 3, .inl (fun _ => 0)))] := hD
  refine lv_aload_n hx hb dX4_init_18 rfl (lv_at hl 0 rfl) ?_
  refine lv_iconst (v := 3) hx hb dX4_init_19 (by decide) ?_
  refine lv_bipush (v := 12) hx hb dX4_init_20 (by decide) ?_
  refine ci_mna hx hb hown (hts _ wl_74) hN.2.2.2 (hts _ wl_30) hK hP hD hS hA (Nat.le_of_ble_eq_true rfl) (Nat.le_of_ble_eq_true rfl) dX4_init_22 (fun q3 H hP hD hS => ?_)
  have hP : va_P D vwCl [(q0, .inr (3, [.ref q1, .ref q2, .null, .null])), (q1, .inl (y 1, 3, .inl (fun _ => 0))), (q2, .inl (y 1, 3, .inl (fun _ => 0))), (q3, .inl (y 4, 3, .inr (.inr (.inr (.inr (fun i => if i < 3 then some (q3 + 1 + i) else none)))))), (q3 + 1, .inl (y 1, 12, .inl (fun _ => 0))), (q3 + 2, .inl (y 1, 12, .inl (fun _ => 0))), (q3 + 3, .inl (y 1, 12, .inl (fun _ => 0)))] H := hP
  have hD : va_D A [(q0, .inr (3, [.ref q1, .ref q2, .null, .null])), (q1, .inl (y 1, 3, .inl (fun _ => 0))), (q2, .inl (y 1, 3, .inl (fun _ => 0))), (q3, .inl (y 4, 3, .inr (.inr (.inr (.inr (fun i => if i < 3 then some (q3 + 1 + i) else none)))))), (q3 + 1, .inl (y 1, 12, .inl (fun _ => 0))), (q3 + 2, .inl (y 1, 12, .inl (fun _ => 0))), (q3 + 3, .inl (y 1, 12, .inl (fun _ => 0)))] := hD
  refine W.widen (k := 6) (n := 45) (Nat.le_of_ble_eq_true rfl) (Nat.le_of_ble_eq_true rfl) ?_
  refine va_putF (D := D) (ci := 3) (v := .ref q3) (ty := .array (.array .int)) (C := RX4) (T := TX4) (N := 4) hx hb hts iwX4 tyX4 tyX4_ok nmX4 hown hK hP hD hS 0 rfl rfl 2 (by decide) (hts _ wl_75) (fun _ h9 => h9) rfl hin rfl (tyX4_ok 2 (by decide)) rfl rfl (Nat.le_of_ble_eq_true rfl) dX4_init_26 (fun H locs hP hD hS => ?_)
  have hP : va_P D vwCl [(q0, .inr (3, [.ref q1, .ref q2, .ref q3, .null])), (q1, .inl (y 1, 3, .inl (fun _ => 0))), (q2, .inl (y 1, 3, .inl (fun _ => 0))), (q3, .inl (y 4, 3, .inr (.inr (.inr (.inr (fun i => if i < 3 then some (q3 + 1 + i) else none)))))), (q3 + 1, .inl (y 1, 12, .inl (fun _ => 0))), (q3 + 2, .inl (y 1, 12, .inl (fun _ => 0))), (q3 + 3, .inl (y 1, 12, .inl (fun _ => 0)))] H := hP
  have hD : va_D A [(q0, .inr (3, [.ref q1, .ref q2, .ref q3, .null])), (q1, .inl (y 1, 3, .inl (fun _ => 0))), (q2, .inl (y 1, 3, .inl (fun _ => 0))), (q3, .inl (y 4, 3, .inr (.inr (.inr (.inr (fun i => if i < 3 then some (q3 + 1 + i) else none)))))), (q3 + 1, .inl (y 1, 12, .inl (fun _ => 0))), (q3 + 2, .inl (y 1, 12, .inl (fun _ => 0))), (q3 + 3, .inl (y 1, 12, .inl (fun _ => 0)))] := hD
  refine lv_aload_n hx hb dX4_init_29 rfl (lv_at hl 0 rfl) ?_
  refine lv_bipush (v := 12) hx hb dX4_init_30 (by decide) ?_
  refine ci_naI (v := 12) (N' := 12) hx hb (hts _ wl_30) hK hP hD hS hA (by decide) (by decide) (by decide) (Nat.le_of_ble_eq_true rfl) (Nat.le_of_ble_eq_true rfl) dX4_init_32 (fun q7 H hP hD hS => ?_)
  have hP : va_P D vwCl [(q0, .inr (3, [.ref q1, .ref q2, .ref q3, .null])), (q1, .inl (y 1, 3, .inl (fun _ => 0))), (q2, .inl (y 1, 3, .inl (fun _ => 0))), (q3, .inl (y 4, 3, .inr (.inr (.inr (.inr (fun i => if i < 3 then some (q3 + 1 + i) else none)))))), (q3 + 1, .inl (y 1, 12, .inl (fun _ => 0))), (q3 + 2, .inl (y 1, 12, .inl (fun _ => 0))), (q3 + 3, .inl (y 1, 12, .inl (fun _ => 0))), (q7, .inl (y 1, 12, .inl (fun _ => 0)))] H := hP
  have hD : va_D A [(q0, .inr (3, [.ref q1, .ref q2, .ref q3, .null])), (q1, .inl (y 1, 3, .inl (fun _ => 0))), (q2, .inl (y 1, 3, .inl (fun _ => 0))), (q3, .inl (y 4, 3, .inr (.inr (.inr (.inr (fun i => if i < 3 then some (q3 + 1 + i) else none)))))), (q3 + 1, .inl (y 1, 12, .inl (fun _ => 0))), (q3 + 2, .inl (y 1, 12, .inl (fun _ => 0))), (q3 + 3, .inl (y 1, 12, .inl (fun _ => 0))), (q7, .inl (y 1, 12, .inl (fun _ => 0)))] := hD
  refine W.widen (k := 7) (n := 57) (Nat.le_of_ble_eq_true rfl) (Nat.le_of_ble_eq_true rfl) ?_
  refine va_putF (D := D) (ci := 3) (v := .ref q7) (ty := .array .int) (C := RX4) (T := TX4) (N := 4) hx hb hts iwX4 tyX4 tyX4_ok nmX4 hown hK hP hD hS 0 rfl rfl 3 (by decide) (hts _ wl_76) (fun _ h9 => h9) rfl hin rfl (tyX4_ok 3 (by decide)) rfl rfl (Nat.le_of_ble_eq_true rfl) dX4_init_34 (fun H locs hP hD hS => ?_)
  have hP : va_P D vwCl [(q0, .inr (3, [.ref q1, .ref q2, .ref q3, .ref q7])), (q1, .inl (y 1, 3, .inl (fun _ => 0))), (q2, .inl (y 1, 3, .inl (fun _ => 0))), (q3, .inl (y 4, 3, .inr (.inr (.inr (.inr (fun i => if i < 3 then some (q3 + 1 + i) else none)))))), (q3 + 1, .inl (y 1, 12, .inl (fun _ => 0))), (q3 + 2, .inl (y 1, 12, .inl (fun _ => 0))), (q3 + 3, .inl (y 1, 12, .inl (fun _ => 0))), (q7, .inl (y 1, 12, .inl (fun _ => 0)))] H := hP
  have hD : va_D A [(q0, .inr (3, [.ref q1, .ref q2, .ref q3, .ref q7])), (q1, .inl (y 1, 3, .inl (fun _ => 0))), (q2, .inl (y 1, 3, .inl (fun _ => 0))), (q3, .inl (y 4, 3, .inr (.inr (.inr (.inr (fun i => if i < 3 then some (q3 + 1 + i) else none)))))), (q3 + 1, .inl (y 1, 12, .inl (fun _ => 0))), (q3 + 2, .inl (y 1, 12, .inl (fun _ => 0))), (q3 + 3, .inl (y 1, 12, .inl (fun _ => 0))), (q7, .inl (y 1, 12, .inl (fun _ => 0)))] := hD
  refine lv_iconst (v := 0) hx hb dX4_init_37 (by decide) ?_
  refine lv_istore_n (lv' := [(1, .int 0), (0, .ref q0)]) hx hb dX4_init_38 rfl hl (by decide) rfl (fun ls hl => ?_)
  have J : ∀ (d k : Nat) (x : Int32) (f : Nat → Int32), k + d = 3 → x = nI k → f = siz k → ∀ (H : Heap) (locs : List Loc) (ls : Array Slot), va_P D vwCl [(q0, .inr (3, [.ref q1, .ref q2, .ref q3, .ref q7])), (q1, .inl (y 1, 3, .inl (fun _ => 0))), (q2, .inl (y 1, 3, .inl f)), (q3, .inl (y 4, 3, .inr (.inr (.inr (.inr (fun i => if i < 3 then some (q3 + 1 + i) else none)))))), (q3 + 1, .inl (y 1, 12, .inl (fun _ => 0))), (q3 + 2, .inl (y 1, 12, .inl (fun _ => 0))), (q3 + 3, .inl (y 1, 12, .inl (fun _ => 0))), (q7, .inl (y 1, 12, .inl (fun _ => 0)))] H → va_D A [(q0, .inr (3, [.ref q1, .ref q2, .ref q3, .ref q7])), (q1, .inl (y 1, 3, .inl (fun _ => 0))), (q2, .inl (y 1, 3, .inl f)), (q3, .inl (y 4, 3, .inr (.inr (.inr (.inr (fun i => if i < 3 then some (q3 + 1 + i) else none)))))), (q3 + 1, .inl (y 1, 12, .inl (fun _ => 0))), (q3 + 2, .inl (y 1, 12, .inl (fun _ => 0))), (q3 + 3, .inl (y 1, 12, .inl (fun _ => 0))), (q7, .inl (y 1, 12, .inl (fun _ => 0)))] → va_S A s.heap H locs → lv_has ls 2 [(0, .ref q0), (1, .int x)] → W p l e ({ frames := 1, cells := 7, slots := 57, locals := 12 } : Room) s m [Value.ref q0].toArray below meth c H locs 7 57 (MQ below (dQn D y s.heap.size [(q0, .inr (3, [.null, .null, .null, .null]))] q0 (fun ad => w_X4 y ad (fun _ => 0) (siz 3) (fun _ _ => 0) (fun _ => 0))) [Value.ref q0].toArray s 7 57 A) (F0 m 39 ls []) := by
    intro d
    induction d with
    | zero =>
      intro k x f hk hx1 hf H locs ls hP hD hS hl
      refine lv_iload_n hx hb dX4_init_39 rfl (lv_at hl 1 rfl) ?_
      refine lv_iconst (v := 3) hx hb dX4_init_40 (by decide) ?_
      refine lv_icmp_ge (tgt := 57) hx hb dX4_init_41 (by decide) (fun cc => ?_) (fun cc => ?_)
      · have e : k = 3 := by omega
        subst e hf
        have he : (fun i => if i < 3 then some (q3 + 1 + i) else none) = (fun i => if i < 3 then some ((fun k => [q0, q1, q2, q3, q3 + 1, q3 + 2, q3 + 3, q7].getD k 0) (4 + i)) else none) := funext fun i => by
          by_cases z : i < 3
          · rcases (show i = 0 ∨ i = 1 ∨ i = 2 by omega) with rfl | rfl | rfl <;> rfl
          · rw [if_neg z, if_neg z]
        rw [he] at hP hD
        exact ci_ret hx hb hr hlocks hAe (fun k => [q0, q1, q2, q3, q3 + 1, q3 + 2, q3 + 3, q7].getD k 0) rfl hP hK hD hS dX4_init_57
      · exact absurd (by rw [hx1]; exact nI_le (a := 3) (by omega) (by omega)) cc
    | succ d ih =>
      intro k x f hk hx1 hf H locs ls hP hD hS hl
      refine lv_iload_n hx hb dX4_init_39 rfl (lv_at hl 1 rfl) ?_
      refine lv_iconst (v := 3) hx hb dX4_init_40 (by decide) ?_
      refine lv_icmp_ge (tgt := 57) hx hb dX4_init_41 (by decide) (fun cc => ?_) (fun cc => ?_)
      · exact absurd cc (by rw [hx1]; exact nI_ge (b := 3) (by omega) (by omega))
      · refine lv_aload_n hx hb dX4_init_44 rfl (lv_at hl 0 rfl) ?_
        refine va_get (D := D) (ci := 3) (v := .ref q2) (C := RX4) (T := TX4) (N := 4) hx hb hts iwX4 hown hK hP 0 rfl rfl 1 (by decide) (hts _ wl_73) (fun _ h9 => h9) rfl dX4_init_45 ?_
        refine lv_iload_n hx hb dX4_init_48 rfl (lv_at hl 1 rfl) ?_
        refine lv_iconst (v := -1) hx hb dX4_init_49 (by decide) ?_
        refine dq_iast (cA := y 1) (n := 3) (f := f) hx hb hK hP hD hS 2 1 rfl rfl (by rw [hx1]; exact vp_in_nI (by omega) (by omega)) dX4_init_50 (fun g eg H locs hP hD hS => ?_)
        have hP : va_P D vwCl [(q0, .inr (3, [.ref q1, .ref q2, .ref q3, .ref q7])), (q1, .inl (y 1, 3, .inl (fun _ => 0))), (q2, .inl (y 1, 3, .inl g)), (q3, .inl (y 4, 3, .inr (.inr (.inr (.inr (fun i => if i < 3 then some (q3 + 1 + i) else none)))))), (q3 + 1, .inl (y 1, 12, .inl (fun _ => 0))), (q3 + 2, .inl (y 1, 12, .inl (fun _ => 0))), (q3 + 3, .inl (y 1, 12, .inl (fun _ => 0))), (q7, .inl (y 1, 12, .inl (fun _ => 0)))] H := hP
        have hD : va_D A [(q0, .inr (3, [.ref q1, .ref q2, .ref q3, .ref q7])), (q1, .inl (y 1, 3, .inl (fun _ => 0))), (q2, .inl (y 1, 3, .inl g)), (q3, .inl (y 4, 3, .inr (.inr (.inr (.inr (fun i => if i < 3 then some (q3 + 1 + i) else none)))))), (q3 + 1, .inl (y 1, 12, .inl (fun _ => 0))), (q3 + 2, .inl (y 1, 12, .inl (fun _ => 0))), (q3 + 3, .inl (y 1, 12, .inl (fun _ => 0))), (q7, .inl (y 1, 12, .inl (fun _ => 0)))] := hD
        refine lv_iinc (v := x + 1) (lv' := [(1, .int (x + 1)), (0, .ref q0)]) hx hb dX4_init_51 hl (k := 1) rfl rfl (by decide) rfl (fun ls hl => ?_)
        refine lv_goto (tgt := 39) hx hb dX4_init_54 (by decide) ?_
        exact ih (k + 1) (x + 1) g (by omega) (by rw [hx1]; exact nI_1 k) (by rw [eg, hf, hx1, nI_clamp (by omega)]; exact siz_s) H locs ls hP hD hS (lv_sub hl [1, 0] rfl)
  exact J 3 0 0 _ rfl nI_0.symm siz_0.symm H _ ls hP hD hS (lv_sub hl [1, 0] rfl)
