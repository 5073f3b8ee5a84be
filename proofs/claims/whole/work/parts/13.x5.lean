noncomputable def f_X5_faultAt (n0 : Int32) : Option Int32 := some ((-1 : Int32) - n0)
def wA_X5_faultAt : List Cond := .code yX5_faultAt cX5_faultAt 1 (some .int) :: wsL_law
-- DraughtsTake$Text.faultAt(I)I
set_option maxHeartbeats 4000000 in
set_option maxRecDepth 100000 in
theorem m_X5_faultAt (l : Launch) (D : va_G) (y : Nat → ClassId) (n0 : Int32) (z0 : Int32) (hf : f_X5_faultAt n0 = some z0) : Ct l D y yX5_faultAt wA_X5_faultAt 0 0 [.int n0] [] [] (some (.int z0)) := by
  refine ct_head (cc := cX5_faultAt) (n := 1) (ret := (some .int)) (by decide) rfl (Nat.le_of_ble_eq_true rfl) ?_
  intro p e s m below meth c A ls hx hb hr hml hown hlocks hts hA hAe hP hK hD hl
  have hS : va_S A s.heap s.heap [] := va_S.rf
  have hl : lv_has ls 1 [(0, .int n0)] := hl
  have hown : s.vm.findClass RX5 = some m.cls := hown
  have hts : ∀ w ∈ wsL_law, w.before [.int n0].toArray s = true := fun w h => hts w (List.mem_cons_of_mem _ h)
  unfold f_X5_faultAt at hf
  refine lv_iconst (v := -1) hx hb dX5_faultAt_0 (by decide) ?_
  refine lv_iload_n hx hb dX5_faultAt_1 rfl (lv_at hl 0 rfl) ?_
  refine lv_isub hx hb dX5_faultAt_2 ?_
  obtain rfl := dq_r1 hf
  exact ct_iret hx hb hr hlocks hAe hP hK hD hS dX5_faultAt_3
noncomputable def f_X5_placeOf (n0 : Int32) : Option Int32 := some ((-1 : Int32) - n0)
def wA_X5_placeOf : List Cond := .code yX5_placeOf cX5_placeOf 1 (some .int) :: wsL_law
-- DraughtsTake$Text.placeOf(I)I
set_option maxHeartbeats 4000000 in
set_option maxRecDepth 100000 in
theorem m_X5_placeOf (l : Launch) (D : va_G) (y : Nat → ClassId) (n0 : Int32) (z0 : Int32) (hf : f_X5_placeOf n0 = some z0) : Ct l D y yX5_placeOf wA_X5_placeOf 0 0 [.int n0] [] [] (some (.int z0)) := by
  refine ct_head (cc := cX5_placeOf) (n := 1) (ret := (some .int)) (by decide) rfl (Nat.le_of_ble_eq_true rfl) ?_
  intro p e s m below meth c A ls hx hb hr hml hown hlocks hts hA hAe hP hK hD hl
  have hS : va_S A s.heap s.heap [] := va_S.rf
  have hl : lv_has ls 1 [(0, .int n0)] := hl
  have hown : s.vm.findClass RX5 = some m.cls := hown
  have hts : ∀ w ∈ wsL_law, w.before [.int n0].toArray s = true := fun w h => hts w (List.mem_cons_of_mem _ h)
  unfold f_X5_placeOf at hf
  refine lv_iconst (v := -1) hx hb dX5_placeOf_0 (by decide) ?_
  refine lv_iload_n hx hb dX5_placeOf_1 rfl (lv_at hl 0 rfl) ?_
  refine lv_isub hx hb dX5_placeOf_2 ?_
  obtain rfl := dq_r1 hf
  exact ct_iret hx hb hr hlocks hAe hP hK hD hS dX5_placeOf_3
def w_X5 (y : Nat → ClassId) (a : Nat → Nat) (t_length : Int32) (t_letters : (Nat → Int32)) : va_W := [((a 0), .inr (4, [.ref (a 1), .int t_length])), ((a 1), .inl (y 1, 96, .inl t_letters))]
noncomputable def f_X5_letterAt (t_length : Int32) (t_letters : (Nat → Int32)) (n0 : Int32) : Option Int32 := dq_if (n0 < 0) (some (-1 : Int32)) (dq_if (t_length ≤ n0) (some (-1 : Int32)) (dq_gd (vp_in n0 96) (some (t_letters n0.toNatClampNeg))))
def wA_X5_letterAt : List Cond := .code yX5_letterAt cX5_letterAt 2 (some .int) :: wsL_law
-- DraughtsTake$Text.letterAt(I)I
set_option maxHeartbeats 4000000 in
set_option maxRecDepth 100000 in
theorem m_X5_letterAt (l : Launch) (D : va_G) (y : Nat → ClassId) (a : (Nat → Nat)) (t_length : Int32) (t_letters : (Nat → Int32)) (n0 : Int32) (z0 : Int32) (hf : f_X5_letterAt t_length t_letters n0 = some z0) : Ct l D y yX5_letterAt wA_X5_letterAt 0 0 [.ref (a 0), .int n0] (w_X5 y a t_length t_letters) (w_X5 y a t_length t_letters) (some (.int z0)) := by
  refine ct_head (cc := cX5_letterAt) (n := 2) (ret := (some .int)) (by decide) rfl (Nat.le_of_ble_eq_true rfl) ?_
  intro p e s m below meth c A ls hx hb hr hml hown hlocks hts hA hAe hP hK hD hl
  have hS : va_S A s.heap s.heap [] := va_S.rf
  have hl : lv_has ls 2 [(0, .ref (a 0)), (1, .int n0)] := hl
  have hown : s.vm.findClass RX5 = some m.cls := hown
  have hts : ∀ w ∈ wsL_law, w.before [.ref (a 0), .int n0].toArray s = true := fun w h => hts w (List.mem_cons_of_mem _ h)
  unfold f_X5_letterAt at hf
  refine lv_iload_n hx hb dX5_letterAt_0 rfl (lv_at hl 1 rfl) ?_
  refine lv_if_lt (tgt := 21) hx hb dX5_letterAt_1 (by decide) (fun c1 => ?_) (fun c1 => ?_)
  · have hf := dq_t hf c1
    clear c1
    refine lv_iconst (v := -1) hx hb dX5_letterAt_21 (by decide) ?_
    obtain rfl := dq_r1 hf
    exact ct_iret hx hb hr hlocks hAe hP hK hD hS dX5_letterAt_22
  · have hf := dq_f hf c1
    clear c1
    refine lv_iload_n hx hb dX5_letterAt_4 rfl (lv_at hl 1 rfl) ?_
    refine lv_aload_n hx hb dX5_letterAt_5 rfl (lv_at hl 0 rfl) ?_
    refine va_get (D := D) (ci := 4) (v := .int t_length) (C := RX5) (T := TX5) (N := 2) hx hb hts iwX5 hown hK hP 0 rfl rfl 1 (by decide) (hts _ wl_145) (fun _ h9 => h9) rfl dX5_letterAt_6 ?_
    refine lv_icmp_ge (tgt := 21) hx hb dX5_letterAt_9 (by decide) (fun c2 => ?_) (fun c2 => ?_)
    · have hf := dq_t hf c2
      clear c2
      refine lv_iconst (v := -1) hx hb dX5_letterAt_21 (by decide) ?_
      obtain rfl := dq_r1 hf
      exact ct_iret hx hb hr hlocks hAe hP hK hD hS dX5_letterAt_22
    · have hf := dq_f hf c2
      clear c2
      refine lv_aload_n hx hb dX5_letterAt_12 rfl (lv_at hl 0 rfl) ?_
      refine va_get (D := D) (ci := 4) (v := .ref (a 1)) (C := RX5) (T := TX5) (N := 2) hx hb hts iwX5 hown hK hP 0 rfl rfl 0 (by decide) (hts _ wl_67) (fun _ h9 => h9) rfl dX5_letterAt_13 ?_
      refine lv_iload_n hx hb dX5_letterAt_16 rfl (lv_at hl 1 rfl) ?_
      obtain ⟨h3, hf⟩ := dq_g hf
      refine va_iald (cA := y 1) (n := 96) (f := t_letters) hx hb hK hP 1 1 rfl rfl h3 dX5_letterAt_17 ?_
      refine lv_goto (tgt := 22) hx hb dX5_letterAt_18 (by decide) ?_
      obtain rfl := dq_r1 hf
      exact ct_iret hx hb hr hlocks hAe hP hK hD hS dX5_letterAt_22
noncomputable def f_X5_digitsEnd_b2 (n0 : Int32) (n1 : Int32) (t_length : Int32) (t_letters : (Nat → Int32))  : Nat → Int32 → Option Int32
  | 0, _ => none
  | m2 + 1, x1 => dq_if (n1 ≤ x1) (some (n0 + n1)) (dq_bd (f_X5_letterAt t_length t_letters (n0 + x1)) (fun (x3 : Int32) => dq_if (x3 < (48 : Int32)) (dq_bd (f_X5_faultAt (n0 + x1)) (fun (x6 : Int32) => some x6)) (dq_if (x3 ≤ (57 : Int32)) (dq_let (x1 + (1 : Int32)) (fun (x9 : Int32) => (f_X5_digitsEnd_b2 n0 n1 t_length t_letters m2) x9)) (dq_bd (f_X5_faultAt (n0 + x1)) (fun (x10 : Int32) => some x10)))))
noncomputable def f_X5_digitsEnd (t_length : Int32) (t_letters : (Nat → Int32)) (n0 : Int32) (n1 : Int32) : Option Int32 := f_X5_digitsEnd_b2 n0 n1 t_length t_letters 4096 (0 : Int32)
def wA_X5_digitsEnd : List Cond := .code yX5_digitsEnd cX5_digitsEnd 5 (some .int) :: wsL_law
-- DraughtsTake$Text.digitsEnd(II)I
set_option maxHeartbeats 4000000 in
set_option maxRecDepth 100000 in
theorem m_X5_digitsEnd (l : Launch) (D : va_G) (y : Nat → ClassId) (a : (Nat → Nat)) (t_length : Int32) (t_letters : (Nat → Int32)) (n0 : Int32) (n1 : Int32) (z0 : Int32) (hf : f_X5_digitsEnd t_length t_letters n0 n1 = some z0) : Ct l D y yX5_digitsEnd wA_X5_digitsEnd 1 21 [.ref (a 0), .int n0, .int n1] (w_X5 y a t_length t_letters) (w_X5 y a t_length t_letters) (some (.int z0)) := by
  refine ct_head (cc := cX5_digitsEnd) (n := 5) (ret := (some .int)) (by decide) rfl (Nat.le_of_ble_eq_true rfl) ?_
  intro p e s m below meth c A ls hx hb hr hml hown hlocks hts hA hAe hP hK hD hl
  have hS : va_S A s.heap s.heap [] := va_S.rf
  have hl : lv_has ls 5 [(0, .ref (a 0)), (1, .int n0), (2, .int n1)] := hl
  have hown : s.vm.findClass RX5 = some m.cls := hown
  have hts : ∀ w ∈ wsL_law, w.before [.ref (a 0), .int n0, .int n1].toArray s = true := fun w h => hts w (List.mem_cons_of_mem _ h)
  unfold f_X5_digitsEnd at hf
  refine lv_iconst (v := 0) hx hb dX5_digitsEnd_0 (by decide) ?_
  refine lv_istore_n (lv' := [(3, .int (0 : Int32)), (0, .ref (a 0)), (1, .int n0), (2, .int n1)]) hx hb dX5_digitsEnd_1 rfl hl (by decide) rfl (fun ls hl => ?_)
  have J2 : ∀ (m2 : Nat) (x1 : Int32), f_X5_digitsEnd_b2 n0 n1 t_length t_letters m2 x1 = some z0 → ∀ (H : Heap) (locs : List Loc), va_P D vwCl (w_X5 y a t_length t_letters) H → va_D A (w_X5 y a t_length t_letters) → va_S A s.heap H locs → ∀ ls : Array Slot, lv_has ls 5 [(0, .ref (a 0)), (1, .int n0), (2, .int n1), (3, .int x1)] → W p l e ({ frames := 1, cells := 0, slots := 0, locals := 21 } : Room) s m [.ref (a 0), .int n0, .int n1].toArray below meth c H locs 0 0 (MQ below (dQ D y (some (.int z0)) s.heap.size (w_X5 y a t_length t_letters) (w_X5 y a t_length t_letters)) [.ref (a 0), .int n0, .int n1].toArray s 0 0 A) (F0 m 2 ls []) := by
    intro m2
    induction m2 with
    | zero => intro x1 hf; exact absurd hf (by unfold f_X5_digitsEnd_b2; exact fun h => by cases h)
    | succ m2 I2 =>
      intro x1 hf H locs hP hD hS ls hl
      unfold f_X5_digitsEnd_b2 at hf
      refine lv_iload_n hx hb dX5_digitsEnd_2 rfl (lv_at hl 3 rfl) ?_
      refine lv_iload_n hx hb dX5_digitsEnd_3 rfl (lv_at hl 2 rfl) ?_
      refine lv_icmp_ge (tgt := 43) hx hb dX5_digitsEnd_4 (by decide) (fun c2 => ?_) (fun c2 => ?_)
      · have hf := dq_t hf c2
        clear c2
        refine lv_iload_n hx hb dX5_digitsEnd_43 rfl (lv_at hl 1 rfl) ?_
        refine lv_iload_n hx hb dX5_digitsEnd_44 rfl (lv_at hl 2 rfl) ?_
        refine lv_iadd hx hb dX5_digitsEnd_45 ?_
        obtain rfl := dq_r1 hf
        exact ct_iret hx hb hr hlocks hAe hP hK hD hS dX5_digitsEnd_46
      · have hf := dq_f hf c2
        clear c2
        refine lv_aload_n hx hb dX5_digitsEnd_7 rfl (lv_at hl 0 rfl) ?_
        refine lv_iload_n hx hb dX5_digitsEnd_8 rfl (lv_at hl 1 rfl) ?_
        refine lv_iload_n hx hb dX5_digitsEnd_9 rfl (lv_at hl 3 rfl) ?_
        refine lv_iadd hx hb dX5_digitsEnd_10 ?_
        obtain ⟨x3, hy4, hf⟩ := dq_b hf
        refine ct_callV0 (ci := 4) (q0 := 0) (own := RX5) (As := [.int (n0 + x1)]) (rest := []) (ws' := (w_X5 y a t_length t_letters)) ⟨hx, hb, hml, hown, hts⟩ (m_X5_letterAt l D y a t_length t_letters (n0 + x1) x3 hy4) (cwV 1 hts (gA_V wl_153 wl_154 wl_155 wl_24 wl_156) rfl rfl rfl (by decide +kernel) ⟨Nat.le_of_ble_eq_true rfl, Nat.le_of_ble_eq_true rfl⟩) rfl rfl rfl hl.1 rfl (Nat.le_of_ble_eq_true rfl) dX5_digitsEnd_11 ⟨Nat.zero_le _, Nat.zero_le _⟩ hK hP hD hS hA (fun H locs hP hD hS => ?_)
        refine lv_istore (lv' := [(4, .int x3), (0, .ref (a 0)), (1, .int n0), (2, .int n1), (3, .int x1)]) hx hb dX5_digitsEnd_14 hl (by decide) rfl (fun ls hl => ?_)
        refine lv_iload hx hb dX5_digitsEnd_16 (lv_at hl 0 rfl) ?_
        refine lv_bipush (v := 48) hx hb dX5_digitsEnd_18 (by decide) ?_
        refine lv_icmp_lt (tgt := 30) hx hb dX5_digitsEnd_20 (by decide) (fun c5 => ?_) (fun c5 => ?_)
        · have hf := dq_t hf c5
          clear c5
          refine lv_iload_n hx hb dX5_digitsEnd_30 rfl (lv_at hl 2 rfl) ?_
          refine lv_iload_n hx hb dX5_digitsEnd_31 rfl (lv_at hl 4 rfl) ?_
          refine lv_iadd hx hb dX5_digitsEnd_32 ?_
          obtain ⟨x6, hy7, hf⟩ := dq_b hf
          refine ct_callS0 (own := RX5) (As := [.int (n0 + x1)]) (rest := []) ⟨hx, hb, hml, hown, hts⟩ (m_X5_faultAt l D y (n0 + x1) x6 hy7) (va_cwS 1 hts (gA_S wl_146 wl_147 wl_24 wl_148) rfl rfl rfl (by decide +kernel) ⟨Nat.le_of_ble_eq_true rfl, Nat.le_of_ble_eq_true rfl⟩) rfl hl.1 rfl (Nat.le_of_ble_eq_true rfl) dX5_digitsEnd_33 ⟨Nat.zero_le _, Nat.zero_le _⟩ hK hP hD hS hA (fun H locs hP hD hS => ?_)
          obtain rfl := dq_r1 hf
          exact ct_iret hx hb hr hlocks hAe hP hK hD hS dX5_digitsEnd_36
        · have hf := dq_f hf c5
          clear c5
          refine lv_iload hx hb dX5_digitsEnd_23 (lv_at hl 0 rfl) ?_
          refine lv_bipush (v := 57) hx hb dX5_digitsEnd_25 (by decide) ?_
          refine lv_icmp_le (tgt := 37) hx hb dX5_digitsEnd_27 (by decide) (fun c8 => ?_) (fun c8 => ?_)
          · have hf := dq_t hf c8
            clear c8
            obtain ⟨x9, ex9⟩ : ∃ z : Int32, z = (x1 + (1 : Int32)) := ⟨_, rfl⟩
            have hf := dq_l hf x9 ex9
            refine lv_iinc (v := x9) (lv' := [(3, .int x9), (4, .int x3), (0, .ref (a 0)), (1, .int n0), (2, .int n1)]) hx hb dX5_digitsEnd_37 hl (k := 4) rfl (by rw [ex9]; rfl) (by decide) rfl (fun ls hl => ?_)
            clear ex9
            refine lv_goto (tgt := 2) hx hb dX5_digitsEnd_40 (by decide) ?_
            exact I2 _ hf _ _ hP hD hS _ (lv_sub hl [2, 3, 4, 0] rfl)
          · have hf := dq_f hf c8
            clear c8
            refine lv_iload_n hx hb dX5_digitsEnd_30 rfl (lv_at hl 2 rfl) ?_
            refine lv_iload_n hx hb dX5_digitsEnd_31 rfl (lv_at hl 4 rfl) ?_
            refine lv_iadd hx hb dX5_digitsEnd_32 ?_
            obtain ⟨x10, hy11, hf⟩ := dq_b hf
            refine ct_callS0 (own := RX5) (As := [.int (n0 + x1)]) (rest := []) ⟨hx, hb, hml, hown, hts⟩ (m_X5_faultAt l D y (n0 + x1) x10 hy11) (va_cwS 1 hts (gA_S wl_146 wl_147 wl_24 wl_148) rfl rfl rfl (by decide +kernel) ⟨Nat.le_of_ble_eq_true rfl, Nat.le_of_ble_eq_true rfl⟩) rfl hl.1 rfl (Nat.le_of_ble_eq_true rfl) dX5_digitsEnd_33 ⟨Nat.zero_le _, Nat.zero_le _⟩ hK hP hD hS hA (fun H locs hP hD hS => ?_)
            obtain rfl := dq_r1 hf
            exact ct_iret hx hb hr hlocks hAe hP hK hD hS dX5_digitsEnd_36
  exact J2 4096 _ hf _ _ hP hD hS _ (lv_sub hl [1, 2, 3, 0] rfl)
noncomputable def f_X5_stepAt (t_length : Int32) (t_letters : (Nat → Int32)) (n0 : Int32) : Option Int32 := dq_bd (f_X5_letterAt t_length t_letters n0) (fun (x1 : Int32) => dq_if (x1 = 97) (some (2 : Int32)) (dq_if (x1 = 98) (some (-1 : Int32)) (dq_if (x1 = 99) (some (6 : Int32)) (dq_if (x1 = 100) (some (-1 : Int32)) (dq_if (x1 = 101) (some (-1 : Int32)) (dq_if (x1 = 102) (some (-1 : Int32)) (dq_if (x1 = 103) (some (4 : Int32)) (dq_if (x1 = 104) (some (-1 : Int32)) (dq_if (x1 = 105) (some (-1 : Int32)) (dq_if (x1 = 106) (some (-1 : Int32)) (dq_if (x1 = 107) (some (-1 : Int32)) (dq_if (x1 = 108) (some (5 : Int32)) (dq_if (x1 = 109) (some (1 : Int32)) (dq_if (x1 = 110) (some (-1 : Int32)) (dq_if (x1 = 111) (some (-1 : Int32)) (dq_if (x1 = 112) (some (-1 : Int32)) (dq_if (x1 = 113) (some (-1 : Int32)) (dq_if (x1 = 114) (some (-1 : Int32)) (dq_if (x1 = 115) (some (3 : Int32)) (dq_if (x1 = 116) (some (0 : Int32)) (some (-1 : Int32))))))))))))))))))))))
def wA_X5_stepAt : List Cond := .code yX5_stepAt cX5_stepAt 2 (some .int) :: wsL_law
-- DraughtsTake$Text.stepAt(I)I
set_option maxHeartbeats 4000000 in
set_option maxRecDepth 100000 in
theorem m_X5_stepAt (l : Launch) (D : va_G) (y : Nat → ClassId) (a : (Nat → Nat)) (t_length : Int32) (t_letters : (Nat → Int32)) (n0 : Int32) (z0 : Int32) (hf : f_X5_stepAt t_length t_letters n0 = some z0) : Ct l D y yX5_stepAt wA_X5_stepAt 1 21 [.ref (a 0), .int n0] (w_X5 y a t_length t_letters) (w_X5 y a t_length t_letters) (some (.int z0)) := by
  refine ct_head (cc := cX5_stepAt) (n := 2) (ret := (some .int)) (by decide) rfl (Nat.le_of_ble_eq_true rfl) ?_
  intro p e s m below meth c A ls hx hb hr hml hown hlocks hts hA hAe hP hK hD hl
  have hS : va_S A s.heap s.heap [] := va_S.rf
  have hl : lv_has ls 2 [(0, .ref (a 0)), (1, .int n0)] := hl
  have hown : s.vm.findClass RX5 = some m.cls := hown
  have hts : ∀ w ∈ wsL_law, w.before [.ref (a 0), .int n0].toArray s = true := fun w h => hts w (List.mem_cons_of_mem _ h)
  unfold f_X5_stepAt at hf
  refine lv_aload_n hx hb dX5_stepAt_0 rfl (lv_at hl 0 rfl) ?_
  refine lv_iload_n hx hb dX5_stepAt_1 rfl (lv_at hl 1 rfl) ?_
  obtain ⟨x1, hy2, hf⟩ := dq_b hf
  refine ct_callV0 (ci := 4) (q0 := 0) (own := RX5) (As := [.int n0]) (rest := []) (ws' := (w_X5 y a t_length t_letters)) ⟨hx, hb, hml, hown, hts⟩ (m_X5_letterAt l D y a t_length t_letters n0 x1 hy2) (cwV 1 hts (gA_V wl_153 wl_154 wl_155 wl_24 wl_156) rfl rfl rfl (by decide +kernel) ⟨Nat.le_of_ble_eq_true rfl, Nat.le_of_ble_eq_true rfl⟩) rfl rfl rfl hl.1 rfl (Nat.le_of_ble_eq_true rfl) dX5_stepAt_2 ⟨Nat.zero_le _, Nat.zero_le _⟩ hK hP hD hS hA (fun H locs hP hD hS => ?_)
  by_cases c3 : x1 = (97 : Int32)
  · have hf := dq_t hf c3
    refine lv_tableIn (tgt := 104) (off := 99) hx hb dX5_stepAt_5 (by rw [c3]; decide) (by rw [c3]; decide) (by rw [c3]; decide) (by decide) ?_
    clear c3
    refine lv_iconst (v := 2) hx hb dX5_stepAt_104 (by decide) ?_
    obtain rfl := dq_r1 hf
    exact ct_iret hx hb hr hlocks hAe hP hK hD hS dX5_stepAt_105
  have hf := dq_f hf c3
  by_cases c4 : x1 = (98 : Int32)
  · have hf := dq_t hf c4
    refine lv_tableIn (tgt := 115) (off := 110) hx hb dX5_stepAt_5 (by rw [c4]; decide) (by rw [c4]; decide) (by rw [c4]; decide) (by decide) ?_
    clear c3 c4
    refine lv_iconst (v := -1) hx hb dX5_stepAt_115 (by decide) ?_
    obtain rfl := dq_r1 hf
    exact ct_iret hx hb hr hlocks hAe hP hK hD hS dX5_stepAt_116
  have hf := dq_f hf c4
  by_cases c5 : x1 = (99 : Int32)
  · have hf := dq_t hf c5
    refine lv_tableIn (tgt := 112) (off := 107) hx hb dX5_stepAt_5 (by rw [c5]; decide) (by rw [c5]; decide) (by rw [c5]; decide) (by decide) ?_
    clear c3 c4 c5
    refine lv_bipush (v := 6) hx hb dX5_stepAt_112 (by decide) ?_
    obtain rfl := dq_r1 hf
    exact ct_iret hx hb hr hlocks hAe hP hK hD hS dX5_stepAt_114
  have hf := dq_f hf c5
  by_cases c6 : x1 = (100 : Int32)
  · have hf := dq_t hf c6
    refine lv_tableIn (tgt := 115) (off := 110) hx hb dX5_stepAt_5 (by rw [c6]; decide) (by rw [c6]; decide) (by rw [c6]; decide) (by decide) ?_
    clear c3 c4 c5 c6
    refine lv_iconst (v := -1) hx hb dX5_stepAt_115 (by decide) ?_
    obtain rfl := dq_r1 hf
    exact ct_iret hx hb hr hlocks hAe hP hK hD hS dX5_stepAt_116
  have hf := dq_f hf c6
  by_cases c7 : x1 = (101 : Int32)
  · have hf := dq_t hf c7
    refine lv_tableIn (tgt := 115) (off := 110) hx hb dX5_stepAt_5 (by rw [c7]; decide) (by rw [c7]; decide) (by rw [c7]; decide) (by decide) ?_
    clear c3 c4 c5 c6 c7
    refine lv_iconst (v := -1) hx hb dX5_stepAt_115 (by decide) ?_
    obtain rfl := dq_r1 hf
    exact ct_iret hx hb hr hlocks hAe hP hK hD hS dX5_stepAt_116
  have hf := dq_f hf c7
  by_cases c8 : x1 = (102 : Int32)
  · have hf := dq_t hf c8
    refine lv_tableIn (tgt := 115) (off := 110) hx hb dX5_stepAt_5 (by rw [c8]; decide) (by rw [c8]; decide) (by rw [c8]; decide) (by decide) ?_
    clear c3 c4 c5 c6 c7 c8
    refine lv_iconst (v := -1) hx hb dX5_stepAt_115 (by decide) ?_
    obtain rfl := dq_r1 hf
    exact ct_iret hx hb hr hlocks hAe hP hK hD hS dX5_stepAt_116
  have hf := dq_f hf c8
  by_cases c9 : x1 = (103 : Int32)
  · have hf := dq_t hf c9
    refine lv_tableIn (tgt := 108) (off := 103) hx hb dX5_stepAt_5 (by rw [c9]; decide) (by rw [c9]; decide) (by rw [c9]; decide) (by decide) ?_
    clear c3 c4 c5 c6 c7 c8 c9
    refine lv_iconst (v := 4) hx hb dX5_stepAt_108 (by decide) ?_
    obtain rfl := dq_r1 hf
    exact ct_iret hx hb hr hlocks hAe hP hK hD hS dX5_stepAt_109
  have hf := dq_f hf c9
  by_cases c10 : x1 = (104 : Int32)
  · have hf := dq_t hf c10
    refine lv_tableIn (tgt := 115) (off := 110) hx hb dX5_stepAt_5 (by rw [c10]; decide) (by rw [c10]; decide) (by rw [c10]; decide) (by decide) ?_
    clear c3 c4 c5 c6 c7 c8 c9 c10
    refine lv_iconst (v := -1) hx hb dX5_stepAt_115 (by decide) ?_
    obtain rfl := dq_r1 hf
    exact ct_iret hx hb hr hlocks hAe hP hK hD hS dX5_stepAt_116
  have hf := dq_f hf c10
  by_cases c11 : x1 = (105 : Int32)
  · have hf := dq_t hf c11
    refine lv_tableIn (tgt := 115) (off := 110) hx hb dX5_stepAt_5 (by rw [c11]; decide) (by rw [c11]; decide) (by rw [c11]; decide) (by decide) ?_
    clear c3 c4 c5 c6 c7 c8 c9 c10 c11
    refine lv_iconst (v := -1) hx hb dX5_stepAt_115 (by decide) ?_
    obtain rfl := dq_r1 hf
    exact ct_iret hx hb hr hlocks hAe hP hK hD hS dX5_stepAt_116
  have hf := dq_f hf c11
  by_cases c12 : x1 = (106 : Int32)
  · have hf := dq_t hf c12
    refine lv_tableIn (tgt := 115) (off := 110) hx hb dX5_stepAt_5 (by rw [c12]; decide) (by rw [c12]; decide) (by rw [c12]; decide) (by decide) ?_
    clear c3 c4 c5 c6 c7 c8 c9 c10 c11 c12
    refine lv_iconst (v := -1) hx hb dX5_stepAt_115 (by decide) ?_
    obtain rfl := dq_r1 hf
    exact ct_iret hx hb hr hlocks hAe hP hK hD hS dX5_stepAt_116
  have hf := dq_f hf c12
  by_cases c13 : x1 = (107 : Int32)
  · have hf := dq_t hf c13
    refine lv_tableIn (tgt := 115) (off := 110) hx hb dX5_stepAt_5 (by rw [c13]; decide) (by rw [c13]; decide) (by rw [c13]; decide) (by decide) ?_
    clear c3 c4 c5 c6 c7 c8 c9 c10 c11 c12 c13
    refine lv_iconst (v := -1) hx hb dX5_stepAt_115 (by decide) ?_
    obtain rfl := dq_r1 hf
    exact ct_iret hx hb hr hlocks hAe hP hK hD hS dX5_stepAt_116
  have hf := dq_f hf c13
  by_cases c14 : x1 = (108 : Int32)
  · have hf := dq_t hf c14
    refine lv_tableIn (tgt := 110) (off := 105) hx hb dX5_stepAt_5 (by rw [c14]; decide) (by rw [c14]; decide) (by rw [c14]; decide) (by decide) ?_
    clear c3 c4 c5 c6 c7 c8 c9 c10 c11 c12 c13 c14
    refine lv_iconst (v := 5) hx hb dX5_stepAt_110 (by decide) ?_
    obtain rfl := dq_r1 hf
    exact ct_iret hx hb hr hlocks hAe hP hK hD hS dX5_stepAt_111
  have hf := dq_f hf c14
  by_cases c15 : x1 = (109 : Int32)
  · have hf := dq_t hf c15
    refine lv_tableIn (tgt := 102) (off := 97) hx hb dX5_stepAt_5 (by rw [c15]; decide) (by rw [c15]; decide) (by rw [c15]; decide) (by decide) ?_
    clear c3 c4 c5 c6 c7 c8 c9 c10 c11 c12 c13 c14 c15
    refine lv_iconst (v := 1) hx hb dX5_stepAt_102 (by decide) ?_
    obtain rfl := dq_r1 hf
    exact ct_iret hx hb hr hlocks hAe hP hK hD hS dX5_stepAt_103
  have hf := dq_f hf c15
  by_cases c16 : x1 = (110 : Int32)
  · have hf := dq_t hf c16
    refine lv_tableIn (tgt := 115) (off := 110) hx hb dX5_stepAt_5 (by rw [c16]; decide) (by rw [c16]; decide) (by rw [c16]; decide) (by decide) ?_
    clear c3 c4 c5 c6 c7 c8 c9 c10 c11 c12 c13 c14 c15 c16
    refine lv_iconst (v := -1) hx hb dX5_stepAt_115 (by decide) ?_
    obtain rfl := dq_r1 hf
    exact ct_iret hx hb hr hlocks hAe hP hK hD hS dX5_stepAt_116
  have hf := dq_f hf c16
  by_cases c17 : x1 = (111 : Int32)
  · have hf := dq_t hf c17
    refine lv_tableIn (tgt := 115) (off := 110) hx hb dX5_stepAt_5 (by rw [c17]; decide) (by rw [c17]; decide) (by rw [c17]; decide) (by decide) ?_
    clear c3 c4 c5 c6 c7 c8 c9 c10 c11 c12 c13 c14 c15 c16 c17
    refine lv_iconst (v := -1) hx hb dX5_stepAt_115 (by decide) ?_
    obtain rfl := dq_r1 hf
    exact ct_iret hx hb hr hlocks hAe hP hK hD hS dX5_stepAt_116
  have hf := dq_f hf c17
  by_cases c18 : x1 = (112 : Int32)
  · have hf := dq_t hf c18
    refine lv_tableIn (tgt := 115) (off := 110) hx hb dX5_stepAt_5 (by rw [c18]; decide) (by rw [c18]; decide) (by rw [c18]; decide) (by decide) ?_
    clear c3 c4 c5 c6 c7 c8 c9 c10 c11 c12 c13 c14 c15 c16 c17 c18
    refine lv_iconst (v := -1) hx hb dX5_stepAt_115 (by decide) ?_
    obtain rfl := dq_r1 hf
    exact ct_iret hx hb hr hlocks hAe hP hK hD hS dX5_stepAt_116
  have hf := dq_f hf c18
  by_cases c19 : x1 = (113 : Int32)
  · have hf := dq_t hf c19
    refine lv_tableIn (tgt := 115) (off := 110) hx hb dX5_stepAt_5 (by rw [c19]; decide) (by rw [c19]; decide) (by rw [c19]; decide) (by decide) ?_
    clear c3 c4 c5 c6 c7 c8 c9 c10 c11 c12 c13 c14 c15 c16 c17 c18 c19
    refine lv_iconst (v := -1) hx hb dX5_stepAt_115 (by decide) ?_
    obtain rfl := dq_r1 hf
    exact ct_iret hx hb hr hlocks hAe hP hK hD hS dX5_stepAt_116
  have hf := dq_f hf c19
  by_cases c20 : x1 = (114 : Int32)
  · have hf := dq_t hf c20
    refine lv_tableIn (tgt := 115) (off := 110) hx hb dX5_stepAt_5 (by rw [c20]; decide) (by rw [c20]; decide) (by rw [c20]; decide) (by decide) ?_
    clear c3 c4 c5 c6 c7 c8 c9 c10 c11 c12 c13 c14 c15 c16 c17 c18 c19 c20
    refine lv_iconst (v := -1) hx hb dX5_stepAt_115 (by decide) ?_
    obtain rfl := dq_r1 hf
    exact ct_iret hx hb hr hlocks hAe hP hK hD hS dX5_stepAt_116
  have hf := dq_f hf c20
  by_cases c21 : x1 = (115 : Int32)
  · have hf := dq_t hf c21
    refine lv_tableIn (tgt := 106) (off := 101) hx hb dX5_stepAt_5 (by rw [c21]; decide) (by rw [c21]; decide) (by rw [c21]; decide) (by decide) ?_
    clear c3 c4 c5 c6 c7 c8 c9 c10 c11 c12 c13 c14 c15 c16 c17 c18 c19 c20 c21
    refine lv_iconst (v := 3) hx hb dX5_stepAt_106 (by decide) ?_
    obtain rfl := dq_r1 hf
    exact ct_iret hx hb hr hlocks hAe hP hK hD hS dX5_stepAt_107
  have hf := dq_f hf c21
  by_cases c22 : x1 = (116 : Int32)
  · have hf := dq_t hf c22
    refine lv_tableIn (tgt := 100) (off := 95) hx hb dX5_stepAt_5 (by rw [c22]; decide) (by rw [c22]; decide) (by rw [c22]; decide) (by decide) ?_
    clear c3 c4 c5 c6 c7 c8 c9 c10 c11 c12 c13 c14 c15 c16 c17 c18 c19 c20 c21 c22
    refine lv_iconst (v := 0) hx hb dX5_stepAt_100 (by decide) ?_
    obtain rfl := dq_r1 hf
    exact ct_iret hx hb hr hlocks hAe hP hK hD hS dX5_stepAt_101
  have hf := dq_f hf c22
  have c3 : x1.toInt ≠ 97 := fun q => c3 (Int32.toInt_inj.mp q)
  have c4 : x1.toInt ≠ 98 := fun q => c4 (Int32.toInt_inj.mp q)
  have c5 : x1.toInt ≠ 99 := fun q => c5 (Int32.toInt_inj.mp q)
  have c6 : x1.toInt ≠ 100 := fun q => c6 (Int32.toInt_inj.mp q)
  have c7 : x1.toInt ≠ 101 := fun q => c7 (Int32.toInt_inj.mp q)
  have c8 : x1.toInt ≠ 102 := fun q => c8 (Int32.toInt_inj.mp q)
  have c9 : x1.toInt ≠ 103 := fun q => c9 (Int32.toInt_inj.mp q)
  have c10 : x1.toInt ≠ 104 := fun q => c10 (Int32.toInt_inj.mp q)
  have c11 : x1.toInt ≠ 105 := fun q => c11 (Int32.toInt_inj.mp q)
  have c12 : x1.toInt ≠ 106 := fun q => c12 (Int32.toInt_inj.mp q)
  have c13 : x1.toInt ≠ 107 := fun q => c13 (Int32.toInt_inj.mp q)
  have c14 : x1.toInt ≠ 108 := fun q => c14 (Int32.toInt_inj.mp q)
  have c15 : x1.toInt ≠ 109 := fun q => c15 (Int32.toInt_inj.mp q)
  have c16 : x1.toInt ≠ 110 := fun q => c16 (Int32.toInt_inj.mp q)
  have c17 : x1.toInt ≠ 111 := fun q => c17 (Int32.toInt_inj.mp q)
  have c18 : x1.toInt ≠ 112 := fun q => c18 (Int32.toInt_inj.mp q)
  have c19 : x1.toInt ≠ 113 := fun q => c19 (Int32.toInt_inj.mp q)
  have c20 : x1.toInt ≠ 114 := fun q => c20 (Int32.toInt_inj.mp q)
  have c21 : x1.toInt ≠ 115 := fun q => c21 (Int32.toInt_inj.mp q)
  have c22 : x1.toInt ≠ 116 := fun q => c22 (Int32.toInt_inj.mp q)
  refine lv_tableOut (tgt := 115) hx hb dX5_stepAt_5 (by omega) (by decide) ?_
  clear c3 c4 c5 c6 c7 c8 c9 c10 c11 c12 c13 c14 c15 c16 c17 c18 c19 c20 c21 c22
  refine lv_iconst (v := -1) hx hb dX5_stepAt_115 (by decide) ?_
  obtain rfl := dq_r1 hf
  exact ct_iret hx hb hr hlocks hAe hP hK hD hS dX5_stepAt_116
noncomputable def f_X5_stepEnd (t_length : Int32) (t_letters : (Nat → Int32)) (n0 : Int32) : Option Int32 := dq_bd (f_X5_stepAt t_length t_letters n0) (fun (x1 : Int32) => dq_if (x1 = (6 : Int32)) (some (n0 + (1 : Int32))) (dq_bd (f_X5_digitsEnd t_length t_letters (n0 + (1 : Int32)) (2 : Int32)) (fun (x4 : Int32) => some x4)))
def wA_X5_stepEnd : List Cond := .code yX5_stepEnd cX5_stepEnd 2 (some .int) :: wsL_law
-- DraughtsTake$Text.stepEnd(I)I
set_option maxHeartbeats 4000000 in
set_option maxRecDepth 100000 in
theorem m_X5_stepEnd (l : Launch) (D : va_G) (y : Nat → ClassId) (a : (Nat → Nat)) (t_length : Int32) (t_letters : (Nat → Int32)) (n0 : Int32) (z0 : Int32) (hf : f_X5_stepEnd t_length t_letters n0 = some z0) : Ct l D y yX5_stepEnd wA_X5_stepEnd 2 45 [.ref (a 0), .int n0] (w_X5 y a t_length t_letters) (w_X5 y a t_length t_letters) (some (.int z0)) := by
  refine ct_head (cc := cX5_stepEnd) (n := 2) (ret := (some .int)) (by decide) rfl (Nat.le_of_ble_eq_true rfl) ?_
  intro p e s m below meth c A ls hx hb hr hml hown hlocks hts hA hAe hP hK hD hl
  have hS : va_S A s.heap s.heap [] := va_S.rf
  have hl : lv_has ls 2 [(0, .ref (a 0)), (1, .int n0)] := hl
  have hown : s.vm.findClass RX5 = some m.cls := hown
  have hts : ∀ w ∈ wsL_law, w.before [.ref (a 0), .int n0].toArray s = true := fun w h => hts w (List.mem_cons_of_mem _ h)
  unfold f_X5_stepEnd at hf
  refine lv_aload_n hx hb dX5_stepEnd_0 rfl (lv_at hl 0 rfl) ?_
  refine lv_iload_n hx hb dX5_stepEnd_1 rfl (lv_at hl 1 rfl) ?_
  obtain ⟨x1, hy2, hf⟩ := dq_b hf
  refine ct_callV0 (ci := 4) (q0 := 0) (own := RX5) (As := [.int n0]) (rest := []) (ws' := (w_X5 y a t_length t_letters)) ⟨hx, hb, hml, hown, hts⟩ (m_X5_stepAt l D y a t_length t_letters n0 x1 hy2) (cwV 1 hts (gA_V wl_165 wl_166 wl_167 wl_24 wl_168) rfl rfl rfl (by decide +kernel) ⟨Nat.le_of_ble_eq_true rfl, Nat.le_of_ble_eq_true rfl⟩) rfl rfl rfl hl.1 rfl (Nat.le_of_ble_eq_true rfl) dX5_stepEnd_2 ⟨Nat.zero_le _, Nat.zero_le _⟩ hK hP hD hS hA (fun H locs hP hD hS => ?_)
  refine lv_bipush (v := 6) hx hb dX5_stepEnd_5 (by decide) ?_
  refine lv_icmp_ne (tgt := 16) hx hb dX5_stepEnd_7 (by decide) (fun c3 => ?_) (fun c3 => ?_)
  · have hf := dq_f hf c3
    clear c3
    refine lv_aload_n hx hb dX5_stepEnd_16 rfl (lv_at hl 0 rfl) ?_
    refine lv_iload_n hx hb dX5_stepEnd_17 rfl (lv_at hl 1 rfl) ?_
    refine lv_iconst (v := 1) hx hb dX5_stepEnd_18 (by decide) ?_
    refine lv_iadd hx hb dX5_stepEnd_19 ?_
    refine lv_iconst (v := 2) hx hb dX5_stepEnd_20 (by decide) ?_
    obtain ⟨x4, hy5, hf⟩ := dq_b hf
    refine ct_callV0 (ci := 4) (q0 := 0) (own := RX5) (As := [.int (n0 + (1 : Int32)), .int (2 : Int32)]) (rest := []) (ws' := (w_X5 y a t_length t_letters)) ⟨hx, hb, hml, hown, hts⟩ (m_X5_digitsEnd l D y a t_length t_letters (n0 + (1 : Int32)) (2 : Int32) x4 hy5) (cwV 2 hts (gA_V wl_157 wl_158 wl_159 wl_24 wl_160) rfl rfl rfl (by decide +kernel) ⟨Nat.le_of_ble_eq_true rfl, Nat.le_of_ble_eq_true rfl⟩) rfl rfl rfl hl.1 rfl (Nat.le_of_ble_eq_true rfl) dX5_stepEnd_21 ⟨Nat.zero_le _, Nat.zero_le _⟩ hK hP hD hS hA (fun H locs hP hD hS => ?_)
    obtain rfl := dq_r1 hf
    exact ct_iret hx hb hr hlocks hAe hP hK hD hS dX5_stepEnd_24
  · have hf := dq_t hf c3
    clear c3
    refine lv_iload_n hx hb dX5_stepEnd_10 rfl (lv_at hl 1 rfl) ?_
    refine lv_iconst (v := 1) hx hb dX5_stepEnd_11 (by decide) ?_
    refine lv_iadd hx hb dX5_stepEnd_12 ?_
    refine lv_goto (tgt := 24) hx hb dX5_stepEnd_13 (by decide) ?_
    obtain rfl := dq_r1 hf
    exact ct_iret hx hb hr hlocks hAe hP hK hD hS dX5_stepEnd_24
noncomputable def f_X5_stepsEnd_b4 (t_length : Int32) (t_letters : (Nat → Int32))  : Nat → Int32 → Int32 → Option Int32
  | 0, _, _ => none
  | m4 + 1, x1, x2 => dq_if ((96 : Int32) ≤ x2) (some x1) (dq_bd (f_X5_stepAt t_length t_letters x1) (fun (x4 : Int32) => dq_if (x4 < 0) (some x1) (dq_bd (f_X5_stepEnd t_length t_letters x1) (fun (x7 : Int32) => dq_if (0 ≤ x7) (dq_let (x2 + (1 : Int32)) (fun (x10 : Int32) => (f_X5_stepsEnd_b4 t_length t_letters m4) x7 x10)) (some x7)))))
noncomputable def f_X5_stepsEnd (t_length : Int32) (t_letters : (Nat → Int32)) (n0 : Int32) : Option Int32 := f_X5_stepsEnd_b4 t_length t_letters 4096 n0 (0 : Int32)
def wA_X5_stepsEnd : List Cond := .code yX5_stepsEnd cX5_stepsEnd 4 (some .int) :: wsL_law
-- DraughtsTake$Text.stepsEnd(I)I
set_option maxHeartbeats 4000000 in
set_option maxRecDepth 100000 in
theorem m_X5_stepsEnd (l : Launch) (D : va_G) (y : Nat → ClassId) (a : (Nat → Nat)) (t_length : Int32) (t_letters : (Nat → Int32)) (n0 : Int32) (z0 : Int32) (hf : f_X5_stepsEnd t_length t_letters n0 = some z0) : Ct l D y yX5_stepsEnd wA_X5_stepsEnd 3 66 [.ref (a 0), .int n0] (w_X5 y a t_length t_letters) (w_X5 y a t_length t_letters) (some (.int z0)) := by
  refine ct_head (cc := cX5_stepsEnd) (n := 4) (ret := (some .int)) (by decide) rfl (Nat.le_of_ble_eq_true rfl) ?_
  intro p e s m below meth c A ls hx hb hr hml hown hlocks hts hA hAe hP hK hD hl
  have hS : va_S A s.heap s.heap [] := va_S.rf
  have hl : lv_has ls 4 [(0, .ref (a 0)), (1, .int n0)] := hl
  have hown : s.vm.findClass RX5 = some m.cls := hown
  have hts : ∀ w ∈ wsL_law, w.before [.ref (a 0), .int n0].toArray s = true := fun w h => hts w (List.mem_cons_of_mem _ h)
  unfold f_X5_stepsEnd at hf
  refine lv_iload_n hx hb dX5_stepsEnd_0 rfl (lv_at hl 1 rfl) ?_
  refine lv_istore_n (lv' := [(2, .int n0), (0, .ref (a 0)), (1, .int n0)]) hx hb dX5_stepsEnd_1 rfl hl (by decide) rfl (fun ls hl => ?_)
  refine lv_iconst (v := 0) hx hb dX5_stepsEnd_2 (by decide) ?_
  refine lv_istore_n (lv' := [(3, .int (0 : Int32)), (2, .int n0), (0, .ref (a 0)), (1, .int n0)]) hx hb dX5_stepsEnd_3 rfl hl (by decide) rfl (fun ls hl => ?_)
  have J4 : ∀ (m4 : Nat) (x1 : Int32) (x2 : Int32), f_X5_stepsEnd_b4 t_length t_letters m4 x1 x2 = some z0 → ∀ (H : Heap) (locs : List Loc), va_P D vwCl (w_X5 y a t_length t_letters) H → va_D A (w_X5 y a t_length t_letters) → va_S A s.heap H locs → ∀ ls : Array Slot, lv_has ls 4 [(0, .ref (a 0)), (2, .int x1), (3, .int x2)] → W p l e ({ frames := 3, cells := 0, slots := 0, locals := 66 } : Room) s m [.ref (a 0), .int n0].toArray below meth c H locs 0 0 (MQ below (dQ D y (some (.int z0)) s.heap.size (w_X5 y a t_length t_letters) (w_X5 y a t_length t_letters)) [.ref (a 0), .int n0].toArray s 0 0 A) (F0 m 4 ls []) := by
    intro m4
    induction m4 with
    | zero => intro x1 x2 hf; exact absurd hf (by unfold f_X5_stepsEnd_b4; exact fun h => by cases h)
    | succ m4 I4 =>
      intro x1 x2 hf H locs hP hD hS ls hl
      unfold f_X5_stepsEnd_b4 at hf
      refine lv_iload_n hx hb dX5_stepsEnd_4 rfl (lv_at hl 2 rfl) ?_
      refine lv_bipush (v := 96) hx hb dX5_stepsEnd_5 (by decide) ?_
      refine lv_icmp_ge (tgt := 36) hx hb dX5_stepsEnd_7 (by decide) (fun c3 => ?_) (fun c3 => ?_)
      · have hf := dq_t hf c3
        clear c3
        refine lv_iload_n hx hb dX5_stepsEnd_36 rfl (lv_at hl 1 rfl) ?_
        obtain rfl := dq_r1 hf
        exact ct_iret hx hb hr hlocks hAe hP hK hD hS dX5_stepsEnd_37
      · have hf := dq_f hf c3
        clear c3
        refine lv_aload_n hx hb dX5_stepsEnd_10 rfl (lv_at hl 0 rfl) ?_
        refine lv_iload_n hx hb dX5_stepsEnd_11 rfl (lv_at hl 1 rfl) ?_
        obtain ⟨x4, hy5, hf⟩ := dq_b hf
        refine ct_callV0 (ci := 4) (q0 := 0) (own := RX5) (As := [.int x1]) (rest := []) (ws' := (w_X5 y a t_length t_letters)) ⟨hx, hb, hml, hown, hts⟩ (m_X5_stepAt l D y a t_length t_letters x1 x4 hy5) (cwV 1 hts (gA_V wl_165 wl_166 wl_167 wl_24 wl_168) rfl rfl rfl (by decide +kernel) ⟨Nat.le_of_ble_eq_true rfl, Nat.le_of_ble_eq_true rfl⟩) rfl rfl rfl hl.1 rfl (Nat.le_of_ble_eq_true rfl) dX5_stepsEnd_12 ⟨Nat.zero_le _, Nat.zero_le _⟩ hK hP hD hS hA (fun H locs hP hD hS => ?_)
        refine lv_if_lt (tgt := 36) hx hb dX5_stepsEnd_15 (by decide) (fun c6 => ?_) (fun c6 => ?_)
        · have hf := dq_t hf c6
          clear c6
          refine lv_iload_n hx hb dX5_stepsEnd_36 rfl (lv_at hl 1 rfl) ?_
          obtain rfl := dq_r1 hf
          exact ct_iret hx hb hr hlocks hAe hP hK hD hS dX5_stepsEnd_37
        · have hf := dq_f hf c6
          clear c6
          refine lv_aload_n hx hb dX5_stepsEnd_18 rfl (lv_at hl 0 rfl) ?_
          refine lv_iload_n hx hb dX5_stepsEnd_19 rfl (lv_at hl 1 rfl) ?_
          obtain ⟨x7, hy8, hf⟩ := dq_b hf
          refine ct_callV0 (ci := 4) (q0 := 0) (own := RX5) (As := [.int x1]) (rest := []) (ws' := (w_X5 y a t_length t_letters)) ⟨hx, hb, hml, hown, hts⟩ (m_X5_stepEnd l D y a t_length t_letters x1 x7 hy8) (cwV 1 hts (gA_V wl_169 wl_170 wl_171 wl_24 wl_172) rfl rfl rfl (by decide +kernel) ⟨Nat.le_of_ble_eq_true rfl, Nat.le_of_ble_eq_true rfl⟩) rfl rfl rfl hl.1 rfl (Nat.le_of_ble_eq_true rfl) dX5_stepsEnd_20 ⟨Nat.zero_le _, Nat.zero_le _⟩ hK hP hD hS hA (fun H locs hP hD hS => ?_)
          refine lv_istore_n (lv' := [(2, .int x7), (0, .ref (a 0)), (3, .int x2)]) hx hb dX5_stepsEnd_23 rfl hl (by decide) rfl (fun ls hl => ?_)
          refine lv_iload_n hx hb dX5_stepsEnd_24 rfl (lv_at hl 0 rfl) ?_
          refine lv_if_ge (tgt := 30) hx hb dX5_stepsEnd_25 (by decide) (fun c9 => ?_) (fun c9 => ?_)
          · have hf := dq_t hf c9
            clear c9
            obtain ⟨x10, ex10⟩ : ∃ z : Int32, z = (x2 + (1 : Int32)) := ⟨_, rfl⟩
            have hf := dq_l hf x10 ex10
            refine lv_iinc (v := x10) (lv' := [(3, .int x10), (2, .int x7), (0, .ref (a 0))]) hx hb dX5_stepsEnd_30 hl (k := 2) rfl (by rw [ex10]; rfl) (by decide) rfl (fun ls hl => ?_)
            clear ex10
            refine lv_goto (tgt := 4) hx hb dX5_stepsEnd_33 (by decide) ?_
            exact I4 _ _ hf _ _ hP hD hS _ (lv_sub hl [2, 1, 0] rfl)
          · have hf := dq_f hf c9
            clear c9
            refine lv_iload_n hx hb dX5_stepsEnd_28 rfl (lv_at hl 0 rfl) ?_
            obtain rfl := dq_r1 hf
            exact ct_iret hx hb hr hlocks hAe hP hK hD hS dX5_stepsEnd_29
  exact J4 4096 _ _ hf _ _ hP hD hS _ (lv_sub hl [2, 1, 0] rfl)
noncomputable def f_X5_statementEnd_b140 (t_length : Int32) (t_letters : (Nat → Int32))  (x3 : Int32) : Option Int32 := dq_if (x3 < 0) (some x3) (dq_bd (f_X5_letterAt t_length t_letters x3) (fun (x5 : Int32) => dq_if (x5 = (59 : Int32)) (dq_let (x3 + (1 : Int32)) (fun (x10 : Int32) => some x10)) (dq_bd (f_X5_faultAt x3) (fun (x8 : Int32) => some x8))))
noncomputable def f_X5_statementEnd (t_length : Int32) (t_letters : (Nat → Int32)) (n0 : Int32) : Option Int32 := dq_bd (f_X5_letterAt t_length t_letters n0) (fun (x1 : Int32) => dq_if (x1 = 97) (dq_bd (f_X5_digitsEnd t_length t_letters (n0 + (1 : Int32)) (5 : Int32)) (fun (x12 : Int32) => f_X5_statementEnd_b140 t_length t_letters x12)) (dq_if (x1 = 100) (dq_bd (f_X5_digitsEnd t_length t_letters (n0 + (1 : Int32)) (2 : Int32)) (fun (x15 : Int32) => f_X5_statementEnd_b140 t_length t_letters x15)) (dq_if (x1 = 108) (dq_bd (f_X5_stepsEnd t_length t_letters (n0 + (1 : Int32))) (fun (x18 : Int32) => f_X5_statementEnd_b140 t_length t_letters x18)) (dq_if (x1 = 112) (dq_bd (f_X5_digitsEnd t_length t_letters (n0 + (1 : Int32)) (3 : Int32)) (fun (x21 : Int32) => f_X5_statementEnd_b140 t_length t_letters x21)) (dq_if (x1 = 116) (dq_bd (f_X5_digitsEnd t_length t_letters (n0 + (1 : Int32)) (2 : Int32)) (fun (x24 : Int32) => f_X5_statementEnd_b140 t_length t_letters x24)) (dq_if (x1 = 119) (dq_bd (f_X5_digitsEnd t_length t_letters (n0 + (1 : Int32)) (4 : Int32)) (fun (x27 : Int32) => f_X5_statementEnd_b140 t_length t_letters x27)) (dq_bd (f_X5_faultAt n0) (fun (x29 : Int32) => f_X5_statementEnd_b140 t_length t_letters x29))))))))
def wA_X5_statementEnd : List Cond := .code yX5_statementEnd cX5_statementEnd 3 (some .int) :: wsL_law
-- DraughtsTake$Text.statementEnd(I)I
set_option maxHeartbeats 4000000 in
set_option maxRecDepth 100000 in
theorem m_X5_statementEnd (l : Launch) (D : va_G) (y : Nat → ClassId) (a : (Nat → Nat)) (t_length : Int32) (t_letters : (Nat → Int32)) (n0 : Int32) (z0 : Int32) (hf : f_X5_statementEnd t_length t_letters n0 = some z0) : Ct l D y yX5_statementEnd wA_X5_statementEnd 4 89 [.ref (a 0), .int n0] (w_X5 y a t_length t_letters) (w_X5 y a t_length t_letters) (some (.int z0)) := by
  refine ct_head (cc := cX5_statementEnd) (n := 3) (ret := (some .int)) (by decide) rfl (Nat.le_of_ble_eq_true rfl) ?_
  intro p e s m below meth c A ls hx hb hr hml hown hlocks hts hA hAe hP hK hD hl
  have hS : va_S A s.heap s.heap [] := va_S.rf
  have hl : lv_has ls 3 [(0, .ref (a 0)), (1, .int n0)] := hl
  have hown : s.vm.findClass RX5 = some m.cls := hown
  have hts : ∀ w ∈ wsL_law, w.before [.ref (a 0), .int n0].toArray s = true := fun w h => hts w (List.mem_cons_of_mem _ h)
  unfold f_X5_statementEnd at hf
  refine lv_aload_n hx hb dX5_statementEnd_0 rfl (lv_at hl 0 rfl) ?_
  refine lv_iload_n hx hb dX5_statementEnd_1 rfl (lv_at hl 1 rfl) ?_
  obtain ⟨x1, hy2, hf⟩ := dq_b hf
  refine ct_callV0 (ci := 4) (q0 := 0) (own := RX5) (As := [.int n0]) (rest := []) (ws' := (w_X5 y a t_length t_letters)) ⟨hx, hb, hml, hown, hts⟩ (m_X5_letterAt l D y a t_length t_letters n0 x1 hy2) (cwV 1 hts (gA_V wl_153 wl_154 wl_155 wl_24 wl_156) rfl rfl rfl (by decide +kernel) ⟨Nat.le_of_ble_eq_true rfl, Nat.le_of_ble_eq_true rfl⟩) rfl rfl rfl hl.1 rfl (Nat.le_of_ble_eq_true rfl) dX5_statementEnd_2 ⟨Nat.zero_le _, Nat.zero_le _⟩ hK hP hD hS hA (fun H locs hP hD hS => ?_)
  have J140 : ∀ (x3 : Int32), f_X5_statementEnd_b140 t_length t_letters x3 = some z0 → ∀ (H : Heap) (locs : List Loc), va_P D vwCl (w_X5 y a t_length t_letters) H → va_D A (w_X5 y a t_length t_letters) → va_S A s.heap H locs → ∀ ls : Array Slot, lv_has ls 3 [(0, .ref (a 0)), (2, .int x3)] → W p l e ({ frames := 4, cells := 0, slots := 0, locals := 89 } : Room) s m [.ref (a 0), .int n0].toArray below meth c H locs 0 0 (MQ below (dQ D y (some (.int z0)) s.heap.size (w_X5 y a t_length t_letters) (w_X5 y a t_length t_letters)) [.ref (a 0), .int n0].toArray s 0 0 A) (F0 m 140 ls []) := by
    intro x3 hf H locs hP hD hS ls hl
    unfold f_X5_statementEnd_b140 at hf
    refine lv_iload_n hx hb dX5_statementEnd_140 rfl (lv_at hl 1 rfl) ?_
    refine lv_if_lt (tgt := 165) hx hb dX5_statementEnd_141 (by decide) (fun c4 => ?_) (fun c4 => ?_)
    · have hf := dq_t hf c4
      clear c4
      refine lv_iload_n hx hb dX5_statementEnd_165 rfl (lv_at hl 1 rfl) ?_
      obtain rfl := dq_r1 hf
      exact ct_iret hx hb hr hlocks hAe hP hK hD hS dX5_statementEnd_166
    · have hf := dq_f hf c4
      clear c4
      refine lv_aload_n hx hb dX5_statementEnd_144 rfl (lv_at hl 0 rfl) ?_
      refine lv_iload_n hx hb dX5_statementEnd_145 rfl (lv_at hl 1 rfl) ?_
      obtain ⟨x5, hy6, hf⟩ := dq_b hf
      refine ct_callV0 (ci := 4) (q0 := 0) (own := RX5) (As := [.int x3]) (rest := []) (ws' := (w_X5 y a t_length t_letters)) ⟨hx, hb, hml, hown, hts⟩ (m_X5_letterAt l D y a t_length t_letters x3 x5 hy6) (cwV 1 hts (gA_V wl_153 wl_154 wl_155 wl_24 wl_156) rfl rfl rfl (by decide +kernel) ⟨Nat.le_of_ble_eq_true rfl, Nat.le_of_ble_eq_true rfl⟩) rfl rfl rfl hl.1 rfl (Nat.le_of_ble_eq_true rfl) dX5_statementEnd_146 ⟨Nat.zero_le _, Nat.zero_le _⟩ hK hP hD hS hA (fun H locs hP hD hS => ?_)
      refine lv_bipush (v := 59) hx hb dX5_statementEnd_149 (by decide) ?_
      refine lv_icmp_ne (tgt := 160) hx hb dX5_statementEnd_151 (by decide) (fun c7 => ?_) (fun c7 => ?_)
      · have hf := dq_f hf c7
        clear c7
        refine lv_iload_n hx hb dX5_statementEnd_160 rfl (lv_at hl 1 rfl) ?_
        obtain ⟨x8, hy9, hf⟩ := dq_b hf
        refine ct_callS0 (own := RX5) (As := [.int x3]) (rest := []) ⟨hx, hb, hml, hown, hts⟩ (m_X5_faultAt l D y x3 x8 hy9) (va_cwS 1 hts (gA_S wl_146 wl_147 wl_24 wl_148) rfl rfl rfl (by decide +kernel) ⟨Nat.le_of_ble_eq_true rfl, Nat.le_of_ble_eq_true rfl⟩) rfl hl.1 rfl (Nat.le_of_ble_eq_true rfl) dX5_statementEnd_161 ⟨Nat.zero_le _, Nat.zero_le _⟩ hK hP hD hS hA (fun H locs hP hD hS => ?_)
        refine lv_istore_n (lv' := [(2, .int x8), (0, .ref (a 0))]) hx hb dX5_statementEnd_164 rfl hl (by decide) rfl (fun ls hl => ?_)
        refine lv_iload_n hx hb dX5_statementEnd_165 rfl (lv_at hl 0 rfl) ?_
        obtain rfl := dq_r1 hf
        exact ct_iret hx hb hr hlocks hAe hP hK hD hS dX5_statementEnd_166
      · have hf := dq_t hf c7
        clear c7
        refine lv_iload_n hx hb dX5_statementEnd_154 rfl (lv_at hl 1 rfl) ?_
        refine lv_iconst (v := 1) hx hb dX5_statementEnd_155 (by decide) ?_
        refine lv_iadd hx hb dX5_statementEnd_156 ?_
        refine lv_goto (tgt := 164) hx hb dX5_statementEnd_157 (by decide) ?_
        refine lv_topi (fun x10 ex10 => ?_)
        have hf := dq_l hf x10 ex10
        clear ex10
        refine lv_istore_n (lv' := [(2, .int x10), (0, .ref (a 0))]) hx hb dX5_statementEnd_164 rfl hl (by decide) rfl (fun ls hl => ?_)
        refine lv_iload_n hx hb dX5_statementEnd_165 rfl (lv_at hl 0 rfl) ?_
        obtain rfl := dq_r1 hf
        exact ct_iret hx hb hr hlocks hAe hP hK hD hS dX5_statementEnd_166
  by_cases c11 : x1 = (97 : Int32)
  · have hf := dq_t hf c11
    refine lv_lookup (tgt := 64) (off := 59) hx hb dX5_statementEnd_5 (by decide) (by rw [c11]; decide) (by decide) ?_
    clear c11
    refine lv_aload_n hx hb dX5_statementEnd_64 rfl (lv_at hl 0 rfl) ?_
    refine lv_iload_n hx hb dX5_statementEnd_65 rfl (lv_at hl 1 rfl) ?_
    refine lv_iconst (v := 1) hx hb dX5_statementEnd_66 (by decide) ?_
    refine lv_iadd hx hb dX5_statementEnd_67 ?_
    refine lv_iconst (v := 5) hx hb dX5_statementEnd_68 (by decide) ?_
    obtain ⟨x12, hy13, hf⟩ := dq_b hf
    refine ct_callV0 (ci := 4) (q0 := 0) (own := RX5) (As := [.int (n0 + (1 : Int32)), .int (5 : Int32)]) (rest := []) (ws' := (w_X5 y a t_length t_letters)) ⟨hx, hb, hml, hown, hts⟩ (m_X5_digitsEnd l D y a t_length t_letters (n0 + (1 : Int32)) (5 : Int32) x12 hy13) (cwV 2 hts (gA_V wl_157 wl_158 wl_159 wl_24 wl_160) rfl rfl rfl (by decide +kernel) ⟨Nat.le_of_ble_eq_true rfl, Nat.le_of_ble_eq_true rfl⟩) rfl rfl rfl hl.1 rfl (Nat.le_of_ble_eq_true rfl) dX5_statementEnd_69 ⟨Nat.zero_le _, Nat.zero_le _⟩ hK hP hD hS hA (fun H locs hP hD hS => ?_)
    refine lv_istore_n (lv' := [(2, .int x12), (0, .ref (a 0)), (1, .int n0)]) hx hb dX5_statementEnd_72 rfl hl (by decide) rfl (fun ls hl => ?_)
    refine lv_goto (tgt := 140) hx hb dX5_statementEnd_73 (by decide) ?_
    exact J140 _ hf _ _ hP hD hS _ (lv_sub hl [1, 0] rfl)
  have hf := dq_f hf c11
  by_cases c14 : x1 = (100 : Int32)
  · have hf := dq_t hf c14
    refine lv_lookup (tgt := 88) (off := 83) hx hb dX5_statementEnd_5 (by decide) (by rw [c14]; decide) (by decide) ?_
    clear c11 c14
    refine lv_aload_n hx hb dX5_statementEnd_88 rfl (lv_at hl 0 rfl) ?_
    refine lv_iload_n hx hb dX5_statementEnd_89 rfl (lv_at hl 1 rfl) ?_
    refine lv_iconst (v := 1) hx hb dX5_statementEnd_90 (by decide) ?_
    refine lv_iadd hx hb dX5_statementEnd_91 ?_
    refine lv_iconst (v := 2) hx hb dX5_statementEnd_92 (by decide) ?_
    obtain ⟨x15, hy16, hf⟩ := dq_b hf
    refine ct_callV0 (ci := 4) (q0 := 0) (own := RX5) (As := [.int (n0 + (1 : Int32)), .int (2 : Int32)]) (rest := []) (ws' := (w_X5 y a t_length t_letters)) ⟨hx, hb, hml, hown, hts⟩ (m_X5_digitsEnd l D y a t_length t_letters (n0 + (1 : Int32)) (2 : Int32) x15 hy16) (cwV 2 hts (gA_V wl_157 wl_158 wl_159 wl_24 wl_160) rfl rfl rfl (by decide +kernel) ⟨Nat.le_of_ble_eq_true rfl, Nat.le_of_ble_eq_true rfl⟩) rfl rfl rfl hl.1 rfl (Nat.le_of_ble_eq_true rfl) dX5_statementEnd_93 ⟨Nat.zero_le _, Nat.zero_le _⟩ hK hP hD hS hA (fun H locs hP hD hS => ?_)
    refine lv_istore_n (lv' := [(2, .int x15), (0, .ref (a 0)), (1, .int n0)]) hx hb dX5_statementEnd_96 rfl hl (by decide) rfl (fun ls hl => ?_)
    refine lv_goto (tgt := 140) hx hb dX5_statementEnd_97 (by decide) ?_
    exact J140 _ hf _ _ hP hD hS _ (lv_sub hl [1, 0] rfl)
  have hf := dq_f hf c14
  by_cases c17 : x1 = (108 : Int32)
  · have hf := dq_t hf c17
    refine lv_lookup (tgt := 124) (off := 119) hx hb dX5_statementEnd_5 (by decide) (by rw [c17]; decide) (by decide) ?_
    clear c11 c14 c17
    refine lv_aload_n hx hb dX5_statementEnd_124 rfl (lv_at hl 0 rfl) ?_
    refine lv_iload_n hx hb dX5_statementEnd_125 rfl (lv_at hl 1 rfl) ?_
    refine lv_iconst (v := 1) hx hb dX5_statementEnd_126 (by decide) ?_
    refine lv_iadd hx hb dX5_statementEnd_127 ?_
    obtain ⟨x18, hy19, hf⟩ := dq_b hf
    refine ct_callV0 (ci := 4) (q0 := 0) (own := RX5) (As := [.int (n0 + (1 : Int32))]) (rest := []) (ws' := (w_X5 y a t_length t_letters)) ⟨hx, hb, hml, hown, hts⟩ (m_X5_stepsEnd l D y a t_length t_letters (n0 + (1 : Int32)) x18 hy19) (cwV 1 hts (gA_V wl_161 wl_162 wl_163 wl_24 wl_164) rfl rfl rfl (by decide +kernel) ⟨Nat.le_of_ble_eq_true rfl, Nat.le_of_ble_eq_true rfl⟩) rfl rfl rfl hl.1 rfl (Nat.le_of_ble_eq_true rfl) dX5_statementEnd_128 ⟨Nat.zero_le _, Nat.zero_le _⟩ hK hP hD hS hA (fun H locs hP hD hS => ?_)
    refine lv_istore_n (lv' := [(2, .int x18), (0, .ref (a 0)), (1, .int n0)]) hx hb dX5_statementEnd_131 rfl hl (by decide) rfl (fun ls hl => ?_)
    refine lv_goto (tgt := 140) hx hb dX5_statementEnd_132 (by decide) ?_
    exact J140 _ hf _ _ hP hD hS _ (lv_sub hl [1, 0] rfl)
  have hf := dq_f hf c17
  by_cases c20 : x1 = (112 : Int32)
  · have hf := dq_t hf c20
    refine lv_lookup (tgt := 76) (off := 71) hx hb dX5_statementEnd_5 (by decide) (by rw [c20]; decide) (by decide) ?_
    clear c11 c14 c17 c20
    refine lv_aload_n hx hb dX5_statementEnd_76 rfl (lv_at hl 0 rfl) ?_
    refine lv_iload_n hx hb dX5_statementEnd_77 rfl (lv_at hl 1 rfl) ?_
    refine lv_iconst (v := 1) hx hb dX5_statementEnd_78 (by decide) ?_
    refine lv_iadd hx hb dX5_statementEnd_79 ?_
    refine lv_iconst (v := 3) hx hb dX5_statementEnd_80 (by decide) ?_
    obtain ⟨x21, hy22, hf⟩ := dq_b hf
    refine ct_callV0 (ci := 4) (q0 := 0) (own := RX5) (As := [.int (n0 + (1 : Int32)), .int (3 : Int32)]) (rest := []) (ws' := (w_X5 y a t_length t_letters)) ⟨hx, hb, hml, hown, hts⟩ (m_X5_digitsEnd l D y a t_length t_letters (n0 + (1 : Int32)) (3 : Int32) x21 hy22) (cwV 2 hts (gA_V wl_157 wl_158 wl_159 wl_24 wl_160) rfl rfl rfl (by decide +kernel) ⟨Nat.le_of_ble_eq_true rfl, Nat.le_of_ble_eq_true rfl⟩) rfl rfl rfl hl.1 rfl (Nat.le_of_ble_eq_true rfl) dX5_statementEnd_81 ⟨Nat.zero_le _, Nat.zero_le _⟩ hK hP hD hS hA (fun H locs hP hD hS => ?_)
    refine lv_istore_n (lv' := [(2, .int x21), (0, .ref (a 0)), (1, .int n0)]) hx hb dX5_statementEnd_84 rfl hl (by decide) rfl (fun ls hl => ?_)
    refine lv_goto (tgt := 140) hx hb dX5_statementEnd_85 (by decide) ?_
    exact J140 _ hf _ _ hP hD hS _ (lv_sub hl [1, 0] rfl)
  have hf := dq_f hf c20
  by_cases c23 : x1 = (116 : Int32)
  · have hf := dq_t hf c23
    refine lv_lookup (tgt := 112) (off := 107) hx hb dX5_statementEnd_5 (by decide) (by rw [c23]; decide) (by decide) ?_
    clear c11 c14 c17 c20 c23
    refine lv_aload_n hx hb dX5_statementEnd_112 rfl (lv_at hl 0 rfl) ?_
    refine lv_iload_n hx hb dX5_statementEnd_113 rfl (lv_at hl 1 rfl) ?_
    refine lv_iconst (v := 1) hx hb dX5_statementEnd_114 (by decide) ?_
    refine lv_iadd hx hb dX5_statementEnd_115 ?_
    refine lv_iconst (v := 2) hx hb dX5_statementEnd_116 (by decide) ?_
    obtain ⟨x24, hy25, hf⟩ := dq_b hf
    refine ct_callV0 (ci := 4) (q0 := 0) (own := RX5) (As := [.int (n0 + (1 : Int32)), .int (2 : Int32)]) (rest := []) (ws' := (w_X5 y a t_length t_letters)) ⟨hx, hb, hml, hown, hts⟩ (m_X5_digitsEnd l D y a t_length t_letters (n0 + (1 : Int32)) (2 : Int32) x24 hy25) (cwV 2 hts (gA_V wl_157 wl_158 wl_159 wl_24 wl_160) rfl rfl rfl (by decide +kernel) ⟨Nat.le_of_ble_eq_true rfl, Nat.le_of_ble_eq_true rfl⟩) rfl rfl rfl hl.1 rfl (Nat.le_of_ble_eq_true rfl) dX5_statementEnd_117 ⟨Nat.zero_le _, Nat.zero_le _⟩ hK hP hD hS hA (fun H locs hP hD hS => ?_)
    refine lv_istore_n (lv' := [(2, .int x24), (0, .ref (a 0)), (1, .int n0)]) hx hb dX5_statementEnd_120 rfl hl (by decide) rfl (fun ls hl => ?_)
    refine lv_goto (tgt := 140) hx hb dX5_statementEnd_121 (by decide) ?_
    exact J140 _ hf _ _ hP hD hS _ (lv_sub hl [1, 0] rfl)
  have hf := dq_f hf c23
  by_cases c26 : x1 = (119 : Int32)
  · have hf := dq_t hf c26
    refine lv_lookup (tgt := 100) (off := 95) hx hb dX5_statementEnd_5 (by decide) (by rw [c26]; decide) (by decide) ?_
    clear c11 c14 c17 c20 c23 c26
    refine lv_aload_n hx hb dX5_statementEnd_100 rfl (lv_at hl 0 rfl) ?_
    refine lv_iload_n hx hb dX5_statementEnd_101 rfl (lv_at hl 1 rfl) ?_
    refine lv_iconst (v := 1) hx hb dX5_statementEnd_102 (by decide) ?_
    refine lv_iadd hx hb dX5_statementEnd_103 ?_
    refine lv_iconst (v := 4) hx hb dX5_statementEnd_104 (by decide) ?_
    obtain ⟨x27, hy28, hf⟩ := dq_b hf
    refine ct_callV0 (ci := 4) (q0 := 0) (own := RX5) (As := [.int (n0 + (1 : Int32)), .int (4 : Int32)]) (rest := []) (ws' := (w_X5 y a t_length t_letters)) ⟨hx, hb, hml, hown, hts⟩ (m_X5_digitsEnd l D y a t_length t_letters (n0 + (1 : Int32)) (4 : Int32) x27 hy28) (cwV 2 hts (gA_V wl_157 wl_158 wl_159 wl_24 wl_160) rfl rfl rfl (by decide +kernel) ⟨Nat.le_of_ble_eq_true rfl, Nat.le_of_ble_eq_true rfl⟩) rfl rfl rfl hl.1 rfl (Nat.le_of_ble_eq_true rfl) dX5_statementEnd_105 ⟨Nat.zero_le _, Nat.zero_le _⟩ hK hP hD hS hA (fun H locs hP hD hS => ?_)
    refine lv_istore_n (lv' := [(2, .int x27), (0, .ref (a 0)), (1, .int n0)]) hx hb dX5_statementEnd_108 rfl hl (by decide) rfl (fun ls hl => ?_)
    refine lv_goto (tgt := 140) hx hb dX5_statementEnd_109 (by decide) ?_
    exact J140 _ hf _ _ hP hD hS _ (lv_sub hl [1, 0] rfl)
  have hf := dq_f hf c26
  refine lv_lookup (tgt := 135) (off := 130) hx hb dX5_statementEnd_5 (by decide) (by show Op.lookupswitch.offset [(97, 59), (100, 83), (108, 119), (112, 71), (116, 107), (119, 95)] 130 _ = _; rw [lv_osw c11 (by decide), lv_osw c14 (by decide), lv_osw c17 (by decide), lv_osw c20 (by decide), lv_osw c23 (by decide), lv_osw c26 (by decide)]; rfl) (by decide) ?_
  clear c11 c14 c17 c20 c23 c26
  refine lv_iload_n hx hb dX5_statementEnd_135 rfl (lv_at hl 1 rfl) ?_
  obtain ⟨x29, hy30, hf⟩ := dq_b hf
  refine ct_callS0 (own := RX5) (As := [.int n0]) (rest := []) ⟨hx, hb, hml, hown, hts⟩ (m_X5_faultAt l D y n0 x29 hy30) (va_cwS 1 hts (gA_S wl_146 wl_147 wl_24 wl_148) rfl rfl rfl (by decide +kernel) ⟨Nat.le_of_ble_eq_true rfl, Nat.le_of_ble_eq_true rfl⟩) rfl hl.1 rfl (Nat.le_of_ble_eq_true rfl) dX5_statementEnd_136 ⟨Nat.zero_le _, Nat.zero_le _⟩ hK hP hD hS hA (fun H locs hP hD hS => ?_)
  refine lv_istore_n (lv' := [(2, .int x29), (0, .ref (a 0)), (1, .int n0)]) hx hb dX5_statementEnd_139 rfl hl (by decide) rfl (fun ls hl => ?_)
  exact J140 _ hf _ _ hP hD hS _ (lv_sub hl [1, 0] rfl)
noncomputable def f_X5_statements_b16 (t_length : Int32) (t_letters : (Nat → Int32))  : Nat → Int32 → Int32 → Option Int32
  | 0, _, _ => none
  | m16 + 1, x2, x3 => dq_if ((96 : Int32) ≤ x3) (dq_bd (f_X5_faultAt x2) (fun (x5 : Int32) => some x5)) (dq_if (x2 < t_length) (dq_bd (f_X5_statementEnd t_length t_letters x2) (fun (x8 : Int32) => dq_if (0 ≤ x8) (dq_let (x3 + (1 : Int32)) (fun (x11 : Int32) => (f_X5_statements_b16 t_length t_letters m16) x8 x11)) (some x8))) (some x3))
noncomputable def f_X5_statements (t_length : Int32) (t_letters : (Nat → Int32)) : Option Int32 := dq_if (t_length = 0) (dq_bd (f_X5_faultAt (0 : Int32)) (fun (x12 : Int32) => some x12)) (f_X5_statements_b16 t_length t_letters 4096 (0 : Int32) (0 : Int32))
def wA_X5_statements : List Cond := .code yX5_statements cX5_statements 4 (some .int) :: wsL_law
-- DraughtsTake$Text.statements()I
set_option maxHeartbeats 4000000 in
set_option maxRecDepth 100000 in
theorem m_X5_statements (l : Launch) (D : va_G) (y : Nat → ClassId) (a : (Nat → Nat)) (t_length : Int32) (t_letters : (Nat → Int32)) (z0 : Int32) (hf : f_X5_statements t_length t_letters = some z0) : Ct l D y yX5_statements wA_X5_statements 5 111 [.ref (a 0)] (w_X5 y a t_length t_letters) (w_X5 y a t_length t_letters) (some (.int z0)) := by
  refine ct_head (cc := cX5_statements) (n := 4) (ret := (some .int)) (by decide) rfl (Nat.le_of_ble_eq_true rfl) ?_
  intro p e s m below meth c A ls hx hb hr hml hown hlocks hts hA hAe hP hK hD hl
  have hS : va_S A s.heap s.heap [] := va_S.rf
  have hl : lv_has ls 4 [(0, .ref (a 0))] := hl
  have hown : s.vm.findClass RX5 = some m.cls := hown
  have hts : ∀ w ∈ wsL_law, w.before [.ref (a 0)].toArray s = true := fun w h => hts w (List.mem_cons_of_mem _ h)
  unfold f_X5_statements at hf
  refine lv_aload_n hx hb dX5_statements_0 rfl (lv_at hl 0 rfl) ?_
  refine va_get (D := D) (ci := 4) (v := .int t_length) (C := RX5) (T := TX5) (N := 2) hx hb hts iwX5 hown hK hP 0 rfl rfl 1 (by decide) (hts _ wl_145) (fun _ h9 => h9) rfl dX5_statements_1 ?_
  refine lv_if_ne (tgt := 12) hx hb dX5_statements_4 (by decide) (fun c1 => ?_) (fun c1 => ?_)
  · have hf := dq_f hf c1
    clear c1
    refine lv_iconst (v := 0) hx hb dX5_statements_12 (by decide) ?_
    refine lv_istore_n (lv' := [(1, .int (0 : Int32)), (0, .ref (a 0))]) hx hb dX5_statements_13 rfl hl (by decide) rfl (fun ls hl => ?_)
    refine lv_iconst (v := 0) hx hb dX5_statements_14 (by decide) ?_
    refine lv_istore_n (lv' := [(2, .int (0 : Int32)), (1, .int (0 : Int32)), (0, .ref (a 0))]) hx hb dX5_statements_15 rfl hl (by decide) rfl (fun ls hl => ?_)
    have J16 : ∀ (m16 : Nat) (x2 : Int32) (x3 : Int32), f_X5_statements_b16 t_length t_letters m16 x2 x3 = some z0 → ∀ (H : Heap) (locs : List Loc), va_P D vwCl (w_X5 y a t_length t_letters) H → va_D A (w_X5 y a t_length t_letters) → va_S A s.heap H locs → ∀ ls : Array Slot, lv_has ls 4 [(0, .ref (a 0)), (1, .int x2), (2, .int x3)] → W p l e ({ frames := 5, cells := 0, slots := 0, locals := 111 } : Room) s m [.ref (a 0)].toArray below meth c H locs 0 0 (MQ below (dQ D y (some (.int z0)) s.heap.size (w_X5 y a t_length t_letters) (w_X5 y a t_length t_letters)) [.ref (a 0)].toArray s 0 0 A) (F0 m 16 ls []) := by
      intro m16
      induction m16 with
      | zero => intro x2 x3 hf; exact absurd hf (by unfold f_X5_statements_b16; exact fun h => by cases h)
      | succ m16 I16 =>
        intro x2 x3 hf H locs hP hD hS ls hl
        unfold f_X5_statements_b16 at hf
        refine lv_iload_n hx hb dX5_statements_16 rfl (lv_at hl 2 rfl) ?_
        refine lv_bipush (v := 96) hx hb dX5_statements_17 (by decide) ?_
        refine lv_icmp_ge (tgt := 52) hx hb dX5_statements_19 (by decide) (fun c4 => ?_) (fun c4 => ?_)
        · have hf := dq_t hf c4
          clear c4
          refine lv_iload_n hx hb dX5_statements_52 rfl (lv_at hl 1 rfl) ?_
          obtain ⟨x5, hy6, hf⟩ := dq_b hf
          refine ct_callS0 (own := RX5) (As := [.int x2]) (rest := []) ⟨hx, hb, hml, hown, hts⟩ (m_X5_faultAt l D y x2 x5 hy6) (va_cwS 1 hts (gA_S wl_146 wl_147 wl_24 wl_148) rfl rfl rfl (by decide +kernel) ⟨Nat.le_of_ble_eq_true rfl, Nat.le_of_ble_eq_true rfl⟩) rfl hl.1 rfl (Nat.le_of_ble_eq_true rfl) dX5_statements_53 ⟨Nat.zero_le _, Nat.zero_le _⟩ hK hP hD hS hA (fun H locs hP hD hS => ?_)
          obtain rfl := dq_r1 hf
          exact ct_iret hx hb hr hlocks hAe hP hK hD hS dX5_statements_56
        · have hf := dq_f hf c4
          clear c4
          refine lv_iload_n hx hb dX5_statements_22 rfl (lv_at hl 1 rfl) ?_
          refine lv_aload_n hx hb dX5_statements_23 rfl (lv_at hl 0 rfl) ?_
          refine va_get (D := D) (ci := 4) (v := .int t_length) (C := RX5) (T := TX5) (N := 2) hx hb hts iwX5 hown hK hP 0 rfl rfl 1 (by decide) (hts _ wl_145) (fun _ h9 => h9) rfl dX5_statements_24 ?_
          refine lv_icmp_lt (tgt := 32) hx hb dX5_statements_27 (by decide) (fun c7 => ?_) (fun c7 => ?_)
          · have hf := dq_t hf c7
            clear c7
            refine lv_aload_n hx hb dX5_statements_32 rfl (lv_at hl 0 rfl) ?_
            refine lv_iload_n hx hb dX5_statements_33 rfl (lv_at hl 1 rfl) ?_
            obtain ⟨x8, hy9, hf⟩ := dq_b hf
            refine ct_callV0 (ci := 4) (q0 := 0) (own := RX5) (As := [.int x2]) (rest := []) (ws' := (w_X5 y a t_length t_letters)) ⟨hx, hb, hml, hown, hts⟩ (m_X5_statementEnd l D y a t_length t_letters x2 x8 hy9) (cwV 1 hts (gA_V wl_149 wl_150 wl_151 wl_24 wl_152) rfl rfl rfl (by decide +kernel) ⟨Nat.le_of_ble_eq_true rfl, Nat.le_of_ble_eq_true rfl⟩) rfl rfl rfl hl.1 rfl (Nat.le_of_ble_eq_true rfl) dX5_statements_34 ⟨Nat.zero_le _, Nat.zero_le _⟩ hK hP hD hS hA (fun H locs hP hD hS => ?_)
            refine lv_istore_n (lv' := [(3, .int x8), (0, .ref (a 0)), (1, .int x2), (2, .int x3)]) hx hb dX5_statements_37 rfl hl (by decide) rfl (fun ls hl => ?_)
            refine lv_iload_n hx hb dX5_statements_38 rfl (lv_at hl 0 rfl) ?_
            refine lv_if_ge (tgt := 44) hx hb dX5_statements_39 (by decide) (fun c10 => ?_) (fun c10 => ?_)
            · have hf := dq_t hf c10
              clear c10
              refine lv_iload_n hx hb dX5_statements_44 rfl (lv_at hl 0 rfl) ?_
              refine lv_istore_n (lv' := [(1, .int x8), (3, .int x8), (0, .ref (a 0)), (2, .int x3)]) hx hb dX5_statements_45 rfl hl (by decide) rfl (fun ls hl => ?_)
              obtain ⟨x11, ex11⟩ : ∃ z : Int32, z = (x3 + (1 : Int32)) := ⟨_, rfl⟩
              have hf := dq_l hf x11 ex11
              refine lv_iinc (v := x11) (lv' := [(2, .int x11), (1, .int x8), (3, .int x8), (0, .ref (a 0))]) hx hb dX5_statements_46 hl (k := 3) rfl (by rw [ex11]; rfl) (by decide) rfl (fun ls hl => ?_)
              clear ex11
              refine lv_goto (tgt := 16) hx hb dX5_statements_49 (by decide) ?_
              exact I16 _ _ hf _ _ hP hD hS _ (lv_sub hl [3, 1, 0] rfl)
            · have hf := dq_f hf c10
              clear c10
              refine lv_iload_n hx hb dX5_statements_42 rfl (lv_at hl 0 rfl) ?_
              obtain rfl := dq_r1 hf
              exact ct_iret hx hb hr hlocks hAe hP hK hD hS dX5_statements_43
          · have hf := dq_f hf c7
            clear c7
            refine lv_iload_n hx hb dX5_statements_30 rfl (lv_at hl 2 rfl) ?_
            obtain rfl := dq_r1 hf
            exact ct_iret hx hb hr hlocks hAe hP hK hD hS dX5_statements_31
    exact J16 4096 _ _ hf _ _ hP hD hS _ (lv_sub hl [2, 1, 0] rfl)
  · have hf := dq_t hf c1
    clear c1
    refine lv_iconst (v := 0) hx hb dX5_statements_7 (by decide) ?_
    obtain ⟨x12, hy13, hf⟩ := dq_b hf
    refine ct_callS0 (own := RX5) (As := [.int (0 : Int32)]) (rest := []) ⟨hx, hb, hml, hown, hts⟩ (m_X5_faultAt l D y (0 : Int32) x12 hy13) (va_cwS 1 hts (gA_S wl_146 wl_147 wl_24 wl_148) rfl rfl rfl (by decide +kernel) ⟨Nat.le_of_ble_eq_true rfl, Nat.le_of_ble_eq_true rfl⟩) rfl hl.1 rfl (Nat.le_of_ble_eq_true rfl) dX5_statements_8 ⟨Nat.zero_le _, Nat.zero_le _⟩ hK hP hD hS hA (fun H locs hP hD hS => ?_)
    obtain rfl := dq_r1 hf
    exact ct_iret hx hb hr hlocks hAe hP hK hD hS dX5_statements_11
noncomputable def f_X5_number_b5 (n0 : Int32) (n1 : Int32) (t_length : Int32) (t_letters : (Nat → Int32))  : Nat → Int32 → Int32 → Option Int32
  | 0, _, _ => none
  | m5 + 1, x1, x2 => dq_if (n1 ≤ x2) (some x1) (dq_bd (f_X5_letterAt t_length t_letters (n0 + x2)) (fun (x4 : Int32) => dq_let ((((10 : Int32) * x1) + x4) - (48 : Int32)) (fun (x6 : Int32) => dq_let (x2 + (1 : Int32)) (fun (x7 : Int32) => (f_X5_number_b5 n0 n1 t_length t_letters m5) x6 x7))))
noncomputable def f_X5_number (t_length : Int32) (t_letters : (Nat → Int32)) (n0 : Int32) (n1 : Int32) : Option Int32 := f_X5_number_b5 n0 n1 t_length t_letters 4096 (0 : Int32) (0 : Int32)
def wA_X5_number : List Cond := .code yX5_number cX5_number 5 (some .int) :: wsL_law
-- DraughtsTake$Text.number(II)I
set_option maxHeartbeats 4000000 in
set_option maxRecDepth 100000 in
theorem m_X5_number (l : Launch) (D : va_G) (y : Nat → ClassId) (a : (Nat → Nat)) (t_length : Int32) (t_letters : (Nat → Int32)) (n0 : Int32) (n1 : Int32) (z0 : Int32) (hf : f_X5_number t_length t_letters n0 n1 = some z0) : Ct l D y yX5_number wA_X5_number 1 21 [.ref (a 0), .int n0, .int n1] (w_X5 y a t_length t_letters) (w_X5 y a t_length t_letters) (some (.int z0)) := by
  refine ct_head (cc := cX5_number) (n := 5) (ret := (some .int)) (by decide) rfl (Nat.le_of_ble_eq_true rfl) ?_
  intro p e s m below meth c A ls hx hb hr hml hown hlocks hts hA hAe hP hK hD hl
  have hS : va_S A s.heap s.heap [] := va_S.rf
  have hl : lv_has ls 5 [(0, .ref (a 0)), (1, .int n0), (2, .int n1)] := hl
  have hown : s.vm.findClass RX5 = some m.cls := hown
  have hts : ∀ w ∈ wsL_law, w.before [.ref (a 0), .int n0, .int n1].toArray s = true := fun w h => hts w (List.mem_cons_of_mem _ h)
  unfold f_X5_number at hf
  refine lv_iconst (v := 0) hx hb dX5_number_0 (by decide) ?_
  refine lv_istore_n (lv' := [(3, .int (0 : Int32)), (0, .ref (a 0)), (1, .int n0), (2, .int n1)]) hx hb dX5_number_1 rfl hl (by decide) rfl (fun ls hl => ?_)
  refine lv_iconst (v := 0) hx hb dX5_number_2 (by decide) ?_
  refine lv_istore (lv' := [(4, .int (0 : Int32)), (3, .int (0 : Int32)), (0, .ref (a 0)), (1, .int n0), (2, .int n1)]) hx hb dX5_number_3 hl (by decide) rfl (fun ls hl => ?_)
  have J5 : ∀ (m5 : Nat) (x1 : Int32) (x2 : Int32), f_X5_number_b5 n0 n1 t_length t_letters m5 x1 x2 = some z0 → ∀ (H : Heap) (locs : List Loc), va_P D vwCl (w_X5 y a t_length t_letters) H → va_D A (w_X5 y a t_length t_letters) → va_S A s.heap H locs → ∀ ls : Array Slot, lv_has ls 5 [(0, .ref (a 0)), (1, .int n0), (2, .int n1), (3, .int x1), (4, .int x2)] → W p l e ({ frames := 1, cells := 0, slots := 0, locals := 21 } : Room) s m [.ref (a 0), .int n0, .int n1].toArray below meth c H locs 0 0 (MQ below (dQ D y (some (.int z0)) s.heap.size (w_X5 y a t_length t_letters) (w_X5 y a t_length t_letters)) [.ref (a 0), .int n0, .int n1].toArray s 0 0 A) (F0 m 5 ls []) := by
    intro m5
    induction m5 with
    | zero => intro x1 x2 hf; exact absurd hf (by unfold f_X5_number_b5; exact fun h => by cases h)
    | succ m5 I5 =>
      intro x1 x2 hf H locs hP hD hS ls hl
      unfold f_X5_number_b5 at hf
      refine lv_iload hx hb dX5_number_5 (lv_at hl 4 rfl) ?_
      refine lv_iload_n hx hb dX5_number_7 rfl (lv_at hl 2 rfl) ?_
      refine lv_icmp_ge (tgt := 34) hx hb dX5_number_8 (by decide) (fun c3 => ?_) (fun c3 => ?_)
      · have hf := dq_t hf c3
        clear c3
        refine lv_iload_n hx hb dX5_number_34 rfl (lv_at hl 3 rfl) ?_
        obtain rfl := dq_r1 hf
        exact ct_iret hx hb hr hlocks hAe hP hK hD hS dX5_number_35
      · have hf := dq_f hf c3
        clear c3
        refine lv_bipush (v := 10) hx hb dX5_number_11 (by decide) ?_
        refine lv_iload_n hx hb dX5_number_13 rfl (lv_at hl 3 rfl) ?_
        refine lv_imul hx hb dX5_number_14 ?_
        refine lv_aload_n hx hb dX5_number_15 rfl (lv_at hl 0 rfl) ?_
        refine lv_iload_n hx hb dX5_number_16 rfl (lv_at hl 1 rfl) ?_
        refine lv_iload hx hb dX5_number_17 (lv_at hl 4 rfl) ?_
        refine lv_iadd hx hb dX5_number_19 ?_
        obtain ⟨x4, hy5, hf⟩ := dq_b hf
        refine ct_callV0 (ci := 4) (q0 := 0) (own := RX5) (As := [.int (n0 + x2)]) (rest := [.int ((10 : Int32) * x1)]) (ws' := (w_X5 y a t_length t_letters)) ⟨hx, hb, hml, hown, hts⟩ (m_X5_letterAt l D y a t_length t_letters (n0 + x2) x4 hy5) (cwV 1 hts (gA_V wl_153 wl_154 wl_155 wl_24 wl_156) rfl rfl rfl (by decide +kernel) ⟨Nat.le_of_ble_eq_true rfl, Nat.le_of_ble_eq_true rfl⟩) rfl rfl rfl hl.1 rfl (Nat.le_of_ble_eq_true rfl) dX5_number_20 ⟨Nat.zero_le _, Nat.zero_le _⟩ hK hP hD hS hA (fun H locs hP hD hS => ?_)
        refine lv_iadd hx hb dX5_number_23 ?_
        refine lv_bipush (v := 48) hx hb dX5_number_24 (by decide) ?_
        refine lv_isub hx hb dX5_number_26 ?_
        refine lv_topi (fun x6 ex6 => ?_)
        have hf := dq_l hf x6 ex6
        clear ex6
        refine lv_istore_n (lv' := [(3, .int x6), (0, .ref (a 0)), (1, .int n0), (2, .int n1), (4, .int x2)]) hx hb dX5_number_27 rfl hl (by decide) rfl (fun ls hl => ?_)
        obtain ⟨x7, ex7⟩ : ∃ z : Int32, z = (x2 + (1 : Int32)) := ⟨_, rfl⟩
        have hf := dq_l hf x7 ex7
        refine lv_iinc (v := x7) (lv' := [(4, .int x7), (3, .int x6), (0, .ref (a 0)), (1, .int n0), (2, .int n1)]) hx hb dX5_number_28 hl (k := 4) rfl (by rw [ex7]; rfl) (by decide) rfl (fun ls hl => ?_)
        clear ex7
        refine lv_goto (tgt := 5) hx hb dX5_number_31 (by decide) ?_
        exact I5 _ _ hf _ _ hP hD hS _ (lv_sub hl [2, 3, 4, 1, 0] rfl)
  exact J5 4096 _ _ hf _ _ hP hD hS _ (lv_sub hl [2, 3, 4, 1, 0] rfl)
def w_X5_tellAir (y : Nat → ClassId) (a : Nat → Nat) (b : Nat → Nat) (t_length : Int32) (t_letters : (Nat → Int32)) (o_shutBits : Int64) (o_airs : Int32) (o_crownedBits : Int32) (o_sitters : Int32) (o_onBits : Int32) (o_turn : Int32) (o_taken : Int32) (o_warmth : (Nat → UInt32)) (o_kind : (Nat → Int32)) (o_figure : (Nat → Int32)) (o_airCell : (Nat → Int32)) (o_way : (Nat → Int32)) (o_seat : (Nat → Int32)) (o_shawls : (Nat → Int32)) (o_count : Int32) (o_steps : (Nat → Int32)) (o_numbers : (Nat → Int32)) : va_W := [((a 0), .inr (4, [.ref (a 1), .int t_length])), ((a 1), .inl (y 1, 96, .inl t_letters)), ((b 0), .inr (1, [.ref (b 1), .long o_shutBits, .int o_airs, .ref (b 2), .ref (b 3), .ref (b 4), .ref (b 5), .int o_crownedBits, .int o_sitters, .ref (b 6), .ref (b 7), .int o_onBits, .int o_turn, .int o_taken, .ref (b 8)])), ((b 1), .inl (y 0, 36, .inr (.inr (.inl o_warmth)))), ((b 2), .inl (y 1, 5, .inl o_kind)), ((b 3), .inl (y 1, 5, .inl o_figure)), ((b 4), .inl (y 1, 5, .inl o_airCell)), ((b 5), .inl (y 1, 5, .inl o_way)), ((b 6), .inl (y 1, 6, .inl o_seat)), ((b 7), .inl (y 1, 6, .inl o_shawls)), ((b 8), .inr (0, [.ref (b 9), .ref (b 10), .int o_count])), ((b 9), .inl (y 1, 6, .inl o_steps)), ((b 10), .inl (y 1, 6, .inl o_numbers))]
noncomputable def f_X5_tellAir (t_length : Int32) (t_letters : (Nat → Int32)) (o_shutBits : Int64) (o_airs : Int32) (o_sitters : Int32) (o_onBits : Int32) (o_kind : (Nat → Int32)) (o_figure : (Nat → Int32)) (o_airCell : (Nat → Int32)) (o_way : (Nat → Int32)) (o_seat : (Nat → Int32)) (n0 : Int32) : Option (Int32 × Int32 × (Nat → Int32) × (Nat → Int32) × (Nat → Int32) × (Nat → Int32)) := dq_bd (f_X5_number t_length t_letters n0 (1 : Int32)) (fun (x1 : Int32) => dq_bd (f_X5_number t_length t_letters (n0 + (2 : Int32)) (2 : Int32)) (fun (x3 : Int32) => dq_bd (f_X5_number t_length t_letters (n0 + (4 : Int32)) (1 : Int32)) (fun (x5 : Int32) => dq_if ((8 : Int32) ≤ x1) (some ((0 : Int32), o_airs, o_kind, o_figure, o_airCell, o_way)) (dq_if ((36 : Int32) ≤ x3) (some ((0 : Int32), o_airs, o_kind, o_figure, o_airCell, o_way)) (dq_if ((4 : Int32) ≤ x5) (some ((0 : Int32), o_airs, o_kind, o_figure, o_airCell, o_way)) (dq_bd (f_X5_number t_length t_letters (n0 + (1 : Int32)) (1 : Int32)) (fun (x10 : Int32) => dq_bd6 (f_X2_addAir o_shutBits o_airs o_sitters o_onBits o_kind o_figure o_airCell o_way o_seat x1 x10 x3 x5) (fun (x12 : Int32) (o_airs_13 : Int32) (o_kind_14 : (Nat → Int32)) (o_figure_15 : (Nat → Int32)) (o_airCell_16 : (Nat → Int32)) (o_way_17 : (Nat → Int32)) => dq_if (x12 = 0) (some ((0 : Int32), o_airs_13, o_kind_14, o_figure_15, o_airCell_16, o_way_17)) (some ((1 : Int32), o_airs_13, o_kind_14, o_figure_15, o_airCell_16, o_way_17))))))))))
def wA_X5_tellAir : List Cond := .code yX5_tellAir cX5_tellAir 6 (some .boolean) :: wsL_law
-- DraughtsTake$Text.tellAir(ILDraughtsTake$House;)Z
set_option maxHeartbeats 4000000 in
set_option maxRecDepth 100000 in
theorem m_X5_tellAir (l : Launch) (D : va_G) (y : Nat → ClassId) (a : (Nat → Nat)) (b : (Nat → Nat)) (t_length : Int32) (t_letters : (Nat → Int32)) (o_shutBits : Int64) (o_airs : Int32) (o_crownedBits : Int32) (o_sitters : Int32) (o_onBits : Int32) (o_turn : Int32) (o_taken : Int32) (o_warmth : (Nat → UInt32)) (o_kind : (Nat → Int32)) (o_figure : (Nat → Int32)) (o_airCell : (Nat → Int32)) (o_way : (Nat → Int32)) (o_seat : (Nat → Int32)) (o_shawls : (Nat → Int32)) (o_count : Int32) (o_steps : (Nat → Int32)) (o_numbers : (Nat → Int32)) (n0 : Int32) (z0 : Int32) (z1 : Int32) (z2 : (Nat → Int32)) (z3 : (Nat → Int32)) (z4 : (Nat → Int32)) (z5 : (Nat → Int32)) (hf : f_X5_tellAir t_length t_letters o_shutBits o_airs o_sitters o_onBits o_kind o_figure o_airCell o_way o_seat n0 = some (z0, z1, z2, z3, z4, z5)) : Ct l D y yX5_tellAir wA_X5_tellAir 3 67 [.ref (a 0), .int n0, .ref (b 0)] (w_X5_tellAir y a b t_length t_letters o_shutBits o_airs o_crownedBits o_sitters o_onBits o_turn o_taken o_warmth o_kind o_figure o_airCell o_way o_seat o_shawls o_count o_steps o_numbers) (w_X5_tellAir y a b t_length t_letters o_shutBits z1 o_crownedBits o_sitters o_onBits o_turn o_taken o_warmth z2 z3 z4 z5 o_seat o_shawls o_count o_steps o_numbers) (some (.int z0)) := by
  refine ct_head (cc := cX5_tellAir) (n := 6) (ret := (some .boolean)) (by decide) rfl (Nat.le_of_ble_eq_true rfl) ?_
  intro p e s m below meth c A ls hx hb hr hml hown hlocks hts hA hAe hP hK hD hl
  have hS : va_S A s.heap s.heap [] := va_S.rf
  have hl : lv_has ls 6 [(0, .ref (a 0)), (1, .int n0), (2, .ref (b 0))] := hl
  have hown : s.vm.findClass RX5 = some m.cls := hown
  have hts : ∀ w ∈ wsL_law, w.before [.ref (a 0), .int n0, .ref (b 0)].toArray s = true := fun w h => hts w (List.mem_cons_of_mem _ h)
  unfold f_X5_tellAir at hf
  refine lv_aload_n hx hb dX5_tellAir_0 rfl (lv_at hl 0 rfl) ?_
  refine lv_iload_n hx hb dX5_tellAir_1 rfl (lv_at hl 1 rfl) ?_
  refine lv_iconst (v := 1) hx hb dX5_tellAir_2 (by decide) ?_
  obtain ⟨x1, hy2, hf⟩ := dq_b hf
  refine ct_callV (ci := 4) (q0 := 0) (own := RX5) (As := [.int n0, .int (1 : Int32)]) (rest := []) (ws' := (w_X5_tellAir y a b t_length t_letters o_shutBits o_airs o_crownedBits o_sitters o_onBits o_turn o_taken o_warmth o_kind o_figure o_airCell o_way o_seat o_shawls o_count o_steps o_numbers)) ⟨hx, hb, hml, hown, hts⟩ (m_X5_number l D y a t_length t_letters n0 (1 : Int32) x1 hy2) (cwV 2 hts (gA_V wl_207 wl_208 wl_209 wl_24 wl_210) rfl rfl rfl (by decide +kernel) ⟨Nat.le_of_ble_eq_true rfl, Nat.le_of_ble_eq_true rfl⟩) rfl rfl rfl hl.1 rfl (Nat.le_of_ble_eq_true rfl) dX5_tellAir_3 ⟨Nat.zero_le _, Nat.zero_le _⟩ hK hP hD hS hA [0, 1] [2, 3, 4, 5, 6, 7, 8, 9, 10, 11, 12] rfl rfl rfl (by decide) (by decide) 13 rfl (by decide +kernel) (fun H locs hP hD hS => ?_)
  refine lv_istore_n (lv' := [(3, .int x1), (0, .ref (a 0)), (1, .int n0), (2, .ref (b 0))]) hx hb dX5_tellAir_6 rfl hl (by decide) rfl (fun ls hl => ?_)
  refine lv_aload_n hx hb dX5_tellAir_7 rfl (lv_at hl 1 rfl) ?_
  refine lv_iload_n hx hb dX5_tellAir_8 rfl (lv_at hl 2 rfl) ?_
  refine lv_iconst (v := 2) hx hb dX5_tellAir_9 (by decide) ?_
  refine lv_iadd hx hb dX5_tellAir_10 ?_
  refine lv_iconst (v := 2) hx hb dX5_tellAir_11 (by decide) ?_
  obtain ⟨x3, hy4, hf⟩ := dq_b hf
  refine ct_callV (ci := 4) (q0 := 0) (own := RX5) (As := [.int (n0 + (2 : Int32)), .int (2 : Int32)]) (rest := []) (ws' := (w_X5_tellAir y a b t_length t_letters o_shutBits o_airs o_crownedBits o_sitters o_onBits o_turn o_taken o_warmth o_kind o_figure o_airCell o_way o_seat o_shawls o_count o_steps o_numbers)) ⟨hx, hb, hml, hown, hts⟩ (m_X5_number l D y a t_length t_letters (n0 + (2 : Int32)) (2 : Int32) x3 hy4) (cwV 2 hts (gA_V wl_207 wl_208 wl_209 wl_24 wl_210) rfl rfl rfl (by decide +kernel) ⟨Nat.le_of_ble_eq_true rfl, Nat.le_of_ble_eq_true rfl⟩) rfl rfl rfl hl.1 rfl (Nat.le_of_ble_eq_true rfl) dX5_tellAir_12 ⟨Nat.zero_le _, Nat.zero_le _⟩ hK hP hD hS hA [0, 1] [2, 3, 4, 5, 6, 7, 8, 9, 10, 11, 12] rfl rfl rfl (by decide) (by decide) 13 rfl (by decide +kernel) (fun H locs hP hD hS => ?_)
  refine lv_istore (lv' := [(4, .int x3), (3, .int x1), (0, .ref (a 0)), (1, .int n0), (2, .ref (b 0))]) hx hb dX5_tellAir_15 hl (by decide) rfl (fun ls hl => ?_)
  refine lv_aload_n hx hb dX5_tellAir_17 rfl (lv_at hl 2 rfl) ?_
  refine lv_iload_n hx hb dX5_tellAir_18 rfl (lv_at hl 3 rfl) ?_
  refine lv_iconst (v := 4) hx hb dX5_tellAir_19 (by decide) ?_
  refine lv_iadd hx hb dX5_tellAir_20 ?_
  refine lv_iconst (v := 1) hx hb dX5_tellAir_21 (by decide) ?_
  obtain ⟨x5, hy6, hf⟩ := dq_b hf
  refine ct_callV (ci := 4) (q0 := 0) (own := RX5) (As := [.int (n0 + (4 : Int32)), .int (1 : Int32)]) (rest := []) (ws' := (w_X5_tellAir y a b t_length t_letters o_shutBits o_airs o_crownedBits o_sitters o_onBits o_turn o_taken o_warmth o_kind o_figure o_airCell o_way o_seat o_shawls o_count o_steps o_numbers)) ⟨hx, hb, hml, hown, hts⟩ (m_X5_number l D y a t_length t_letters (n0 + (4 : Int32)) (1 : Int32) x5 hy6) (cwV 2 hts (gA_V wl_207 wl_208 wl_209 wl_24 wl_210) rfl rfl rfl (by decide +kernel) ⟨Nat.le_of_ble_eq_true rfl, Nat.le_of_ble_eq_true rfl⟩) rfl rfl rfl hl.1 rfl (Nat.le_of_ble_eq_true rfl) dX5_tellAir_22 ⟨Nat.zero_le _, Nat.zero_le _⟩ hK hP hD hS hA [0, 1] [2, 3, 4, 5, 6, 7, 8, 9, 10, 11, 12] rfl rfl rfl (by decide) (by decide) 13 rfl (by decide +kernel) (fun H locs hP hD hS => ?_)
  refine lv_istore (lv' := [(5, .int x5), (4, .int x3), (3, .int x1), (0, .ref (a 0)), (1, .int n0), (2, .ref (b 0))]) hx hb dX5_tellAir_25 hl (by decide) rfl (fun ls hl => ?_)
  refine lv_iload_n hx hb dX5_tellAir_27 rfl (lv_at hl 2 rfl) ?_
  refine lv_bipush (v := 8) hx hb dX5_tellAir_28 (by decide) ?_
  refine lv_icmp_ge (tgt := 70) hx hb dX5_tellAir_30 (by decide) (fun c7 => ?_) (fun c7 => ?_)
  · have hf := dq_t hf c7
    clear c7
    refine lv_iconst (v := 0) hx hb dX5_tellAir_70 (by decide) ?_
    obtain ⟨rfl, rfl, rfl, rfl, rfl, rfl⟩ := dq_r6 hf
    exact ct_zret hx hb hr rfl hlocks hAe hP hK hD hS dX5_tellAir_71
  · have hf := dq_f hf c7
    clear c7
    refine lv_iload hx hb dX5_tellAir_33 (lv_at hl 1 rfl) ?_
    refine lv_bipush (v := 36) hx hb dX5_tellAir_35 (by decide) ?_
    refine lv_icmp_ge (tgt := 70) hx hb dX5_tellAir_37 (by decide) (fun c8 => ?_) (fun c8 => ?_)
    · have hf := dq_t hf c8
      clear c8
      refine lv_iconst (v := 0) hx hb dX5_tellAir_70 (by decide) ?_
      obtain ⟨rfl, rfl, rfl, rfl, rfl, rfl⟩ := dq_r6 hf
      exact ct_zret hx hb hr rfl hlocks hAe hP hK hD hS dX5_tellAir_71
    · have hf := dq_f hf c8
      clear c8
      refine lv_iload hx hb dX5_tellAir_40 (lv_at hl 0 rfl) ?_
      refine lv_iconst (v := 4) hx hb dX5_tellAir_42 (by decide) ?_
      refine lv_icmp_ge (tgt := 70) hx hb dX5_tellAir_43 (by decide) (fun c9 => ?_) (fun c9 => ?_)
      · have hf := dq_t hf c9
        clear c9
        refine lv_iconst (v := 0) hx hb dX5_tellAir_70 (by decide) ?_
        obtain ⟨rfl, rfl, rfl, rfl, rfl, rfl⟩ := dq_r6 hf
        exact ct_zret hx hb hr rfl hlocks hAe hP hK hD hS dX5_tellAir_71
      · have hf := dq_f hf c9
        clear c9
        refine lv_aload_n hx hb dX5_tellAir_46 rfl (lv_at hl 5 rfl) ?_
        refine lv_iload_n hx hb dX5_tellAir_47 rfl (lv_at hl 2 rfl) ?_
        refine lv_aload_n hx hb dX5_tellAir_48 rfl (lv_at hl 3 rfl) ?_
        refine lv_iload_n hx hb dX5_tellAir_49 rfl (lv_at hl 4 rfl) ?_
        refine lv_iconst (v := 1) hx hb dX5_tellAir_50 (by decide) ?_
        refine lv_iadd hx hb dX5_tellAir_51 ?_
        refine lv_iconst (v := 1) hx hb dX5_tellAir_52 (by decide) ?_
        obtain ⟨x10, hy11, hf⟩ := dq_b hf
        refine ct_callV (ci := 4) (q0 := 0) (own := RX5) (As := [.int (n0 + (1 : Int32)), .int (1 : Int32)]) (rest := [.int x1, .ref (b 0)]) (ws' := (w_X5_tellAir y a b t_length t_letters o_shutBits o_airs o_crownedBits o_sitters o_onBits o_turn o_taken o_warmth o_kind o_figure o_airCell o_way o_seat o_shawls o_count o_steps o_numbers)) ⟨hx, hb, hml, hown, hts⟩ (m_X5_number l D y a t_length t_letters (n0 + (1 : Int32)) (1 : Int32) x10 hy11) (cwV 2 hts (gA_V wl_207 wl_208 wl_209 wl_24 wl_210) rfl rfl rfl (by decide +kernel) ⟨Nat.le_of_ble_eq_true rfl, Nat.le_of_ble_eq_true rfl⟩) rfl rfl rfl hl.1 rfl (Nat.le_of_ble_eq_true rfl) dX5_tellAir_53 ⟨Nat.zero_le _, Nat.zero_le _⟩ hK hP hD hS hA [0, 1] [2, 3, 4, 5, 6, 7, 8, 9, 10, 11, 12] rfl rfl rfl (by decide) (by decide) 13 rfl (by decide +kernel) (fun H locs hP hD hS => ?_)
        refine lv_iload hx hb dX5_tellAir_56 (lv_at hl 1 rfl) ?_
        refine lv_iload hx hb dX5_tellAir_58 (lv_at hl 0 rfl) ?_
        obtain ⟨x12, o_airs_13, o_kind_14, o_figure_15, o_airCell_16, o_way_17, hy18, hf⟩ := dq_b6 hf
        refine ct_callV (ci := 1) (q0 := 0) (own := RX5) (As := [.int x1, .int x10, .int x3, .int x5]) (rest := []) (ws' := (w_X5_tellAir y a b t_length t_letters o_shutBits o_airs_13 o_crownedBits o_sitters o_onBits o_turn o_taken o_warmth o_kind_14 o_figure_15 o_airCell_16 o_way_17 o_seat o_shawls o_count o_steps o_numbers)) ⟨hx, hb, hml, hown, hts⟩ (m_X2_addAir l D y b o_shutBits o_airs o_crownedBits o_sitters o_onBits o_turn o_taken o_warmth o_kind o_figure o_airCell o_way o_seat o_shawls o_count o_steps o_numbers x1 x10 x3 x5 x12 o_airs_13 o_kind_14 o_figure_15 o_airCell_16 o_way_17 hy18) (cwV 4 hts (gA_V wl_211 wl_212 wl_213 wl_14 wl_214) rfl rfl rfl (by decide +kernel) ⟨Nat.le_of_ble_eq_true rfl, Nat.le_of_ble_eq_true rfl⟩) rfl rfl rfl hl.1 rfl (Nat.le_of_ble_eq_true rfl) dX5_tellAir_60 ⟨Nat.zero_le _, Nat.zero_le _⟩ hK hP hD hS hA [2, 3, 4, 5, 6, 7, 8, 9, 10, 11, 12] [0, 1] rfl rfl rfl (by decide) (by decide) 13 rfl (by decide +kernel) (fun H locs hP hD hS => ?_)
        refine lv_if_eq (tgt := 70) hx hb dX5_tellAir_63 (by decide) (fun c19 => ?_) (fun c19 => ?_)
        · have hf := dq_t hf c19
          clear c19
          refine lv_iconst (v := 0) hx hb dX5_tellAir_70 (by decide) ?_
          obtain ⟨rfl, rfl, rfl, rfl, rfl, rfl⟩ := dq_r6 hf
          exact ct_zret hx hb hr rfl hlocks hAe hP hK hD hS dX5_tellAir_71
        · have hf := dq_f hf c19
          clear c19
          refine lv_iconst (v := 1) hx hb dX5_tellAir_66 (by decide) ?_
          refine lv_goto (tgt := 71) hx hb dX5_tellAir_67 (by decide) ?_
          obtain ⟨rfl, rfl, rfl, rfl, rfl, rfl⟩ := dq_r6 hf
          exact ct_zret hx hb hr rfl hlocks hAe hP hK hD hS dX5_tellAir_71
def w_X5_tellShut (y : Nat → ClassId) (b : Nat → Nat) (o_shutBits : Int64) (o_airs : Int32) (o_crownedBits : Int32) (o_sitters : Int32) (o_onBits : Int32) (o_turn : Int32) (o_taken : Int32) (o_warmth : (Nat → UInt32)) (o_kind : (Nat → Int32)) (o_figure : (Nat → Int32)) (o_airCell : (Nat → Int32)) (o_way : (Nat → Int32)) (o_seat : (Nat → Int32)) (o_shawls : (Nat → Int32)) (o_count : Int32) (o_steps : (Nat → Int32)) (o_numbers : (Nat → Int32)) : va_W := [((b 0), .inr (1, [.ref (b 1), .long o_shutBits, .int o_airs, .ref (b 2), .ref (b 3), .ref (b 4), .ref (b 5), .int o_crownedBits, .int o_sitters, .ref (b 6), .ref (b 7), .int o_onBits, .int o_turn, .int o_taken, .ref (b 8)])), ((b 1), .inl (y 0, 36, .inr (.inr (.inl o_warmth)))), ((b 2), .inl (y 1, 5, .inl o_kind)), ((b 3), .inl (y 1, 5, .inl o_figure)), ((b 4), .inl (y 1, 5, .inl o_airCell)), ((b 5), .inl (y 1, 5, .inl o_way)), ((b 6), .inl (y 1, 6, .inl o_seat)), ((b 7), .inl (y 1, 6, .inl o_shawls)), ((b 8), .inr (0, [.ref (b 9), .ref (b 10), .int o_count])), ((b 9), .inl (y 1, 6, .inl o_steps)), ((b 10), .inl (y 1, 6, .inl o_numbers))]
noncomputable def f_X5_tellShut (o_shutBits : Int64) (o_airs : Int32) (o_sitters : Int32) (o_onBits : Int32) (o_airCell : (Nat → Int32)) (o_seat : (Nat → Int32)) (n0 : Int32) : Option (Int32 × Int64) := dq_if ((36 : Int32) ≤ n0) (some ((0 : Int32), o_shutBits)) (dq_bd (f_X2_isTaken o_airs o_sitters o_onBits o_airCell o_seat n0) (fun (x2 : Int32) => dq_if (x2 = 0) (dq_bd (f_X2_toggleShut o_shutBits n0) (fun (o_shutBits_5 : Int64) => some ((1 : Int32), o_shutBits_5))) (some ((0 : Int32), o_shutBits))))
def wA_X5_tellShut : List Cond := .code yX5_tellShut cX5_tellShut 2 (some .boolean) :: wsL_law
-- DraughtsTake$Text.tellShut(ILDraughtsTake$House;)Z
set_option maxHeartbeats 4000000 in
set_option maxRecDepth 100000 in
theorem m_X5_tellShut (l : Launch) (D : va_G) (y : Nat → ClassId) (b : (Nat → Nat)) (o_shutBits : Int64) (o_airs : Int32) (o_crownedBits : Int32) (o_sitters : Int32) (o_onBits : Int32) (o_turn : Int32) (o_taken : Int32) (o_warmth : (Nat → UInt32)) (o_kind : (Nat → Int32)) (o_figure : (Nat → Int32)) (o_airCell : (Nat → Int32)) (o_way : (Nat → Int32)) (o_seat : (Nat → Int32)) (o_shawls : (Nat → Int32)) (o_count : Int32) (o_steps : (Nat → Int32)) (o_numbers : (Nat → Int32)) (n0 : Int32) (z0 : Int32) (z1 : Int64) (hf : f_X5_tellShut o_shutBits o_airs o_sitters o_onBits o_airCell o_seat n0 = some (z0, z1)) : Ct l D y yX5_tellShut wA_X5_tellShut 2 43 [.int n0, .ref (b 0)] (w_X5_tellShut y b o_shutBits o_airs o_crownedBits o_sitters o_onBits o_turn o_taken o_warmth o_kind o_figure o_airCell o_way o_seat o_shawls o_count o_steps o_numbers) (w_X5_tellShut y b z1 o_airs o_crownedBits o_sitters o_onBits o_turn o_taken o_warmth o_kind o_figure o_airCell o_way o_seat o_shawls o_count o_steps o_numbers) (some (.int z0)) := by
  refine ct_head (cc := cX5_tellShut) (n := 2) (ret := (some .boolean)) (by decide) rfl (Nat.le_of_ble_eq_true rfl) ?_
  intro p e s m below meth c A ls hx hb hr hml hown hlocks hts hA hAe hP hK hD hl
  have hS : va_S A s.heap s.heap [] := va_S.rf
  have hl : lv_has ls 2 [(0, .int n0), (1, .ref (b 0))] := hl
  have hown : s.vm.findClass RX5 = some m.cls := hown
  have hts : ∀ w ∈ wsL_law, w.before [.int n0, .ref (b 0)].toArray s = true := fun w h => hts w (List.mem_cons_of_mem _ h)
  unfold f_X5_tellShut at hf
  refine lv_iload_n hx hb dX5_tellShut_0 rfl (lv_at hl 0 rfl) ?_
  refine lv_bipush (v := 36) hx hb dX5_tellShut_1 (by decide) ?_
  refine lv_icmp_ge (tgt := 14) hx hb dX5_tellShut_3 (by decide) (fun c1 => ?_) (fun c1 => ?_)
  · have hf := dq_t hf c1
    clear c1
    refine lv_iconst (v := 0) hx hb dX5_tellShut_14 (by decide) ?_
    obtain ⟨rfl, rfl⟩ := dq_r2 hf
    exact ct_zret hx hb hr rfl hlocks hAe hP hK hD hS dX5_tellShut_15
  · have hf := dq_f hf c1
    clear c1
    refine lv_aload_n hx hb dX5_tellShut_6 rfl (lv_at hl 1 rfl) ?_
    refine lv_iload_n hx hb dX5_tellShut_7 rfl (lv_at hl 0 rfl) ?_
    obtain ⟨x2, hy3, hf⟩ := dq_b hf
    refine ct_callV0 (ci := 1) (q0 := 0) (own := RX5) (As := [.int n0]) (rest := []) (ws' := (w_X5_tellShut y b o_shutBits o_airs o_crownedBits o_sitters o_onBits o_turn o_taken o_warmth o_kind o_figure o_airCell o_way o_seat o_shawls o_count o_steps o_numbers)) ⟨hx, hb, hml, hown, hts⟩ (m_X2_isTaken l D y b o_shutBits o_airs o_crownedBits o_sitters o_onBits o_turn o_taken o_warmth o_kind o_figure o_airCell o_way o_seat o_shawls o_count o_steps o_numbers n0 x2 hy3) (cwV 1 hts (gA_V wl_238 wl_239 wl_240 wl_14 wl_241) rfl rfl rfl (by decide +kernel) ⟨Nat.le_of_ble_eq_true rfl, Nat.le_of_ble_eq_true rfl⟩) rfl rfl rfl hl.1 rfl (Nat.le_of_ble_eq_true rfl) dX5_tellShut_8 ⟨Nat.zero_le _, Nat.zero_le _⟩ hK hP hD hS hA (fun H locs hP hD hS => ?_)
    refine lv_if_eq (tgt := 16) hx hb dX5_tellShut_11 (by decide) (fun c4 => ?_) (fun c4 => ?_)
    · have hf := dq_t hf c4
      clear c4
      refine lv_aload_n hx hb dX5_tellShut_16 rfl (lv_at hl 1 rfl) ?_
      refine lv_iload_n hx hb dX5_tellShut_17 rfl (lv_at hl 0 rfl) ?_
      obtain ⟨o_shutBits_5, hy6, hf⟩ := dq_b hf
      refine ct_callV0 (ci := 1) (q0 := 0) (own := RX5) (As := [.int n0]) (rest := []) (ws' := (w_X5_tellShut y b o_shutBits_5 o_airs o_crownedBits o_sitters o_onBits o_turn o_taken o_warmth o_kind o_figure o_airCell o_way o_seat o_shawls o_count o_steps o_numbers)) ⟨hx, hb, hml, hown, hts⟩ (m_X2_toggleShut l D y b o_shutBits o_airs o_crownedBits o_sitters o_onBits o_turn o_taken o_warmth o_kind o_figure o_airCell o_way o_seat o_shawls o_count o_steps o_numbers n0 o_shutBits_5 hy6) (cwV 1 hts (gA_V wl_242 wl_243 wl_244 wl_14 wl_245) rfl rfl rfl (by decide +kernel) ⟨Nat.le_of_ble_eq_true rfl, Nat.le_of_ble_eq_true rfl⟩) rfl rfl rfl hl.1 rfl (Nat.le_of_ble_eq_true rfl) dX5_tellShut_18 ⟨Nat.zero_le _, Nat.zero_le _⟩ hK hP hD hS hA (fun H locs hP hD hS => ?_)
      refine lv_iconst (v := 1) hx hb dX5_tellShut_21 (by decide) ?_
      obtain ⟨rfl, rfl⟩ := dq_r2 hf
      exact ct_zret hx hb hr rfl hlocks hAe hP hK hD hS dX5_tellShut_22
    · have hf := dq_f hf c4
      clear c4
      refine lv_iconst (v := 0) hx hb dX5_tellShut_14 (by decide) ?_
      obtain ⟨rfl, rfl⟩ := dq_r2 hf
      exact ct_zret hx hb hr rfl hlocks hAe hP hK hD hS dX5_tellShut_15
def w_X5_tellWarm (y : Nat → ClassId) (b : Nat → Nat) (o_shutBits : Int64) (o_airs : Int32) (o_crownedBits : Int32) (o_sitters : Int32) (o_onBits : Int32) (o_turn : Int32) (o_taken : Int32) (o_warmth : (Nat → UInt32)) (o_kind : (Nat → Int32)) (o_figure : (Nat → Int32)) (o_airCell : (Nat → Int32)) (o_way : (Nat → Int32)) (o_seat : (Nat → Int32)) (o_shawls : (Nat → Int32)) (o_count : Int32) (o_steps : (Nat → Int32)) (o_numbers : (Nat → Int32)) : va_W := [((b 0), .inr (1, [.ref (b 1), .long o_shutBits, .int o_airs, .ref (b 2), .ref (b 3), .ref (b 4), .ref (b 5), .int o_crownedBits, .int o_sitters, .ref (b 6), .ref (b 7), .int o_onBits, .int o_turn, .int o_taken, .ref (b 8)])), ((b 1), .inl (y 0, 36, .inr (.inr (.inl o_warmth)))), ((b 2), .inl (y 1, 5, .inl o_kind)), ((b 3), .inl (y 1, 5, .inl o_figure)), ((b 4), .inl (y 1, 5, .inl o_airCell)), ((b 5), .inl (y 1, 5, .inl o_way)), ((b 6), .inl (y 1, 6, .inl o_seat)), ((b 7), .inl (y 1, 6, .inl o_shawls)), ((b 8), .inr (0, [.ref (b 9), .ref (b 10), .int o_count])), ((b 9), .inl (y 1, 6, .inl o_steps)), ((b 10), .inl (y 1, 6, .inl o_numbers))]
noncomputable def f_X5_tellWarm (o_warmth : (Nat → UInt32)) (n0 : Int32) (n1 : Int32) : Option (Int32 × (Nat → UInt32)) := dq_if (n0 < (36 : Int32)) (dq_gd (vp_in n0 36) (dq_let (vf_upd o_warmth n0.toNatClampNeg (FP.i2f n1)) (fun (o_warmth_3 : (Nat → UInt32)) => some ((1 : Int32), o_warmth_3)))) (some ((0 : Int32), o_warmth))
def wA_X5_tellWarm : List Cond := .code yX5_tellWarm cX5_tellWarm 3 (some .boolean) :: wsL_law
-- DraughtsTake$Text.tellWarm(IILDraughtsTake$House;)Z
set_option maxHeartbeats 4000000 in
set_option maxRecDepth 100000 in
theorem m_X5_tellWarm (l : Launch) (D : va_G) (y : Nat → ClassId) (b : (Nat → Nat)) (o_shutBits : Int64) (o_airs : Int32) (o_crownedBits : Int32) (o_sitters : Int32) (o_onBits : Int32) (o_turn : Int32) (o_taken : Int32) (o_warmth : (Nat → UInt32)) (o_kind : (Nat → Int32)) (o_figure : (Nat → Int32)) (o_airCell : (Nat → Int32)) (o_way : (Nat → Int32)) (o_seat : (Nat → Int32)) (o_shawls : (Nat → Int32)) (o_count : Int32) (o_steps : (Nat → Int32)) (o_numbers : (Nat → Int32)) (n0 : Int32) (n1 : Int32) (z0 : Int32) (z1 : (Nat → UInt32)) (hf : f_X5_tellWarm o_warmth n0 n1 = some (z0, z1)) : Ct l D y yX5_tellWarm wA_X5_tellWarm 0 0 [.int n0, .int n1, .ref (b 0)] (w_X5_tellWarm y b o_shutBits o_airs o_crownedBits o_sitters o_onBits o_turn o_taken o_warmth o_kind o_figure o_airCell o_way o_seat o_shawls o_count o_steps o_numbers) (w_X5_tellWarm y b o_shutBits o_airs o_crownedBits o_sitters o_onBits o_turn o_taken z1 o_kind o_figure o_airCell o_way o_seat o_shawls o_count o_steps o_numbers) (some (.int z0)) := by
  refine ct_head (cc := cX5_tellWarm) (n := 3) (ret := (some .boolean)) (by decide) rfl (Nat.le_of_ble_eq_true rfl) ?_
  intro p e s m below meth c A ls hx hb hr hml hown hlocks hts hA hAe hP hK hD hl
  have hS : va_S A s.heap s.heap [] := va_S.rf
  have hl : lv_has ls 3 [(0, .int n0), (1, .int n1), (2, .ref (b 0))] := hl
  have hown : s.vm.findClass RX5 = some m.cls := hown
  have hts : ∀ w ∈ wsL_law, w.before [.int n0, .int n1, .ref (b 0)].toArray s = true := fun w h => hts w (List.mem_cons_of_mem _ h)
  unfold f_X5_tellWarm at hf
  refine lv_iload_n hx hb dX5_tellWarm_0 rfl (lv_at hl 0 rfl) ?_
  refine lv_bipush (v := 36) hx hb dX5_tellWarm_1 (by decide) ?_
  refine lv_icmp_lt (tgt := 8) hx hb dX5_tellWarm_3 (by decide) (fun c1 => ?_) (fun c1 => ?_)
  · have hf := dq_t hf c1
    clear c1
    refine lv_aload_n hx hb dX5_tellWarm_8 rfl (lv_at hl 2 rfl) ?_
    refine va_get (D := D) (ci := 1) (v := .ref (b 1)) (C := RX2) (T := TX2) (N := 15) hx hb hts iwX2 hown hK hP 0 rfl rfl 0 (by decide) (hts _ wl_249) (fun _ h9 => h9) rfl dX5_tellWarm_9 ?_
    refine lv_iload_n hx hb dX5_tellWarm_12 rfl (lv_at hl 0 rfl) ?_
    refine lv_iload_n hx hb dX5_tellWarm_13 rfl (lv_at hl 1 rfl) ?_
    refine lv_i2f hx hb dX5_tellWarm_14 ?_
    obtain ⟨h2, hf⟩ := dq_g hf
    refine dq_fast (cA := y 0) (n := 36) (f := o_warmth) hx hb hK hP hD hS 1 0 rfl rfl h2 dX5_tellWarm_15 (fun o_warmth_3 eo_warmth_3 H locs hP hD hS => ?_)
    have hf := dq_l hf o_warmth_3 eo_warmth_3
    clear eo_warmth_3
    have hP : va_P D vwCl (w_X5_tellWarm y b o_shutBits o_airs o_crownedBits o_sitters o_onBits o_turn o_taken o_warmth_3 o_kind o_figure o_airCell o_way o_seat o_shawls o_count o_steps o_numbers) H := hP
    have hD : va_D A (w_X5_tellWarm y b o_shutBits o_airs o_crownedBits o_sitters o_onBits o_turn o_taken o_warmth_3 o_kind o_figure o_airCell o_way o_seat o_shawls o_count o_steps o_numbers) := hD
    refine lv_iconst (v := 1) hx hb dX5_tellWarm_16 (by decide) ?_
    obtain ⟨rfl, rfl⟩ := dq_r2 hf
    exact ct_zret hx hb hr rfl hlocks hAe hP hK hD hS dX5_tellWarm_17
  · have hf := dq_f hf c1
    clear c1
    refine lv_iconst (v := 0) hx hb dX5_tellWarm_6 (by decide) ?_
    obtain ⟨rfl, rfl⟩ := dq_r2 hf
    exact ct_zret hx hb hr rfl hlocks hAe hP hK hD hS dX5_tellWarm_7
def w_X5_tellHearth (y : Nat → ClassId) (a : Nat → Nat) (b : Nat → Nat) (t_length : Int32) (t_letters : (Nat → Int32)) (u_count : Int32) (u_steps : (Nat → Int32)) (u_numbers : (Nat → Int32)) : va_W := [((a 0), .inr (4, [.ref (a 1), .int t_length])), ((a 1), .inl (y 1, 96, .inl t_letters)), ((b 0), .inr (0, [.ref (b 1), .ref (b 2), .int u_count])), ((b 1), .inl (y 1, 6, .inl u_steps)), ((b 2), .inl (y 1, 6, .inl u_numbers))]
noncomputable def f_X5_tellHearth_b69 (t_length : Int32) (t_letters : (Nat → Int32)) (x1 : Int32) (u_count_3 : Int32) (u_steps_4 : (Nat → Int32)) (u_numbers_5 : (Nat → Int32))   : Option (Int32 × Int32 × (Nat → Int32) × (Nat → Int32)) := dq_bd (f_X5_letterAt t_length t_letters x1) (fun (x6 : Int32) => dq_if (x6 = (59 : Int32)) (some ((1 : Int32), u_count_3, u_steps_4, u_numbers_5)) (some ((0 : Int32), u_count_3, u_steps_4, u_numbers_5)))
noncomputable def f_X5_tellHearth_b54 (t_length : Int32) (t_letters : (Nat → Int32)) (x1 : Int32) (x2 : Int32) (u_count_3 : Int32) (u_steps_4 : (Nat → Int32)) (u_numbers_5 : (Nat → Int32)) (k10 : (Int32 → Int32 → Int32 → (Nat → Int32) → (Nat → Int32) → Option (Int32 × Int32 × (Nat → Int32) × (Nat → Int32)))) (x15 : Int32) (x16 : Int32) : Option (Int32 × Int32 × (Nat → Int32) × (Nat → Int32)) := dq_bd3 (f_X1_add u_count_3 u_steps_4 u_numbers_5 x15 x16) (fun (u_count_17 : Int32) (u_steps_18 : (Nat → Int32)) (u_numbers_19 : (Nat → Int32)) => dq_bd (f_X5_stepEnd t_length t_letters x1) (fun (x21 : Int32) => dq_let (x2 + (1 : Int32)) (fun (x23 : Int32) => k10 x21 x23 u_count_17 u_steps_18 u_numbers_19)))
noncomputable def f_X5_tellHearth_b10 (t_length : Int32) (t_letters : (Nat → Int32))  : Nat → Int32 → Int32 → Int32 → (Nat → Int32) → (Nat → Int32) → Option (Int32 × Int32 × (Nat → Int32) × (Nat → Int32))
  | 0, _, _, _, _, _ => none
  | m10 + 1, x1, x2, u_count_3, u_steps_4, u_numbers_5 => dq_if ((6 : Int32) ≤ x2) (f_X5_tellHearth_b69 t_length t_letters x1 u_count_3 u_steps_4 u_numbers_5) (dq_bd (f_X5_stepAt t_length t_letters x1) (fun (x10 : Int32) => dq_if (x10 < 0) (f_X5_tellHearth_b69 t_length t_letters x1 u_count_3 u_steps_4 u_numbers_5) (dq_bd (f_X5_stepAt t_length t_letters x1) (fun (x13 : Int32) => dq_if (x13 = (6 : Int32)) (f_X5_tellHearth_b54 t_length t_letters x1 x2 u_count_3 u_steps_4 u_numbers_5 (f_X5_tellHearth_b10 t_length t_letters m10) x13 (0 : Int32)) (dq_bd (f_X5_number t_length t_letters (x1 + (1 : Int32)) (2 : Int32)) (fun (x25 : Int32) => f_X5_tellHearth_b54 t_length t_letters x1 x2 u_count_3 u_steps_4 u_numbers_5 (f_X5_tellHearth_b10 t_length t_letters m10) x13 x25))))))
noncomputable def f_X5_tellHearth (t_length : Int32) (t_letters : (Nat → Int32)) (u_steps : (Nat → Int32)) (u_numbers : (Nat → Int32)) (n0 : Int32) : Option (Int32 × Int32 × (Nat → Int32) × (Nat → Int32)) := f_X5_tellHearth_b10 t_length t_letters 4096 n0 (0 : Int32) (0 : Int32) u_steps u_numbers
def wA_X5_tellHearth : List Cond := .code yX5_tellHearth cX5_tellHearth 6 (some .boolean) :: wsL_law
-- DraughtsTake$Text.tellHearth(ILDraughtsTake$Hearth;)Z
set_option maxHeartbeats 4000000 in
set_option maxRecDepth 100000 in
theorem m_X5_tellHearth (l : Launch) (D : va_G) (y : Nat → ClassId) (a : (Nat → Nat)) (b : (Nat → Nat)) (t_length : Int32) (t_letters : (Nat → Int32)) (u_count : Int32) (u_steps : (Nat → Int32)) (u_numbers : (Nat → Int32)) (n0 : Int32) (z0 : Int32) (z1 : Int32) (z2 : (Nat → Int32)) (z3 : (Nat → Int32)) (hf : f_X5_tellHearth t_length t_letters u_steps u_numbers n0 = some (z0, z1, z2, z3)) : Ct l D y yX5_tellHearth wA_X5_tellHearth 3 66 [.ref (a 0), .int n0, .ref (b 0)] (w_X5_tellHearth y a b t_length t_letters u_count u_steps u_numbers) (w_X5_tellHearth y a b t_length t_letters z1 z2 z3) (some (.int z0)) := by
  refine ct_head (cc := cX5_tellHearth) (n := 6) (ret := (some .boolean)) (by decide) rfl (Nat.le_of_ble_eq_true rfl) ?_
  intro p e s m below meth c A ls hx hb hr hml hown hlocks hts hA hAe hP hK hD hl
  have hS : va_S A s.heap s.heap [] := va_S.rf
  have hl : lv_has ls 6 [(0, .ref (a 0)), (1, .int n0), (2, .ref (b 0))] := hl
  have hown : s.vm.findClass RX5 = some m.cls := hown
  have hts : ∀ w ∈ wsL_law, w.before [.ref (a 0), .int n0, .ref (b 0)].toArray s = true := fun w h => hts w (List.mem_cons_of_mem _ h)
  unfold f_X5_tellHearth at hf
  refine lv_aload_n hx hb dX5_tellHearth_0 rfl (lv_at hl 2 rfl) ?_
  refine lv_iconst (v := 0) hx hb dX5_tellHearth_1 (by decide) ?_
  refine va_put (D := D) (ci := 0) (v := .int (0 : Int32)) (ty := .int) (C := RX1) (T := TX1) (N := 3) hx hb hts iwX1 tyX1 tyX1_ok nmX1 hown hK hP hD hS 2 rfl rfl 2 (by decide) (hts _ wl_254) (fun _ h9 => h9) rfl (tyX1_ok 2 (by decide)) rfl rfl (Nat.le_of_ble_eq_true rfl) dX5_tellHearth_2 (fun H locs hP hD hS => ?_)
  have hP : va_P D vwCl (w_X5_tellHearth y a b t_length t_letters (0 : Int32) u_steps u_numbers) H := hP
  have hD : va_D A (w_X5_tellHearth y a b t_length t_letters (0 : Int32) u_steps u_numbers) := hD
  refine lv_iload_n hx hb dX5_tellHearth_5 rfl (lv_at hl 1 rfl) ?_
  refine lv_istore_n (lv' := [(3, .int n0), (0, .ref (a 0)), (1, .int n0), (2, .ref (b 0))]) hx hb dX5_tellHearth_6 rfl hl (by decide) rfl (fun ls hl => ?_)
  refine lv_iconst (v := 0) hx hb dX5_tellHearth_7 (by decide) ?_
  refine lv_istore (lv' := [(4, .int (0 : Int32)), (3, .int n0), (0, .ref (a 0)), (1, .int n0), (2, .ref (b 0))]) hx hb dX5_tellHearth_8 hl (by decide) rfl (fun ls hl => ?_)
  have J10 : ∀ (m10 : Nat) (x1 : Int32) (x2 : Int32) (u_count_3 : Int32) (u_steps_4 : (Nat → Int32)) (u_numbers_5 : (Nat → Int32)), f_X5_tellHearth_b10 t_length t_letters m10 x1 x2 u_count_3 u_steps_4 u_numbers_5 = some (z0, z1, z2, z3) → ∀ (H : Heap) (locs : List Loc), va_P D vwCl (w_X5_tellHearth y a b t_length t_letters u_count_3 u_steps_4 u_numbers_5) H → va_D A (w_X5_tellHearth y a b t_length t_letters u_count_3 u_steps_4 u_numbers_5) → va_S A s.heap H locs → ∀ ls : Array Slot, lv_has ls 6 [(0, .ref (a 0)), (2, .ref (b 0)), (3, .int x1), (4, .int x2)] → W p l e ({ frames := 3, cells := 0, slots := 0, locals := 66 } : Room) s m [.ref (a 0), .int n0, .ref (b 0)].toArray below meth c H locs 0 0 (MQ below (dQ D y (some (.int z0)) s.heap.size (w_X5_tellHearth y a b t_length t_letters u_count u_steps u_numbers) (w_X5_tellHearth y a b t_length t_letters z1 z2 z3)) [.ref (a 0), .int n0, .ref (b 0)].toArray s 0 0 A) (F0 m 10 ls []) := by
    intro m10
    induction m10 with
    | zero => intro x1 x2 u_count_3 u_steps_4 u_numbers_5 hf; exact absurd hf (by unfold f_X5_tellHearth_b10; exact fun h => by cases h)
    | succ m10 I10 =>
      intro x1 x2 u_count_3 u_steps_4 u_numbers_5 hf H locs hP hD hS ls hl
      unfold f_X5_tellHearth_b10 at hf
      refine lv_iload hx hb dX5_tellHearth_10 (lv_at hl 3 rfl) ?_
      refine lv_bipush (v := 6) hx hb dX5_tellHearth_12 (by decide) ?_
      have J69 : f_X5_tellHearth_b69 t_length t_letters x1 u_count_3 u_steps_4 u_numbers_5 = some (z0, z1, z2, z3) → ∀ (H : Heap) (locs : List Loc), va_P D vwCl (w_X5_tellHearth y a b t_length t_letters u_count_3 u_steps_4 u_numbers_5) H → va_D A (w_X5_tellHearth y a b t_length t_letters u_count_3 u_steps_4 u_numbers_5) → va_S A s.heap H locs → ∀ ls : Array Slot, lv_has ls 6 [(0, .ref (a 0)), (3, .int x1)] → W p l e ({ frames := 3, cells := 0, slots := 0, locals := 66 } : Room) s m [.ref (a 0), .int n0, .ref (b 0)].toArray below meth c H locs 0 0 (MQ below (dQ D y (some (.int z0)) s.heap.size (w_X5_tellHearth y a b t_length t_letters u_count u_steps u_numbers) (w_X5_tellHearth y a b t_length t_letters z1 z2 z3)) [.ref (a 0), .int n0, .ref (b 0)].toArray s 0 0 A) (F0 m 69 ls []) := by
        intro  hf H locs hP hD hS ls hl
        unfold f_X5_tellHearth_b69 at hf
        refine lv_aload_n hx hb dX5_tellHearth_69 rfl (lv_at hl 0 rfl) ?_
        refine lv_iload_n hx hb dX5_tellHearth_70 rfl (lv_at hl 1 rfl) ?_
        obtain ⟨x6, hy7, hf⟩ := dq_b hf
        refine ct_callV (ci := 4) (q0 := 0) (own := RX5) (As := [.int x1]) (rest := []) (ws' := (w_X5_tellHearth y a b t_length t_letters u_count_3 u_steps_4 u_numbers_5)) ⟨hx, hb, hml, hown, hts⟩ (m_X5_letterAt l D y a t_length t_letters x1 x6 hy7) (cwV 1 hts (gA_V wl_153 wl_154 wl_155 wl_24 wl_156) rfl rfl rfl (by decide +kernel) ⟨Nat.le_of_ble_eq_true rfl, Nat.le_of_ble_eq_true rfl⟩) rfl rfl rfl hl.1 rfl (Nat.le_of_ble_eq_true rfl) dX5_tellHearth_71 ⟨Nat.zero_le _, Nat.zero_le _⟩ hK hP hD hS hA [0, 1] [2, 3, 4] rfl rfl rfl (by decide) (by decide) 5 rfl (by decide +kernel) (fun H locs hP hD hS => ?_)
        refine lv_bipush (v := 59) hx hb dX5_tellHearth_74 (by decide) ?_
        refine lv_icmp_ne (tgt := 83) hx hb dX5_tellHearth_76 (by decide) (fun c8 => ?_) (fun c8 => ?_)
        · have hf := dq_f hf c8
          clear c8
          refine lv_iconst (v := 0) hx hb dX5_tellHearth_83 (by decide) ?_
          obtain ⟨rfl, rfl, rfl, rfl⟩ := dq_r4 hf
          exact ct_zret hx hb hr rfl hlocks hAe hP hK hD hS dX5_tellHearth_84
        · have hf := dq_t hf c8
          clear c8
          refine lv_iconst (v := 1) hx hb dX5_tellHearth_79 (by decide) ?_
          refine lv_goto (tgt := 84) hx hb dX5_tellHearth_80 (by decide) ?_
          obtain ⟨rfl, rfl, rfl, rfl⟩ := dq_r4 hf
          exact ct_zret hx hb hr rfl hlocks hAe hP hK hD hS dX5_tellHearth_84
      refine lv_icmp_ge (tgt := 69) hx hb dX5_tellHearth_14 (by decide) (fun c9 => ?_) (fun c9 => ?_)
      · have hf := dq_t hf c9
        clear c9
        exact J69  hf _ _ hP hD hS _ (lv_sub hl [0, 2] rfl)
      · have hf := dq_f hf c9
        clear c9
        refine lv_aload_n hx hb dX5_tellHearth_17 rfl (lv_at hl 0 rfl) ?_
        refine lv_iload_n hx hb dX5_tellHearth_18 rfl (lv_at hl 2 rfl) ?_
        obtain ⟨x10, hy11, hf⟩ := dq_b hf
        refine ct_callV (ci := 4) (q0 := 0) (own := RX5) (As := [.int x1]) (rest := []) (ws' := (w_X5_tellHearth y a b t_length t_letters u_count_3 u_steps_4 u_numbers_5)) ⟨hx, hb, hml, hown, hts⟩ (m_X5_stepAt l D y a t_length t_letters x1 x10 hy11) (cwV 1 hts (gA_V wl_165 wl_166 wl_167 wl_24 wl_168) rfl rfl rfl (by decide +kernel) ⟨Nat.le_of_ble_eq_true rfl, Nat.le_of_ble_eq_true rfl⟩) rfl rfl rfl hl.1 rfl (Nat.le_of_ble_eq_true rfl) dX5_tellHearth_19 ⟨Nat.zero_le _, Nat.zero_le _⟩ hK hP hD hS hA [0, 1] [2, 3, 4] rfl rfl rfl (by decide) (by decide) 5 rfl (by decide +kernel) (fun H locs hP hD hS => ?_)
        refine lv_if_lt (tgt := 69) hx hb dX5_tellHearth_22 (by decide) (fun c12 => ?_) (fun c12 => ?_)
        · have hf := dq_t hf c12
          clear c12
          exact J69  hf _ _ hP hD hS _ (lv_sub hl [0, 2] rfl)
        · have hf := dq_f hf c12
          clear c12
          refine lv_aload_n hx hb dX5_tellHearth_25 rfl (lv_at hl 0 rfl) ?_
          refine lv_iload_n hx hb dX5_tellHearth_26 rfl (lv_at hl 2 rfl) ?_
          obtain ⟨x13, hy14, hf⟩ := dq_b hf
          refine ct_callV (ci := 4) (q0 := 0) (own := RX5) (As := [.int x1]) (rest := []) (ws' := (w_X5_tellHearth y a b t_length t_letters u_count_3 u_steps_4 u_numbers_5)) ⟨hx, hb, hml, hown, hts⟩ (m_X5_stepAt l D y a t_length t_letters x1 x13 hy14) (cwV 1 hts (gA_V wl_165 wl_166 wl_167 wl_24 wl_168) rfl rfl rfl (by decide +kernel) ⟨Nat.le_of_ble_eq_true rfl, Nat.le_of_ble_eq_true rfl⟩) rfl rfl rfl hl.1 rfl (Nat.le_of_ble_eq_true rfl) dX5_tellHearth_27 ⟨Nat.zero_le _, Nat.zero_le _⟩ hK hP hD hS hA [0, 1] [2, 3, 4] rfl rfl rfl (by decide) (by decide) 5 rfl (by decide +kernel) (fun H locs hP hD hS => ?_)
          refine lv_istore (lv' := [(5, .int x13), (0, .ref (a 0)), (2, .ref (b 0)), (3, .int x1), (4, .int x2)]) hx hb dX5_tellHearth_30 hl (by decide) rfl (fun ls hl => ?_)
          refine lv_aload_n hx hb dX5_tellHearth_32 rfl (lv_at hl 2 rfl) ?_
          refine lv_iload hx hb dX5_tellHearth_33 (lv_at hl 0 rfl) ?_
          refine lv_iload hx hb dX5_tellHearth_35 (lv_at hl 0 rfl) ?_
          refine lv_bipush (v := 6) hx hb dX5_tellHearth_37 (by decide) ?_
          have J54 : ∀ (x15 : Int32) (x16 : Int32), f_X5_tellHearth_b54 t_length t_letters x1 x2 u_count_3 u_steps_4 u_numbers_5 (f_X5_tellHearth_b10 t_length t_letters m10) x15 x16 = some (z0, z1, z2, z3) → ∀ (H : Heap) (locs : List Loc), va_P D vwCl (w_X5_tellHearth y a b t_length t_letters u_count_3 u_steps_4 u_numbers_5) H → va_D A (w_X5_tellHearth y a b t_length t_letters u_count_3 u_steps_4 u_numbers_5) → va_S A s.heap H locs → ∀ ls : Array Slot, lv_has ls 6 [(0, .ref (a 0)), (2, .ref (b 0)), (3, .int x1), (4, .int x2)] → W p l e ({ frames := 3, cells := 0, slots := 0, locals := 66 } : Room) s m [.ref (a 0), .int n0, .ref (b 0)].toArray below meth c H locs 0 0 (MQ below (dQ D y (some (.int z0)) s.heap.size (w_X5_tellHearth y a b t_length t_letters u_count u_steps u_numbers) (w_X5_tellHearth y a b t_length t_letters z1 z2 z3)) [.ref (a 0), .int n0, .ref (b 0)].toArray s 0 0 A) (F0 m 54 ls [.int x16, .int x15, .ref (b 0)]) := by
            intro x15 x16 hf H locs hP hD hS ls hl
            unfold f_X5_tellHearth_b54 at hf
            obtain ⟨u_count_17, u_steps_18, u_numbers_19, hy20, hf⟩ := dq_b3 hf
            refine ct_callV (ci := 0) (q0 := 0) (own := RX5) (As := [.int x15, .int x16]) (rest := []) (ws' := (w_X5_tellHearth y a b t_length t_letters u_count_17 u_steps_18 u_numbers_19)) ⟨hx, hb, hml, hown, hts⟩ (m_X1_add l D y b u_count_3 u_steps_4 u_numbers_5 x15 x16 u_count_17 u_steps_18 u_numbers_19 hy20) (cwV 2 hts (gA_V wl_255 wl_256 wl_257 wl_49 wl_258) rfl rfl rfl (by decide +kernel) ⟨Nat.le_of_ble_eq_true rfl, Nat.le_of_ble_eq_true rfl⟩) rfl rfl rfl hl.1 rfl (Nat.le_of_ble_eq_true rfl) dX5_tellHearth_54 ⟨Nat.zero_le _, Nat.zero_le _⟩ hK hP hD hS hA [2, 3, 4] [0, 1] rfl rfl rfl (by decide) (by decide) 5 rfl (by decide +kernel) (fun H locs hP hD hS => ?_)
            refine lv_aload_n hx hb dX5_tellHearth_57 rfl (lv_at hl 0 rfl) ?_
            refine lv_iload_n hx hb dX5_tellHearth_58 rfl (lv_at hl 2 rfl) ?_
            obtain ⟨x21, hy22, hf⟩ := dq_b hf
            refine ct_callV (ci := 4) (q0 := 0) (own := RX5) (As := [.int x1]) (rest := []) (ws' := (w_X5_tellHearth y a b t_length t_letters u_count_17 u_steps_18 u_numbers_19)) ⟨hx, hb, hml, hown, hts⟩ (m_X5_stepEnd l D y a t_length t_letters x1 x21 hy22) (cwV 1 hts (gA_V wl_169 wl_170 wl_171 wl_24 wl_172) rfl rfl rfl (by decide +kernel) ⟨Nat.le_of_ble_eq_true rfl, Nat.le_of_ble_eq_true rfl⟩) rfl rfl rfl hl.1 rfl (Nat.le_of_ble_eq_true rfl) dX5_tellHearth_59 ⟨Nat.zero_le _, Nat.zero_le _⟩ hK hP hD hS hA [0, 1] [2, 3, 4] rfl rfl rfl (by decide) (by decide) 5 rfl (by decide +kernel) (fun H locs hP hD hS => ?_)
            refine lv_istore_n (lv' := [(3, .int x21), (0, .ref (a 0)), (2, .ref (b 0)), (4, .int x2)]) hx hb dX5_tellHearth_62 rfl hl (by decide) rfl (fun ls hl => ?_)
            obtain ⟨x23, ex23⟩ : ∃ z : Int32, z = (x2 + (1 : Int32)) := ⟨_, rfl⟩
            have hf := dq_l hf x23 ex23
            refine lv_iinc (v := x23) (lv' := [(4, .int x23), (3, .int x21), (0, .ref (a 0)), (2, .ref (b 0))]) hx hb dX5_tellHearth_63 hl (k := 3) rfl (by rw [ex23]; rfl) (by decide) rfl (fun ls hl => ?_)
            clear ex23
            refine lv_goto (tgt := 10) hx hb dX5_tellHearth_66 (by decide) ?_
            exact I10 _ _ _ _ _ hf _ _ hP hD hS _ (lv_sub hl [2, 3, 1, 0] rfl)
          refine lv_icmp_ne (tgt := 46) hx hb dX5_tellHearth_39 (by decide) (fun c24 => ?_) (fun c24 => ?_)
          · have hf := dq_f hf c24
            clear c24
            refine lv_aload_n hx hb dX5_tellHearth_46 rfl (lv_at hl 1 rfl) ?_
            refine lv_iload_n hx hb dX5_tellHearth_47 rfl (lv_at hl 3 rfl) ?_
            refine lv_iconst (v := 1) hx hb dX5_tellHearth_48 (by decide) ?_
            refine lv_iadd hx hb dX5_tellHearth_49 ?_
            refine lv_iconst (v := 2) hx hb dX5_tellHearth_50 (by decide) ?_
            obtain ⟨x25, hy26, hf⟩ := dq_b hf
            refine ct_callV (ci := 4) (q0 := 0) (own := RX5) (As := [.int (x1 + (1 : Int32)), .int (2 : Int32)]) (rest := [.int x13, .ref (b 0)]) (ws' := (w_X5_tellHearth y a b t_length t_letters u_count_3 u_steps_4 u_numbers_5)) ⟨hx, hb, hml, hown, hts⟩ (m_X5_number l D y a t_length t_letters (x1 + (1 : Int32)) (2 : Int32) x25 hy26) (cwV 2 hts (gA_V wl_207 wl_208 wl_209 wl_24 wl_210) rfl rfl rfl (by decide +kernel) ⟨Nat.le_of_ble_eq_true rfl, Nat.le_of_ble_eq_true rfl⟩) rfl rfl rfl hl.1 rfl (Nat.le_of_ble_eq_true rfl) dX5_tellHearth_51 ⟨Nat.zero_le _, Nat.zero_le _⟩ hK hP hD hS hA [0, 1] [2, 3, 4] rfl rfl rfl (by decide) (by decide) 5 rfl (by decide +kernel) (fun H locs hP hD hS => ?_)
            exact J54 _ _ hf _ _ hP hD hS _ (lv_sub hl [1, 2, 3, 4] rfl)
          · have hf := dq_t hf c24
            clear c24
            refine lv_iconst (v := 0) hx hb dX5_tellHearth_42 (by decide) ?_
            refine lv_goto (tgt := 54) hx hb dX5_tellHearth_43 (by decide) ?_
            exact J54 _ _ hf _ _ hP hD hS _ (lv_sub hl [1, 2, 3, 4] rfl)
  exact J10 4096 _ _ _ _ _ hf _ _ hP hD hS _ (lv_sub hl [2, 4, 1, 0] rfl)
def w_X5_tell (y : Nat → ClassId) (a : Nat → Nat) (b : Nat → Nat) (t_length : Int32) (t_letters : (Nat → Int32)) (o_shutBits : Int64) (o_airs : Int32) (o_crownedBits : Int32) (o_sitters : Int32) (o_onBits : Int32) (o_turn : Int32) (o_taken : Int32) (o_warmth : (Nat → UInt32)) (o_kind : (Nat → Int32)) (o_figure : (Nat → Int32)) (o_airCell : (Nat → Int32)) (o_way : (Nat → Int32)) (o_seat : (Nat → Int32)) (o_shawls : (Nat → Int32)) (o_count : Int32) (o_steps : (Nat → Int32)) (o_numbers : (Nat → Int32)) : va_W := [((a 0), .inr (4, [.ref (a 1), .int t_length])), ((a 1), .inl (y 1, 96, .inl t_letters)), ((b 0), .inr (1, [.ref (b 1), .long o_shutBits, .int o_airs, .ref (b 2), .ref (b 3), .ref (b 4), .ref (b 5), .int o_crownedBits, .int o_sitters, .ref (b 6), .ref (b 7), .int o_onBits, .int o_turn, .int o_taken, .ref (b 8)])), ((b 1), .inl (y 0, 36, .inr (.inr (.inl o_warmth)))), ((b 2), .inl (y 1, 5, .inl o_kind)), ((b 3), .inl (y 1, 5, .inl o_figure)), ((b 4), .inl (y 1, 5, .inl o_airCell)), ((b 5), .inl (y 1, 5, .inl o_way)), ((b 6), .inl (y 1, 6, .inl o_seat)), ((b 7), .inl (y 1, 6, .inl o_shawls)), ((b 8), .inr (0, [.ref (b 9), .ref (b 10), .int o_count])), ((b 9), .inl (y 1, 6, .inl o_steps)), ((b 10), .inl (y 1, 6, .inl o_numbers))]
noncomputable def f_X5_tell (t_length : Int32) (t_letters : (Nat → Int32)) (o_shutBits : Int64) (o_airs : Int32) (o_crownedBits : Int32) (o_sitters : Int32) (o_onBits : Int32) (o_turn : Int32) (o_taken : Int32) (o_warmth : (Nat → UInt32)) (o_kind : (Nat → Int32)) (o_figure : (Nat → Int32)) (o_airCell : (Nat → Int32)) (o_way : (Nat → Int32)) (o_seat : (Nat → Int32)) (o_shawls : (Nat → Int32)) (o_count : Int32) (o_steps : (Nat → Int32)) (o_numbers : (Nat → Int32)) (n0 : Int32) : Option (Int32 × Int64 × Int32 × Int32 × Int32 × Int32 × Int32 × Int32 × (Nat → UInt32) × (Nat → Int32) × (Nat → Int32) × (Nat → Int32) × (Nat → Int32) × (Nat → Int32) × (Nat → Int32) × Int32 × (Nat → Int32) × (Nat → Int32)) := dq_bd (f_X5_letterAt t_length t_letters n0) (fun (x1 : Int32) => dq_if (x1 = 97) (dq_bd6 (f_X5_tellAir t_length t_letters o_shutBits o_airs o_sitters o_onBits o_kind o_figure o_airCell o_way o_seat (n0 + (1 : Int32))) (fun (x4 : Int32) (o_airs_5 : Int32) (o_kind_6 : (Nat → Int32)) (o_figure_7 : (Nat → Int32)) (o_airCell_8 : (Nat → Int32)) (o_way_9 : (Nat → Int32)) => dq_gd (dq_z x4) (some (x4, o_shutBits, o_airs_5, o_crownedBits, o_sitters, o_onBits, o_turn, o_taken, o_warmth, o_kind_6, o_figure_7, o_airCell_8, o_way_9, o_seat, o_shawls, o_count, o_steps, o_numbers)))) (dq_if (x1 = 100) (dq_bd (f_X5_number t_length t_letters (n0 + (1 : Int32)) (2 : Int32)) (fun (x13 : Int32) => dq_bd2 (f_X5_tellShut o_shutBits o_airs o_sitters o_onBits o_airCell o_seat x13) (fun (x15 : Int32) (o_shutBits_16 : Int64) => dq_gd (dq_z x15) (some (x15, o_shutBits_16, o_airs, o_crownedBits, o_sitters, o_onBits, o_turn, o_taken, o_warmth, o_kind, o_figure, o_airCell, o_way, o_seat, o_shawls, o_count, o_steps, o_numbers))))) (dq_if (x1 = 108) (dq_bd4 (f_X5_tellHearth t_length t_letters o_steps o_numbers (n0 + (1 : Int32))) (fun (x20 : Int32) (o_count_21 : Int32) (o_steps_22 : (Nat → Int32)) (o_numbers_23 : (Nat → Int32)) => dq_gd (dq_z x20) (some (x20, o_shutBits, o_airs, o_crownedBits, o_sitters, o_onBits, o_turn, o_taken, o_warmth, o_kind, o_figure, o_airCell, o_way, o_seat, o_shawls, o_count_21, o_steps_22, o_numbers_23)))) (dq_if (x1 = 112) (dq_bd (f_X5_number t_length t_letters (n0 + (1 : Int32)) (2 : Int32)) (fun (x27 : Int32) => dq_if ((36 : Int32) ≤ x27) (some ((0 : Int32), o_shutBits, o_airs, o_crownedBits, o_sitters, o_onBits, o_turn, o_taken, o_warmth, o_kind, o_figure, o_airCell, o_way, o_seat, o_shawls, o_count, o_steps, o_numbers)) (dq_bd (f_X5_number t_length t_letters (n0 + (1 : Int32)) (2 : Int32)) (fun (x30 : Int32) => dq_bd (f_X5_number t_length t_letters (n0 + (3 : Int32)) (1 : Int32)) (fun (x32 : Int32) => dq_bd5 (f_X2_addSitter o_shutBits o_airs o_sitters o_onBits o_airCell o_seat o_shawls x30 x32) (fun (x34 : Int32) (o_sitters_35 : Int32) (o_onBits_36 : Int32) (o_seat_37 : (Nat → Int32)) (o_shawls_38 : (Nat → Int32)) => dq_if (x34 = 0) (some ((0 : Int32), o_shutBits, o_airs, o_crownedBits, o_sitters_35, o_onBits_36, o_turn, o_taken, o_warmth, o_kind, o_figure, o_airCell, o_way, o_seat_37, o_shawls_38, o_count, o_steps, o_numbers)) (some ((1 : Int32), o_shutBits, o_airs, o_crownedBits, o_sitters_35, o_onBits_36, o_turn, o_taken, o_warmth, o_kind, o_figure, o_airCell, o_way, o_seat_37, o_shawls_38, o_count, o_steps, o_numbers)))))))) (dq_if (x1 = 119) (dq_bd (f_X5_number t_length t_letters (n0 + (1 : Int32)) (2 : Int32)) (fun (x42 : Int32) => dq_bd (f_X5_number t_length t_letters (n0 + (3 : Int32)) (2 : Int32)) (fun (x44 : Int32) => dq_bd2 (f_X5_tellWarm o_warmth x42 x44) (fun (x46 : Int32) (o_warmth_47 : (Nat → UInt32)) => dq_gd (dq_z x46) (some (x46, o_shutBits, o_airs, o_crownedBits, o_sitters, o_onBits, o_turn, o_taken, o_warmth_47, o_kind, o_figure, o_airCell, o_way, o_seat, o_shawls, o_count, o_steps, o_numbers)))))) (dq_bd (f_X5_number t_length t_letters (n0 + (1 : Int32)) (2 : Int32)) (fun (x50 : Int32) => dq_if (x50 < (1 : Int32)) (some ((0 : Int32), o_shutBits, o_airs, o_crownedBits, o_sitters, o_onBits, o_turn, o_taken, o_warmth, o_kind, o_figure, o_airCell, o_way, o_seat, o_shawls, o_count, o_steps, o_numbers)) (dq_if ((60 : Int32) < x50) (some ((0 : Int32), o_shutBits, o_airs, o_crownedBits, o_sitters, o_onBits, o_turn, o_taken, o_warmth, o_kind, o_figure, o_airCell, o_way, o_seat, o_shawls, o_count, o_steps, o_numbers)) (dq_if ((o_turn + x50) ≤ (999 : Int32)) (dq_bd8 (f_X2_goOn o_shutBits o_airs o_crownedBits o_sitters o_onBits o_turn o_taken o_warmth o_kind o_figure o_airCell o_way o_seat o_shawls o_count o_steps o_numbers x50) (fun (o_crownedBits_55 : Int32) (o_onBits_56 : Int32) (o_turn_57 : Int32) (o_taken_58 : Int32) (o_warmth_59 : (Nat → UInt32)) (o_airCell_60 : (Nat → Int32)) (o_way_61 : (Nat → Int32)) (o_shawls_62 : (Nat → Int32)) => some ((1 : Int32), o_shutBits, o_airs, o_crownedBits_55, o_sitters, o_onBits_56, o_turn_57, o_taken_58, o_warmth_59, o_kind, o_figure, o_airCell_60, o_way_61, o_seat, o_shawls_62, o_count, o_steps, o_numbers))) (some ((0 : Int32), o_shutBits, o_airs, o_crownedBits, o_sitters, o_onBits, o_turn, o_taken, o_warmth, o_kind, o_figure, o_airCell, o_way, o_seat, o_shawls, o_count, o_steps, o_numbers)))))))))))
def wA_X5_tell : List Cond := .code yX5_tell cX5_tell 4 (some .boolean) :: wsL_law
-- DraughtsTake$Text.tell(ILDraughtsTake$House;)Z
set_option maxHeartbeats 4000000 in
set_option maxRecDepth 100000 in
theorem m_X5_tell (l : Launch) (D : va_G) (y : Nat → ClassId) (a : (Nat → Nat)) (b : (Nat → Nat)) (t_length : Int32) (t_letters : (Nat → Int32)) (o_shutBits : Int64) (o_airs : Int32) (o_crownedBits : Int32) (o_sitters : Int32) (o_onBits : Int32) (o_turn : Int32) (o_taken : Int32) (o_warmth : (Nat → UInt32)) (o_kind : (Nat → Int32)) (o_figure : (Nat → Int32)) (o_airCell : (Nat → Int32)) (o_way : (Nat → Int32)) (o_seat : (Nat → Int32)) (o_shawls : (Nat → Int32)) (o_count : Int32) (o_steps : (Nat → Int32)) (o_numbers : (Nat → Int32)) (n0 : Int32) (z0 : Int32) (z1 : Int64) (z2 : Int32) (z3 : Int32) (z4 : Int32) (z5 : Int32) (z6 : Int32) (z7 : Int32) (z8 : (Nat → UInt32)) (z9 : (Nat → Int32)) (z10 : (Nat → Int32)) (z11 : (Nat → Int32)) (z12 : (Nat → Int32)) (z13 : (Nat → Int32)) (z14 : (Nat → Int32)) (z15 : Int32) (z16 : (Nat → Int32)) (z17 : (Nat → Int32)) (hf : f_X5_tell t_length t_letters o_shutBits o_airs o_crownedBits o_sitters o_onBits o_turn o_taken o_warmth o_kind o_figure o_airCell o_way o_seat o_shawls o_count o_steps o_numbers n0 = some (z0, z1, z2, z3, z4, z5, z6, z7, z8, z9, z10, z11, z12, z13, z14, z15, z16, z17)) : Ct l D y yX5_tell wA_X5_tell 5 118 [.ref (a 0), .int n0, .ref (b 0)] (w_X5_tell y a b t_length t_letters o_shutBits o_airs o_crownedBits o_sitters o_onBits o_turn o_taken o_warmth o_kind o_figure o_airCell o_way o_seat o_shawls o_count o_steps o_numbers) (w_X5_tell y a b t_length t_letters z1 z2 z3 z4 z5 z6 z7 z8 z9 z10 z11 z12 z13 z14 z15 z16 z17) (some (.int z0)) := by
  refine ct_head (cc := cX5_tell) (n := 4) (ret := (some .boolean)) (by decide) rfl (Nat.le_of_ble_eq_true rfl) ?_
  intro p e s m below meth c A ls hx hb hr hml hown hlocks hts hA hAe hP hK hD hl
  have hS : va_S A s.heap s.heap [] := va_S.rf
  have hl : lv_has ls 4 [(0, .ref (a 0)), (1, .int n0), (2, .ref (b 0))] := hl
  have hown : s.vm.findClass RX5 = some m.cls := hown
  have hts : ∀ w ∈ wsL_law, w.before [.ref (a 0), .int n0, .ref (b 0)].toArray s = true := fun w h => hts w (List.mem_cons_of_mem _ h)
  unfold f_X5_tell at hf
  refine lv_aload_n hx hb dX5_tell_0 rfl (lv_at hl 0 rfl) ?_
  refine lv_iload_n hx hb dX5_tell_1 rfl (lv_at hl 1 rfl) ?_
  obtain ⟨x1, hy2, hf⟩ := dq_b hf
  refine ct_callV (ci := 4) (q0 := 0) (own := RX5) (As := [.int n0]) (rest := []) (ws' := (w_X5_tell y a b t_length t_letters o_shutBits o_airs o_crownedBits o_sitters o_onBits o_turn o_taken o_warmth o_kind o_figure o_airCell o_way o_seat o_shawls o_count o_steps o_numbers)) ⟨hx, hb, hml, hown, hts⟩ (m_X5_letterAt l D y a t_length t_letters n0 x1 hy2) (cwV 1 hts (gA_V wl_153 wl_154 wl_155 wl_24 wl_156) rfl rfl rfl (by decide +kernel) ⟨Nat.le_of_ble_eq_true rfl, Nat.le_of_ble_eq_true rfl⟩) rfl rfl rfl hl.1 rfl (Nat.le_of_ble_eq_true rfl) dX5_tell_2 ⟨Nat.zero_le _, Nat.zero_le _⟩ hK hP hD hS hA [0, 1] [2, 3, 4, 5, 6, 7, 8, 9, 10, 11, 12] rfl rfl rfl (by decide) (by decide) 13 rfl (by decide +kernel) (fun H locs hP hD hS => ?_)
  by_cases c3 : x1 = (97 : Int32)
  · have hf := dq_t hf c3
    refine lv_lookup (tgt := 56) (off := 51) hx hb dX5_tell_5 (by decide) (by rw [c3]; decide) (by decide) ?_
    clear c3
    refine lv_aload_n hx hb dX5_tell_56 rfl (lv_at hl 0 rfl) ?_
    refine lv_iload_n hx hb dX5_tell_57 rfl (lv_at hl 1 rfl) ?_
    refine lv_iconst (v := 1) hx hb dX5_tell_58 (by decide) ?_
    refine lv_iadd hx hb dX5_tell_59 ?_
    refine lv_aload_n hx hb dX5_tell_60 rfl (lv_at hl 2 rfl) ?_
    obtain ⟨x4, o_airs_5, o_kind_6, o_figure_7, o_airCell_8, o_way_9, hy10, hf⟩ := dq_b6 hf
    refine ct_callV0 (ci := 4) (q0 := 0) (own := RX5) (As := [.int (n0 + (1 : Int32)), .ref (b 0)]) (rest := []) (ws' := (w_X5_tell y a b t_length t_letters o_shutBits o_airs_5 o_crownedBits o_sitters o_onBits o_turn o_taken o_warmth o_kind_6 o_figure_7 o_airCell_8 o_way_9 o_seat o_shawls o_count o_steps o_numbers)) ⟨hx, hb, hml, hown, hts⟩ (m_X5_tellAir l D y a b t_length t_letters o_shutBits o_airs o_crownedBits o_sitters o_onBits o_turn o_taken o_warmth o_kind o_figure o_airCell o_way o_seat o_shawls o_count o_steps o_numbers (n0 + (1 : Int32)) x4 o_airs_5 o_kind_6 o_figure_7 o_airCell_8 o_way_9 hy10) (cwV 2 hts (gA_V wl_203 wl_204 wl_205 wl_24 wl_206) rfl rfl rfl (by decide +kernel) ⟨Nat.le_of_ble_eq_true rfl, Nat.le_of_ble_eq_true rfl⟩) rfl rfl rfl hl.1 rfl (Nat.le_of_ble_eq_true rfl) dX5_tell_61 ⟨Nat.zero_le _, Nat.zero_le _⟩ hK hP hD hS hA (fun H locs hP hD hS => ?_)
    obtain ⟨h11, hf⟩ := dq_g hf
    obtain ⟨rfl, rfl, rfl, rfl, rfl, rfl, rfl, rfl, rfl, rfl, rfl, rfl, rfl, rfl, rfl, rfl, rfl, rfl⟩ := dq_r18 hf
    exact ct_zret hx hb hr (dq_zn h11) hlocks hAe hP hK hD hS dX5_tell_64
  have hf := dq_f hf c3
  by_cases c12 : x1 = (100 : Int32)
  · have hf := dq_t hf c12
    refine lv_lookup (tgt := 107) (off := 102) hx hb dX5_tell_5 (by decide) (by rw [c12]; decide) (by decide) ?_
    clear c3 c12
    refine lv_aload_n hx hb dX5_tell_107 rfl (lv_at hl 0 rfl) ?_
    refine lv_iload_n hx hb dX5_tell_108 rfl (lv_at hl 1 rfl) ?_
    refine lv_iconst (v := 1) hx hb dX5_tell_109 (by decide) ?_
    refine lv_iadd hx hb dX5_tell_110 ?_
    refine lv_iconst (v := 2) hx hb dX5_tell_111 (by decide) ?_
    obtain ⟨x13, hy14, hf⟩ := dq_b hf
    refine ct_callV (ci := 4) (q0 := 0) (own := RX5) (As := [.int (n0 + (1 : Int32)), .int (2 : Int32)]) (rest := []) (ws' := (w_X5_tell y a b t_length t_letters o_shutBits o_airs o_crownedBits o_sitters o_onBits o_turn o_taken o_warmth o_kind o_figure o_airCell o_way o_seat o_shawls o_count o_steps o_numbers)) ⟨hx, hb, hml, hown, hts⟩ (m_X5_number l D y a t_length t_letters (n0 + (1 : Int32)) (2 : Int32) x13 hy14) (cwV 2 hts (gA_V wl_207 wl_208 wl_209 wl_24 wl_210) rfl rfl rfl (by decide +kernel) ⟨Nat.le_of_ble_eq_true rfl, Nat.le_of_ble_eq_true rfl⟩) rfl rfl rfl hl.1 rfl (Nat.le_of_ble_eq_true rfl) dX5_tell_112 ⟨Nat.zero_le _, Nat.zero_le _⟩ hK hP hD hS hA [0, 1] [2, 3, 4, 5, 6, 7, 8, 9, 10, 11, 12] rfl rfl rfl (by decide) (by decide) 13 rfl (by decide +kernel) (fun H locs hP hD hS => ?_)
    refine lv_aload_n hx hb dX5_tell_115 rfl (lv_at hl 2 rfl) ?_
    obtain ⟨x15, o_shutBits_16, hy17, hf⟩ := dq_b2 hf
    refine ct_callS (own := RX5) (As := [.int x13, .ref (b 0)]) (rest := []) (ws' := (w_X5_tell y a b t_length t_letters o_shutBits_16 o_airs o_crownedBits o_sitters o_onBits o_turn o_taken o_warmth o_kind o_figure o_airCell o_way o_seat o_shawls o_count o_steps o_numbers)) ⟨hx, hb, hml, hown, hts⟩ (m_X5_tellShut l D y b o_shutBits o_airs o_crownedBits o_sitters o_onBits o_turn o_taken o_warmth o_kind o_figure o_airCell o_way o_seat o_shawls o_count o_steps o_numbers x13 x15 o_shutBits_16 hy17) (va_cwS 2 hts (gA_S wl_235 wl_236 wl_24 wl_237) rfl rfl rfl (by decide +kernel) ⟨Nat.le_of_ble_eq_true rfl, Nat.le_of_ble_eq_true rfl⟩) rfl hl.1 rfl (Nat.le_of_ble_eq_true rfl) dX5_tell_116 ⟨Nat.zero_le _, Nat.zero_le _⟩ hK hP hD hS hA [2, 3, 4, 5, 6, 7, 8, 9, 10, 11, 12] [0, 1] rfl rfl rfl (by decide) (by decide) 13 rfl (by decide +kernel) (fun H locs hP hD hS => ?_)
    obtain ⟨h18, hf⟩ := dq_g hf
    obtain ⟨rfl, rfl, rfl, rfl, rfl, rfl, rfl, rfl, rfl, rfl, rfl, rfl, rfl, rfl, rfl, rfl, rfl, rfl⟩ := dq_r18 hf
    exact ct_zret hx hb hr (dq_zn h18) hlocks hAe hP hK hD hS dX5_tell_119
  have hf := dq_f hf c12
  by_cases c19 : x1 = (108 : Int32)
  · have hf := dq_t hf c19
    refine lv_lookup (tgt := 141) (off := 136) hx hb dX5_tell_5 (by decide) (by rw [c19]; decide) (by decide) ?_
    clear c3 c12 c19
    refine lv_aload_n hx hb dX5_tell_141 rfl (lv_at hl 0 rfl) ?_
    refine lv_iload_n hx hb dX5_tell_142 rfl (lv_at hl 1 rfl) ?_
    refine lv_iconst (v := 1) hx hb dX5_tell_143 (by decide) ?_
    refine lv_iadd hx hb dX5_tell_144 ?_
    refine lv_aload_n hx hb dX5_tell_145 rfl (lv_at hl 2 rfl) ?_
    refine va_get (D := D) (ci := 1) (v := .ref (b 8)) (C := RX2) (T := TX2) (N := 15) hx hb hts iwX2 hown hK hP 2 rfl rfl 14 (by decide) (hts _ wl_201) (fun _ h9 => h9) rfl dX5_tell_146 ?_
    obtain ⟨x20, o_count_21, o_steps_22, o_numbers_23, hy24, hf⟩ := dq_b4 hf
    refine ct_callV (ci := 4) (q0 := 0) (own := RX5) (As := [.int (n0 + (1 : Int32)), .ref (b 8)]) (rest := []) (ws' := (w_X5_tell y a b t_length t_letters o_shutBits o_airs o_crownedBits o_sitters o_onBits o_turn o_taken o_warmth o_kind o_figure o_airCell o_way o_seat o_shawls o_count_21 o_steps_22 o_numbers_23)) ⟨hx, hb, hml, hown, hts⟩ (m_X5_tellHearth l D y a (fun k => b (8 + k)) t_length t_letters o_count o_steps o_numbers (n0 + (1 : Int32)) x20 o_count_21 o_steps_22 o_numbers_23 hy24) (cwV 2 hts (gA_V wl_250 wl_251 wl_252 wl_24 wl_253) rfl rfl rfl (by decide +kernel) ⟨Nat.le_of_ble_eq_true rfl, Nat.le_of_ble_eq_true rfl⟩) rfl rfl rfl hl.1 rfl (Nat.le_of_ble_eq_true rfl) dX5_tell_149 ⟨Nat.zero_le _, Nat.zero_le _⟩ hK hP hD hS hA [0, 1, 10, 11, 12] [2, 3, 4, 5, 6, 7, 8, 9] rfl rfl rfl (by decide) (by decide) 13 rfl (by decide +kernel) (fun H locs hP hD hS => ?_)
    obtain ⟨h25, hf⟩ := dq_g hf
    obtain ⟨rfl, rfl, rfl, rfl, rfl, rfl, rfl, rfl, rfl, rfl, rfl, rfl, rfl, rfl, rfl, rfl, rfl, rfl⟩ := dq_r18 hf
    exact ct_zret hx hb hr (dq_zn h25) hlocks hAe hP hK hD hS dX5_tell_152
  have hf := dq_f hf c19
  by_cases c26 : x1 = (112 : Int32)
  · have hf := dq_t hf c26
    refine lv_lookup (tgt := 65) (off := 60) hx hb dX5_tell_5 (by decide) (by rw [c26]; decide) (by decide) ?_
    clear c3 c12 c19 c26
    refine lv_aload_n hx hb dX5_tell_65 rfl (lv_at hl 0 rfl) ?_
    refine lv_iload_n hx hb dX5_tell_66 rfl (lv_at hl 1 rfl) ?_
    refine lv_iconst (v := 1) hx hb dX5_tell_67 (by decide) ?_
    refine lv_iadd hx hb dX5_tell_68 ?_
    refine lv_iconst (v := 2) hx hb dX5_tell_69 (by decide) ?_
    obtain ⟨x27, hy28, hf⟩ := dq_b hf
    refine ct_callV (ci := 4) (q0 := 0) (own := RX5) (As := [.int (n0 + (1 : Int32)), .int (2 : Int32)]) (rest := []) (ws' := (w_X5_tell y a b t_length t_letters o_shutBits o_airs o_crownedBits o_sitters o_onBits o_turn o_taken o_warmth o_kind o_figure o_airCell o_way o_seat o_shawls o_count o_steps o_numbers)) ⟨hx, hb, hml, hown, hts⟩ (m_X5_number l D y a t_length t_letters (n0 + (1 : Int32)) (2 : Int32) x27 hy28) (cwV 2 hts (gA_V wl_207 wl_208 wl_209 wl_24 wl_210) rfl rfl rfl (by decide +kernel) ⟨Nat.le_of_ble_eq_true rfl, Nat.le_of_ble_eq_true rfl⟩) rfl rfl rfl hl.1 rfl (Nat.le_of_ble_eq_true rfl) dX5_tell_70 ⟨Nat.zero_le _, Nat.zero_le _⟩ hK hP hD hS hA [0, 1] [2, 3, 4, 5, 6, 7, 8, 9, 10, 11, 12] rfl rfl rfl (by decide) (by decide) 13 rfl (by decide +kernel) (fun H locs hP hD hS => ?_)
    refine lv_bipush (v := 36) hx hb dX5_tell_73 (by decide) ?_
    refine lv_icmp_ge (tgt := 105) hx hb dX5_tell_75 (by decide) (fun c29 => ?_) (fun c29 => ?_)
    · have hf := dq_t hf c29
      clear c29
      refine lv_iconst (v := 0) hx hb dX5_tell_105 (by decide) ?_
      obtain ⟨rfl, rfl, rfl, rfl, rfl, rfl, rfl, rfl, rfl, rfl, rfl, rfl, rfl, rfl, rfl, rfl, rfl, rfl⟩ := dq_r18 hf
      exact ct_zret hx hb hr rfl hlocks hAe hP hK hD hS dX5_tell_106
    · have hf := dq_f hf c29
      clear c29
      refine lv_aload_n hx hb dX5_tell_78 rfl (lv_at hl 2 rfl) ?_
      refine lv_aload_n hx hb dX5_tell_79 rfl (lv_at hl 0 rfl) ?_
      refine lv_iload_n hx hb dX5_tell_80 rfl (lv_at hl 1 rfl) ?_
      refine lv_iconst (v := 1) hx hb dX5_tell_81 (by decide) ?_
      refine lv_iadd hx hb dX5_tell_82 ?_
      refine lv_iconst (v := 2) hx hb dX5_tell_83 (by decide) ?_
      obtain ⟨x30, hy31, hf⟩ := dq_b hf
      refine ct_callV (ci := 4) (q0 := 0) (own := RX5) (As := [.int (n0 + (1 : Int32)), .int (2 : Int32)]) (rest := [.ref (b 0)]) (ws' := (w_X5_tell y a b t_length t_letters o_shutBits o_airs o_crownedBits o_sitters o_onBits o_turn o_taken o_warmth o_kind o_figure o_airCell o_way o_seat o_shawls o_count o_steps o_numbers)) ⟨hx, hb, hml, hown, hts⟩ (m_X5_number l D y a t_length t_letters (n0 + (1 : Int32)) (2 : Int32) x30 hy31) (cwV 2 hts (gA_V wl_207 wl_208 wl_209 wl_24 wl_210) rfl rfl rfl (by decide +kernel) ⟨Nat.le_of_ble_eq_true rfl, Nat.le_of_ble_eq_true rfl⟩) rfl rfl rfl hl.1 rfl (Nat.le_of_ble_eq_true rfl) dX5_tell_84 ⟨Nat.zero_le _, Nat.zero_le _⟩ hK hP hD hS hA [0, 1] [2, 3, 4, 5, 6, 7, 8, 9, 10, 11, 12] rfl rfl rfl (by decide) (by decide) 13 rfl (by decide +kernel) (fun H locs hP hD hS => ?_)
      refine lv_aload_n hx hb dX5_tell_87 rfl (lv_at hl 0 rfl) ?_
      refine lv_iload_n hx hb dX5_tell_88 rfl (lv_at hl 1 rfl) ?_
      refine lv_iconst (v := 3) hx hb dX5_tell_89 (by decide) ?_
      refine lv_iadd hx hb dX5_tell_90 ?_
      refine lv_iconst (v := 1) hx hb dX5_tell_91 (by decide) ?_
      obtain ⟨x32, hy33, hf⟩ := dq_b hf
      refine ct_callV (ci := 4) (q0 := 0) (own := RX5) (As := [.int (n0 + (3 : Int32)), .int (1 : Int32)]) (rest := [.int x30, .ref (b 0)]) (ws' := (w_X5_tell y a b t_length t_letters o_shutBits o_airs o_crownedBits o_sitters o_onBits o_turn o_taken o_warmth o_kind o_figure o_airCell o_way o_seat o_shawls o_count o_steps o_numbers)) ⟨hx, hb, hml, hown, hts⟩ (m_X5_number l D y a t_length t_letters (n0 + (3 : Int32)) (1 : Int32) x32 hy33) (cwV 2 hts (gA_V wl_207 wl_208 wl_209 wl_24 wl_210) rfl rfl rfl (by decide +kernel) ⟨Nat.le_of_ble_eq_true rfl, Nat.le_of_ble_eq_true rfl⟩) rfl rfl rfl hl.1 rfl (Nat.le_of_ble_eq_true rfl) dX5_tell_92 ⟨Nat.zero_le _, Nat.zero_le _⟩ hK hP hD hS hA [0, 1] [2, 3, 4, 5, 6, 7, 8, 9, 10, 11, 12] rfl rfl rfl (by decide) (by decide) 13 rfl (by decide +kernel) (fun H locs hP hD hS => ?_)
      obtain ⟨x34, o_sitters_35, o_onBits_36, o_seat_37, o_shawls_38, hy39, hf⟩ := dq_b5 hf
      refine ct_callV (ci := 1) (q0 := 0) (own := RX5) (As := [.int x30, .int x32]) (rest := []) (ws' := (w_X5_tell y a b t_length t_letters o_shutBits o_airs o_crownedBits o_sitters_35 o_onBits_36 o_turn o_taken o_warmth o_kind o_figure o_airCell o_way o_seat_37 o_shawls_38 o_count o_steps o_numbers)) ⟨hx, hb, hml, hown, hts⟩ (m_X2_addSitter l D y b o_shutBits o_airs o_crownedBits o_sitters o_onBits o_turn o_taken o_warmth o_kind o_figure o_airCell o_way o_seat o_shawls o_count o_steps o_numbers x30 x32 x34 o_sitters_35 o_onBits_36 o_seat_37 o_shawls_38 hy39) (cwV 2 hts (gA_V wl_231 wl_232 wl_233 wl_14 wl_234) rfl rfl rfl (by decide +kernel) ⟨Nat.le_of_ble_eq_true rfl, Nat.le_of_ble_eq_true rfl⟩) rfl rfl rfl hl.1 rfl (Nat.le_of_ble_eq_true rfl) dX5_tell_95 ⟨Nat.zero_le _, Nat.zero_le _⟩ hK hP hD hS hA [2, 3, 4, 5, 6, 7, 8, 9, 10, 11, 12] [0, 1] rfl rfl rfl (by decide) (by decide) 13 rfl (by decide +kernel) (fun H locs hP hD hS => ?_)
      refine lv_if_eq (tgt := 105) hx hb dX5_tell_98 (by decide) (fun c40 => ?_) (fun c40 => ?_)
      · have hf := dq_t hf c40
        clear c40
        refine lv_iconst (v := 0) hx hb dX5_tell_105 (by decide) ?_
        obtain ⟨rfl, rfl, rfl, rfl, rfl, rfl, rfl, rfl, rfl, rfl, rfl, rfl, rfl, rfl, rfl, rfl, rfl, rfl⟩ := dq_r18 hf
        exact ct_zret hx hb hr rfl hlocks hAe hP hK hD hS dX5_tell_106
      · have hf := dq_f hf c40
        clear c40
        refine lv_iconst (v := 1) hx hb dX5_tell_101 (by decide) ?_
        refine lv_goto (tgt := 106) hx hb dX5_tell_102 (by decide) ?_
        obtain ⟨rfl, rfl, rfl, rfl, rfl, rfl, rfl, rfl, rfl, rfl, rfl, rfl, rfl, rfl, rfl, rfl, rfl, rfl⟩ := dq_r18 hf
        exact ct_zret hx hb hr rfl hlocks hAe hP hK hD hS dX5_tell_106
  have hf := dq_f hf c26
  by_cases c41 : x1 = (119 : Int32)
  · have hf := dq_t hf c41
    refine lv_lookup (tgt := 120) (off := 115) hx hb dX5_tell_5 (by decide) (by rw [c41]; decide) (by decide) ?_
    clear c3 c12 c19 c26 c41
    refine lv_aload_n hx hb dX5_tell_120 rfl (lv_at hl 0 rfl) ?_
    refine lv_iload_n hx hb dX5_tell_121 rfl (lv_at hl 1 rfl) ?_
    refine lv_iconst (v := 1) hx hb dX5_tell_122 (by decide) ?_
    refine lv_iadd hx hb dX5_tell_123 ?_
    refine lv_iconst (v := 2) hx hb dX5_tell_124 (by decide) ?_
    obtain ⟨x42, hy43, hf⟩ := dq_b hf
    refine ct_callV (ci := 4) (q0 := 0) (own := RX5) (As := [.int (n0 + (1 : Int32)), .int (2 : Int32)]) (rest := []) (ws' := (w_X5_tell y a b t_length t_letters o_shutBits o_airs o_crownedBits o_sitters o_onBits o_turn o_taken o_warmth o_kind o_figure o_airCell o_way o_seat o_shawls o_count o_steps o_numbers)) ⟨hx, hb, hml, hown, hts⟩ (m_X5_number l D y a t_length t_letters (n0 + (1 : Int32)) (2 : Int32) x42 hy43) (cwV 2 hts (gA_V wl_207 wl_208 wl_209 wl_24 wl_210) rfl rfl rfl (by decide +kernel) ⟨Nat.le_of_ble_eq_true rfl, Nat.le_of_ble_eq_true rfl⟩) rfl rfl rfl hl.1 rfl (Nat.le_of_ble_eq_true rfl) dX5_tell_125 ⟨Nat.zero_le _, Nat.zero_le _⟩ hK hP hD hS hA [0, 1] [2, 3, 4, 5, 6, 7, 8, 9, 10, 11, 12] rfl rfl rfl (by decide) (by decide) 13 rfl (by decide +kernel) (fun H locs hP hD hS => ?_)
    refine lv_aload_n hx hb dX5_tell_128 rfl (lv_at hl 0 rfl) ?_
    refine lv_iload_n hx hb dX5_tell_129 rfl (lv_at hl 1 rfl) ?_
    refine lv_iconst (v := 3) hx hb dX5_tell_130 (by decide) ?_
    refine lv_iadd hx hb dX5_tell_131 ?_
    refine lv_iconst (v := 2) hx hb dX5_tell_132 (by decide) ?_
    obtain ⟨x44, hy45, hf⟩ := dq_b hf
    refine ct_callV (ci := 4) (q0 := 0) (own := RX5) (As := [.int (n0 + (3 : Int32)), .int (2 : Int32)]) (rest := [.int x42]) (ws' := (w_X5_tell y a b t_length t_letters o_shutBits o_airs o_crownedBits o_sitters o_onBits o_turn o_taken o_warmth o_kind o_figure o_airCell o_way o_seat o_shawls o_count o_steps o_numbers)) ⟨hx, hb, hml, hown, hts⟩ (m_X5_number l D y a t_length t_letters (n0 + (3 : Int32)) (2 : Int32) x44 hy45) (cwV 2 hts (gA_V wl_207 wl_208 wl_209 wl_24 wl_210) rfl rfl rfl (by decide +kernel) ⟨Nat.le_of_ble_eq_true rfl, Nat.le_of_ble_eq_true rfl⟩) rfl rfl rfl hl.1 rfl (Nat.le_of_ble_eq_true rfl) dX5_tell_133 ⟨Nat.zero_le _, Nat.zero_le _⟩ hK hP hD hS hA [0, 1] [2, 3, 4, 5, 6, 7, 8, 9, 10, 11, 12] rfl rfl rfl (by decide) (by decide) 13 rfl (by decide +kernel) (fun H locs hP hD hS => ?_)
    refine lv_aload_n hx hb dX5_tell_136 rfl (lv_at hl 2 rfl) ?_
    obtain ⟨x46, o_warmth_47, hy48, hf⟩ := dq_b2 hf
    refine ct_callS (own := RX5) (As := [.int x42, .int x44, .ref (b 0)]) (rest := []) (ws' := (w_X5_tell y a b t_length t_letters o_shutBits o_airs o_crownedBits o_sitters o_onBits o_turn o_taken o_warmth_47 o_kind o_figure o_airCell o_way o_seat o_shawls o_count o_steps o_numbers)) ⟨hx, hb, hml, hown, hts⟩ (m_X5_tellWarm l D y b o_shutBits o_airs o_crownedBits o_sitters o_onBits o_turn o_taken o_warmth o_kind o_figure o_airCell o_way o_seat o_shawls o_count o_steps o_numbers x42 x44 x46 o_warmth_47 hy48) (va_cwS 3 hts (gA_S wl_246 wl_247 wl_24 wl_248) rfl rfl rfl (by decide +kernel) ⟨Nat.le_of_ble_eq_true rfl, Nat.le_of_ble_eq_true rfl⟩) rfl hl.1 rfl (Nat.le_of_ble_eq_true rfl) dX5_tell_137 ⟨Nat.zero_le _, Nat.zero_le _⟩ hK hP hD hS hA [2, 3, 4, 5, 6, 7, 8, 9, 10, 11, 12] [0, 1] rfl rfl rfl (by decide) (by decide) 13 rfl (by decide +kernel) (fun H locs hP hD hS => ?_)
    obtain ⟨h49, hf⟩ := dq_g hf
    obtain ⟨rfl, rfl, rfl, rfl, rfl, rfl, rfl, rfl, rfl, rfl, rfl, rfl, rfl, rfl, rfl, rfl, rfl, rfl⟩ := dq_r18 hf
    exact ct_zret hx hb hr (dq_zn h49) hlocks hAe hP hK hD hS dX5_tell_140
  have hf := dq_f hf c41
  refine lv_lookup (tgt := 153) (off := 148) hx hb dX5_tell_5 (by decide) (by show Op.lookupswitch.offset [(97, 51), (100, 102), (108, 136), (112, 60), (119, 115)] 148 _ = _; rw [lv_osw c3 (by decide), lv_osw c12 (by decide), lv_osw c19 (by decide), lv_osw c26 (by decide), lv_osw c41 (by decide)]; rfl) (by decide) ?_
  clear c3 c12 c19 c26 c41
  refine lv_aload_n hx hb dX5_tell_153 rfl (lv_at hl 0 rfl) ?_
  refine lv_iload_n hx hb dX5_tell_154 rfl (lv_at hl 1 rfl) ?_
  refine lv_iconst (v := 1) hx hb dX5_tell_155 (by decide) ?_
  refine lv_iadd hx hb dX5_tell_156 ?_
  refine lv_iconst (v := 2) hx hb dX5_tell_157 (by decide) ?_
  obtain ⟨x50, hy51, hf⟩ := dq_b hf
  refine ct_callV (ci := 4) (q0 := 0) (own := RX5) (As := [.int (n0 + (1 : Int32)), .int (2 : Int32)]) (rest := []) (ws' := (w_X5_tell y a b t_length t_letters o_shutBits o_airs o_crownedBits o_sitters o_onBits o_turn o_taken o_warmth o_kind o_figure o_airCell o_way o_seat o_shawls o_count o_steps o_numbers)) ⟨hx, hb, hml, hown, hts⟩ (m_X5_number l D y a t_length t_letters (n0 + (1 : Int32)) (2 : Int32) x50 hy51) (cwV 2 hts (gA_V wl_207 wl_208 wl_209 wl_24 wl_210) rfl rfl rfl (by decide +kernel) ⟨Nat.le_of_ble_eq_true rfl, Nat.le_of_ble_eq_true rfl⟩) rfl rfl rfl hl.1 rfl (Nat.le_of_ble_eq_true rfl) dX5_tell_158 ⟨Nat.zero_le _, Nat.zero_le _⟩ hK hP hD hS hA [0, 1] [2, 3, 4, 5, 6, 7, 8, 9, 10, 11, 12] rfl rfl rfl (by decide) (by decide) 13 rfl (by decide +kernel) (fun H locs hP hD hS => ?_)
  refine lv_istore_n (lv' := [(3, .int x50), (0, .ref (a 0)), (1, .int n0), (2, .ref (b 0))]) hx hb dX5_tell_161 rfl hl (by decide) rfl (fun ls hl => ?_)
  refine lv_iload_n hx hb dX5_tell_162 rfl (lv_at hl 0 rfl) ?_
  refine lv_iconst (v := 1) hx hb dX5_tell_163 (by decide) ?_
  refine lv_icmp_lt (tgt := 185) hx hb dX5_tell_164 (by decide) (fun c52 => ?_) (fun c52 => ?_)
  · have hf := dq_t hf c52
    clear c52
    refine lv_iconst (v := 0) hx hb dX5_tell_185 (by decide) ?_
    obtain ⟨rfl, rfl, rfl, rfl, rfl, rfl, rfl, rfl, rfl, rfl, rfl, rfl, rfl, rfl, rfl, rfl, rfl, rfl⟩ := dq_r18 hf
    exact ct_zret hx hb hr rfl hlocks hAe hP hK hD hS dX5_tell_186
  · have hf := dq_f hf c52
    clear c52
    refine lv_iload_n hx hb dX5_tell_167 rfl (lv_at hl 0 rfl) ?_
    refine lv_bipush (v := 60) hx hb dX5_tell_168 (by decide) ?_
    refine lv_icmp_gt (tgt := 185) hx hb dX5_tell_170 (by decide) (fun c53 => ?_) (fun c53 => ?_)
    · have hf := dq_t hf c53
      clear c53
      refine lv_iconst (v := 0) hx hb dX5_tell_185 (by decide) ?_
      obtain ⟨rfl, rfl, rfl, rfl, rfl, rfl, rfl, rfl, rfl, rfl, rfl, rfl, rfl, rfl, rfl, rfl, rfl, rfl⟩ := dq_r18 hf
      exact ct_zret hx hb hr rfl hlocks hAe hP hK hD hS dX5_tell_186
    · have hf := dq_f hf c53
      clear c53
      refine lv_aload_n hx hb dX5_tell_173 rfl (lv_at hl 3 rfl) ?_
      refine va_get (D := D) (ci := 1) (v := .int o_turn) (C := RX2) (T := TX2) (N := 15) hx hb hts iwX2 hown hK hP 2 rfl rfl 12 (by decide) (hts _ wl_202) (fun _ h9 => h9) rfl dX5_tell_174 ?_
      refine lv_iload_n hx hb dX5_tell_177 rfl (lv_at hl 0 rfl) ?_
      refine lv_iadd hx hb dX5_tell_178 ?_
      refine lv_sipush (v := 999) hx hb dX5_tell_179 (by decide) ?_
      refine lv_icmp_le (tgt := 187) hx hb dX5_tell_182 (by decide) (fun c54 => ?_) (fun c54 => ?_)
      · have hf := dq_t hf c54
        clear c54
        refine lv_aload_n hx hb dX5_tell_187 rfl (lv_at hl 3 rfl) ?_
        refine lv_iload_n hx hb dX5_tell_188 rfl (lv_at hl 0 rfl) ?_
        obtain ⟨o_crownedBits_55, o_onBits_56, o_turn_57, o_taken_58, o_warmth_59, o_airCell_60, o_way_61, o_shawls_62, hy63, hf⟩ := dq_b8 hf
        refine ct_callV (ci := 1) (q0 := 0) (own := RX5) (As := [.int x50]) (rest := []) (ws' := (w_X5_tell y a b t_length t_letters o_shutBits o_airs o_crownedBits_55 o_sitters o_onBits_56 o_turn_57 o_taken_58 o_warmth_59 o_kind o_figure o_airCell_60 o_way_61 o_seat o_shawls_62 o_count o_steps o_numbers)) ⟨hx, hb, hml, hown, hts⟩ (m_X2_goOn l D y b o_shutBits o_airs o_crownedBits o_sitters o_onBits o_turn o_taken o_warmth o_kind o_figure o_airCell o_way o_seat o_shawls o_count o_steps o_numbers x50 o_crownedBits_55 o_onBits_56 o_turn_57 o_taken_58 o_warmth_59 o_airCell_60 o_way_61 o_shawls_62 hy63) (cwV 1 hts (gA_V wl_259 wl_260 wl_261 wl_14 wl_262) rfl rfl rfl (by decide +kernel) ⟨Nat.le_of_ble_eq_true rfl, Nat.le_of_ble_eq_true rfl⟩) rfl rfl rfl hl.1 rfl (Nat.le_of_ble_eq_true rfl) dX5_tell_189 ⟨Nat.zero_le _, Nat.zero_le _⟩ hK hP hD hS hA [2, 3, 4, 5, 6, 7, 8, 9, 10, 11, 12] [0, 1] rfl rfl rfl (by decide) (by decide) 13 rfl (by decide +kernel) (fun H locs hP hD hS => ?_)
        refine lv_iconst (v := 1) hx hb dX5_tell_192 (by decide) ?_
        obtain ⟨rfl, rfl, rfl, rfl, rfl, rfl, rfl, rfl, rfl, rfl, rfl, rfl, rfl, rfl, rfl, rfl, rfl, rfl⟩ := dq_r18 hf
        exact ct_zret hx hb hr rfl hlocks hAe hP hK hD hS dX5_tell_193
      · have hf := dq_f hf c54
        clear c54
        refine lv_iconst (v := 0) hx hb dX5_tell_185 (by decide) ?_
        obtain ⟨rfl, rfl, rfl, rfl, rfl, rfl, rfl, rfl, rfl, rfl, rfl, rfl, rfl, rfl, rfl, rfl, rfl, rfl⟩ := dq_r18 hf
        exact ct_zret hx hb hr rfl hlocks hAe hP hK hD hS dX5_tell_186
