noncomputable def f_X7_divisor_b6   : Nat → Int64 → Int64 → Option Int64
  | 0, _, _ => none
  | m6 + 1, x1, x2 => dq_if ((lg_cmp x2 (0 : Int64)) = 0) (some x1) (dq_gd (¬ x2 = 0) (dq_let (x1 - x1 / x2 * x2) (fun (x5 : Int64) => (f_X7_divisor_b6 m6) x2 x5)))
noncomputable def f_X7_divisor (n0 : Int64) (n1 : Int64) : Option Int64 := f_X7_divisor_b6 4096 n0 n1
def wA_X7_divisor : List Cond := .code yX7_divisor cX7_divisor 10 (some .long) :: wsL_law
-- DraughtsTakeModel.divisor(JJ)J
set_option maxHeartbeats 4000000 in
set_option maxRecDepth 100000 in
theorem m_X7_divisor (l : Launch) (D : va_G) (y : Nat → ClassId) (n0 : Int64) (n1 : Int64) (z0 : Int64) (hf : f_X7_divisor n0 n1 = some z0) : Ct l D y yX7_divisor wA_X7_divisor 0 0 [.long n0, .long n1] [] [] (some (.long z0)) := by
  refine ct_head (cc := cX7_divisor) (n := 10) (ret := (some .long)) (by decide) rfl (Nat.le_of_ble_eq_true rfl) ?_
  intro p e s m below meth c A ls hx hb hr hml hown hlocks hts hA hAe hP hK hD hl
  have hS : va_S A s.heap s.heap [] := va_S.rf
  have hl : lv_has ls 10 [(0, .long n0), (2, .long n1)] := hl
  have hown : s.vm.findClass RX7 = some m.cls := hown
  have hts : ∀ w ∈ wsL_law, w.before [.long n0, .long n1].toArray s = true := fun w h => hts w (List.mem_cons_of_mem _ h)
  unfold f_X7_divisor at hf
  refine lv_lload_n hx hb dX7_divisor_0 rfl (lv_at hl 0 rfl) ?_
  refine lv_lstore (lv' := [(4, .long n0), (0, .long n0), (2, .long n1)]) hx hb dX7_divisor_1 hl (by decide) rfl (fun ls hl => ?_)
  refine lv_lload_n hx hb dX7_divisor_3 rfl (lv_at hl 2 rfl) ?_
  refine lv_lstore (lv' := [(6, .long n1), (4, .long n0), (0, .long n0), (2, .long n1)]) hx hb dX7_divisor_4 hl (by decide) rfl (fun ls hl => ?_)
  have J6 : ∀ (m6 : Nat) (x1 : Int64) (x2 : Int64), f_X7_divisor_b6 m6 x1 x2 = some z0 → ∀ (H : Heap) (locs : List Loc), va_P D vwCl [] H → va_D A [] → va_S A s.heap H locs → ∀ ls : Array Slot, lv_has ls 10 [(4, .long x1), (6, .long x2)] → W p l e ({ frames := 0, cells := 0, slots := 0, locals := 0 } : Room) s m [.long n0, .long n1].toArray below meth c H locs 0 0 (MQ below (dQ D y (some (.long z0)) s.heap.size [] []) [.long n0, .long n1].toArray s 0 0 A) (F0 m 6 ls []) := by
    intro m6
    induction m6 with
    | zero => intro x1 x2 hf; exact absurd hf (by unfold f_X7_divisor_b6; exact fun h => by cases h)
    | succ m6 I6 =>
      intro x1 x2 hf H locs hP hD hS ls hl
      unfold f_X7_divisor_b6 at hf
      refine lv_lload hx hb dX7_divisor_6 (lv_at hl 1 rfl) ?_
      refine lv_lconst (v := 0) hx hb dX7_divisor_8 (by decide) ?_
      refine W.lcmp hx hb dX7_divisor_9 ?_
      refine lv_if_eq (tgt := 31) hx hb dX7_divisor_10 (by decide) (fun c3 => ?_) (fun c3 => ?_)
      · have hf := dq_t hf c3
        clear c3
        refine lv_lload hx hb dX7_divisor_31 (lv_at hl 0 rfl) ?_
        obtain rfl := dq_r1 hf
        exact ct_lret hx hb hr hlocks hAe hP hK hD hS dX7_divisor_33
      · have hf := dq_f hf c3
        clear c3
        refine lv_lload hx hb dX7_divisor_13 (lv_at hl 0 rfl) ?_
        refine lv_lload hx hb dX7_divisor_15 (lv_at hl 1 rfl) ?_
        obtain ⟨h4, hf⟩ := dq_g hf
        refine lv_lrem hx hb dX7_divisor_17 h4 ?_
        refine lv_topl (fun x5 ex5 => ?_)
        have hf := dq_l hf x5 ex5
        clear ex5
        refine lv_lstore (lv' := [(8, .long x5), (4, .long x1), (6, .long x2)]) hx hb dX7_divisor_18 hl (by decide) rfl (fun ls hl => ?_)
        refine lv_lload hx hb dX7_divisor_20 (lv_at hl 2 rfl) ?_
        refine lv_lstore (lv' := [(4, .long x2), (8, .long x5), (6, .long x2)]) hx hb dX7_divisor_22 hl (by decide) rfl (fun ls hl => ?_)
        refine lv_lload hx hb dX7_divisor_24 (lv_at hl 1 rfl) ?_
        refine lv_lstore (lv' := [(6, .long x5), (4, .long x2), (8, .long x5)]) hx hb dX7_divisor_26 hl (by decide) rfl (fun ls hl => ?_)
        refine lv_goto (tgt := 6) hx hb dX7_divisor_28 (by decide) ?_
        exact I6 _ _ hf _ _ hP hD hS _ (lv_sub hl [1, 0] rfl)
  exact J6 4096 _ _ hf _ _ hP hD hS _ (lv_sub hl [1, 0] rfl)
noncomputable def f_X7_partOf (n0 : Int64) (n1 : Int64) (n2 : Int32) : Option Int64 := dq_if ((lg_cmp n0 (0 : Int64)) = 0) (some n2.toInt64) (dq_bd (f_X7_divisor n0 n1) (fun (x2 : Int64) => dq_if (n2 = 0) (dq_gd (¬ x2 = 0) (some (n0 / x2))) (dq_gd (¬ x2 = 0) (some (n1 / x2)))))
def wA_X7_partOf : List Cond := .code yX7_partOf cX7_partOf 7 (some .long) :: wsL_law
-- DraughtsTakeModel.partOf(JJI)J
set_option maxHeartbeats 4000000 in
set_option maxRecDepth 100000 in
theorem m_X7_partOf (l : Launch) (D : va_G) (y : Nat → ClassId) (n0 : Int64) (n1 : Int64) (n2 : Int32) (z0 : Int64) (hf : f_X7_partOf n0 n1 n2 = some z0) : Ct l D y yX7_partOf wA_X7_partOf 1 29 [.long n0, .long n1, .int n2] [] [] (some (.long z0)) := by
  refine ct_head (cc := cX7_partOf) (n := 7) (ret := (some .long)) (by decide) rfl (Nat.le_of_ble_eq_true rfl) ?_
  intro p e s m below meth c A ls hx hb hr hml hown hlocks hts hA hAe hP hK hD hl
  have hS : va_S A s.heap s.heap [] := va_S.rf
  have hl : lv_has ls 7 [(0, .long n0), (2, .long n1), (4, .int n2)] := hl
  have hown : s.vm.findClass RX7 = some m.cls := hown
  have hts : ∀ w ∈ wsL_law, w.before [.long n0, .long n1, .int n2].toArray s = true := fun w h => hts w (List.mem_cons_of_mem _ h)
  unfold f_X7_partOf at hf
  refine lv_lload_n hx hb dX7_partOf_0 rfl (lv_at hl 0 rfl) ?_
  refine lv_lconst (v := 0) hx hb dX7_partOf_1 (by decide) ?_
  refine W.lcmp hx hb dX7_partOf_2 ?_
  refine lv_if_ne (tgt := 10) hx hb dX7_partOf_3 (by decide) (fun c1 => ?_) (fun c1 => ?_)
  · have hf := dq_f hf c1
    clear c1
    refine lv_lload_n hx hb dX7_partOf_10 rfl (lv_at hl 0 rfl) ?_
    refine lv_lload_n hx hb dX7_partOf_11 rfl (lv_at hl 1 rfl) ?_
    obtain ⟨x2, hy3, hf⟩ := dq_b hf
    refine ct_callS0 (own := RX7) (As := [.long n0, .long n1]) (rest := []) ⟨hx, hb, hml, hown, hts⟩ (m_X7_divisor l D y n0 n1 x2 hy3) (va_cwS 2 hts (gA_S wl_921 wl_922 wl_5 wl_923) rfl rfl rfl (by decide +kernel) ⟨Nat.le_of_ble_eq_true rfl, Nat.le_of_ble_eq_true rfl⟩) rfl hl.1 rfl (Nat.le_of_ble_eq_true rfl) dX7_partOf_12 ⟨Nat.zero_le _, Nat.zero_le _⟩ hK hP hD hS hA (fun H locs hP hD hS => ?_)
    refine lv_lstore (lv' := [(5, .long x2), (0, .long n0), (2, .long n1), (4, .int n2)]) hx hb dX7_partOf_15 hl (by decide) rfl (fun ls hl => ?_)
    refine lv_iload hx hb dX7_partOf_17 (lv_at hl 3 rfl) ?_
    refine lv_if_ne (tgt := 29) hx hb dX7_partOf_19 (by decide) (fun c4 => ?_) (fun c4 => ?_)
    · have hf := dq_f hf c4
      clear c4
      refine lv_lload_n hx hb dX7_partOf_29 rfl (lv_at hl 2 rfl) ?_
      refine lv_lload hx hb dX7_partOf_30 (lv_at hl 0 rfl) ?_
      obtain ⟨h5, hf⟩ := dq_g hf
      refine lv_ldiv hx hb dX7_partOf_32 h5 ?_
      obtain rfl := dq_r1 hf
      exact ct_lret hx hb hr hlocks hAe hP hK hD hS dX7_partOf_33
    · have hf := dq_t hf c4
      clear c4
      refine lv_lload_n hx hb dX7_partOf_22 rfl (lv_at hl 1 rfl) ?_
      refine lv_lload hx hb dX7_partOf_23 (lv_at hl 0 rfl) ?_
      obtain ⟨h6, hf⟩ := dq_g hf
      refine lv_ldiv hx hb dX7_partOf_25 h6 ?_
      refine lv_goto (tgt := 33) hx hb dX7_partOf_26 (by decide) ?_
      obtain rfl := dq_r1 hf
      exact ct_lret hx hb hr hlocks hAe hP hK hD hS dX7_partOf_33
  · have hf := dq_t hf c1
    clear c1
    refine lv_iload hx hb dX7_partOf_6 (lv_at hl 2 rfl) ?_
    refine lv_i2l hx hb dX7_partOf_8 rfl ?_
    obtain rfl := dq_r1 hf
    exact ct_lret hx hb hr hlocks hAe hP hK hD hS dX7_partOf_9
