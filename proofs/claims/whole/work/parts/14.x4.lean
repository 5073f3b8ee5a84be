def w_X4 (y : Nat → ClassId) (a : Nat → Nat) (c_sorts : (Nat → Int32)) (c_sizes : (Nat → Int32)) (c_places : (Nat → Nat → Int32)) (c_carried : (Nat → Int32)) : va_W := [((a 0), .inr (3, [.ref (a 1), .ref (a 2), .ref (a 3), .ref (a 7)])), ((a 1), .inl (y 1, 3, .inl c_sorts)), ((a 2), .inl (y 1, 3, .inl c_sizes)), ((a 3), .inl (y 4, 3, .inr (.inr (.inr (.inr (fun i => if i < 3 then some (a (4 + i)) else none)))))), ((a 4), .inl (y 1, 12, .inl (c_places 0))), ((a 5), .inl (y 1, 12, .inl (c_places 1))), ((a 6), .inl (y 1, 12, .inl (c_places 2))), ((a 7), .inl (y 1, 12, .inl c_carried))]
noncomputable def f_X4_holdRow_b17 (n0 : Int32) (c_sorts_2 : (Nat → Int32)) (c_sizes_4 : (Nat → Int32))  : Nat → Int32 → (Nat → Nat → Int32) → Option ((Nat → Int32) × (Nat → Int32) × (Nat → Nat → Int32))
  | 0, _, _ => none
  | m17 + 1, x5, c_places_6 => dq_if ((12 : Int32) ≤ x5) (some (c_sorts_2, c_sizes_4, c_places_6)) (dq_gd (vp_in n0 3) (dq_gd (vp_in x5 12) (dq_let (upd (c_places_6 n0.toNatClampNeg) x5.toNatClampNeg (0 : Int32)) (fun (c_places_10 : (Nat → Int32)) => dq_let (x5 + (1 : Int32)) (fun (x11 : Int32) => (f_X4_holdRow_b17 n0 c_sorts_2 c_sizes_4 m17) x11 (va_up c_places_6 n0.toNatClampNeg c_places_10))))))
noncomputable def f_X4_holdRow (c_sorts : (Nat → Int32)) (c_sizes : (Nat → Int32)) (c_places : (Nat → Nat → Int32)) (n0 : Int32) (n1 : Int32) (n2 : Int32) : Option ((Nat → Int32) × (Nat → Int32) × (Nat → Nat → Int32)) := dq_gd (vp_in n0 3) (dq_let (upd c_sorts n0.toNatClampNeg n1) (fun (c_sorts_2 : (Nat → Int32)) => dq_gd (vp_in n0 3) (dq_let (upd c_sizes n0.toNatClampNeg n2) (fun (c_sizes_4 : (Nat → Int32)) => f_X4_holdRow_b17 n0 c_sorts_2 c_sizes_4 4096 (0 : Int32) c_places))))
def wA_X4_holdRow : List Cond := .code yX4_holdRow cX4_holdRow 5 none :: wsL_law
-- DraughtsTake$Pegs.holdRow(III)V
set_option maxHeartbeats 4000000 in
set_option maxRecDepth 100000 in
theorem m_X4_holdRow (l : Launch) (D : va_G) (y : Nat → ClassId) (a : (Nat → Nat)) (c_sorts : (Nat → Int32)) (c_sizes : (Nat → Int32)) (c_places : (Nat → Nat → Int32)) (c_carried : (Nat → Int32)) (n0 : Int32) (n1 : Int32) (n2 : Int32) (z0 : (Nat → Int32)) (z1 : (Nat → Int32)) (z2 : (Nat → Nat → Int32)) (hf : f_X4_holdRow c_sorts c_sizes c_places n0 n1 n2 = some (z0, z1, z2)) : Ct l D y yX4_holdRow wA_X4_holdRow 0 0 [.ref (a 0), .int n0, .int n1, .int n2] (w_X4 y a c_sorts c_sizes c_places c_carried) (w_X4 y a z0 z1 z2 c_carried) none := by
  refine ct_head (cc := cX4_holdRow) (n := 5) (ret := none) (by decide) rfl (Nat.le_of_ble_eq_true rfl) ?_
  intro p e s m below meth c A ls hx hb hr hml hown hlocks hts hA hAe hP hK hD hl
  have hS : va_S A s.heap s.heap [] := va_S.rf
  have hl : lv_has ls 5 [(0, .ref (a 0)), (1, .int n0), (2, .int n1), (3, .int n2)] := hl
  have hown : s.vm.findClass RX4 = some m.cls := hown
  have hts : ∀ w ∈ wsL_law, w.before [.ref (a 0), .int n0, .int n1, .int n2].toArray s = true := fun w h => hts w (List.mem_cons_of_mem _ h)
  unfold f_X4_holdRow at hf
  refine lv_aload_n hx hb dX4_holdRow_0 rfl (lv_at hl 0 rfl) ?_
  refine va_get (D := D) (ci := 3) (v := .ref (a 1)) (C := RX4) (T := TX4) (N := 4) hx hb hts iwX4 hown hK hP 0 rfl rfl 0 (by decide) (hts _ wl_72) (fun _ h9 => h9) rfl dX4_holdRow_1 ?_
  refine lv_iload_n hx hb dX4_holdRow_4 rfl (lv_at hl 1 rfl) ?_
  refine lv_iload_n hx hb dX4_holdRow_5 rfl (lv_at hl 2 rfl) ?_
  obtain ⟨h1, hf⟩ := dq_g hf
  refine dq_iast (cA := y 1) (n := 3) (f := c_sorts) hx hb hK hP hD hS 1 1 rfl rfl h1 dX4_holdRow_6 (fun c_sorts_2 ec_sorts_2 H locs hP hD hS => ?_)
  have hf := dq_l hf c_sorts_2 ec_sorts_2
  clear ec_sorts_2
  have hP : va_P D vwCl (w_X4 y a c_sorts_2 c_sizes c_places c_carried) H := hP
  have hD : va_D A (w_X4 y a c_sorts_2 c_sizes c_places c_carried) := hD
  refine lv_aload_n hx hb dX4_holdRow_7 rfl (lv_at hl 0 rfl) ?_
  refine va_get (D := D) (ci := 3) (v := .ref (a 2)) (C := RX4) (T := TX4) (N := 4) hx hb hts iwX4 hown hK hP 0 rfl rfl 1 (by decide) (hts _ wl_73) (fun _ h9 => h9) rfl dX4_holdRow_8 ?_
  refine lv_iload_n hx hb dX4_holdRow_11 rfl (lv_at hl 1 rfl) ?_
  refine lv_iload_n hx hb dX4_holdRow_12 rfl (lv_at hl 3 rfl) ?_
  obtain ⟨h3, hf⟩ := dq_g hf
  refine dq_iast (cA := y 1) (n := 3) (f := c_sizes) hx hb hK hP hD hS 2 1 rfl rfl h3 dX4_holdRow_13 (fun c_sizes_4 ec_sizes_4 H locs hP hD hS => ?_)
  have hf := dq_l hf c_sizes_4 ec_sizes_4
  clear ec_sizes_4
  have hP : va_P D vwCl (w_X4 y a c_sorts_2 c_sizes_4 c_places c_carried) H := hP
  have hD : va_D A (w_X4 y a c_sorts_2 c_sizes_4 c_places c_carried) := hD
  refine lv_iconst (v := 0) hx hb dX4_holdRow_14 (by decide) ?_
  refine lv_istore (lv' := [(4, .int (0 : Int32)), (0, .ref (a 0)), (1, .int n0), (2, .int n1), (3, .int n2)]) hx hb dX4_holdRow_15 hl (by decide) rfl (fun ls hl => ?_)
  have J17 : ∀ (m17 : Nat) (x5 : Int32) (c_places_6 : (Nat → Nat → Int32)), f_X4_holdRow_b17 n0 c_sorts_2 c_sizes_4 m17 x5 c_places_6 = some (z0, z1, z2) → ∀ (H : Heap) (locs : List Loc), va_P D vwCl (w_X4 y a c_sorts_2 c_sizes_4 c_places_6 c_carried) H → va_D A (w_X4 y a c_sorts_2 c_sizes_4 c_places_6 c_carried) → va_S A s.heap H locs → ∀ ls : Array Slot, lv_has ls 5 [(0, .ref (a 0)), (1, .int n0), (4, .int x5)] → W p l e ({ frames := 0, cells := 0, slots := 0, locals := 0 } : Room) s m [.ref (a 0), .int n0, .int n1, .int n2].toArray below meth c H locs 0 0 (MQ below (dQ D y none s.heap.size (w_X4 y a c_sorts c_sizes c_places c_carried) (w_X4 y a z0 z1 z2 c_carried)) [.ref (a 0), .int n0, .int n1, .int n2].toArray s 0 0 A) (F0 m 17 ls []) := by
    intro m17
    induction m17 with
    | zero => intro x5 c_places_6 hf; exact absurd hf (by unfold f_X4_holdRow_b17; exact fun h => by cases h)
    | succ m17 I17 =>
      intro x5 c_places_6 hf H locs hP hD hS ls hl
      unfold f_X4_holdRow_b17 at hf
      refine lv_iload hx hb dX4_holdRow_17 (lv_at hl 2 rfl) ?_
      refine lv_bipush (v := 12) hx hb dX4_holdRow_19 (by decide) ?_
      refine lv_icmp_ge (tgt := 40) hx hb dX4_holdRow_21 (by decide) (fun c7 => ?_) (fun c7 => ?_)
      · have hf := dq_t hf c7
        clear c7
        obtain ⟨rfl, rfl, rfl⟩ := dq_r3 hf
        exact ct_vret hx hb hr hlocks hAe hP hK hD hS dX4_holdRow_40
      · have hf := dq_f hf c7
        clear c7
        refine lv_aload_n hx hb dX4_holdRow_24 rfl (lv_at hl 0 rfl) ?_
        refine va_get (D := D) (ci := 3) (v := .ref (a 3)) (C := RX4) (T := TX4) (N := 4) hx hb hts iwX4 hown hK hP 0 rfl rfl 2 (by decide) (hts _ wl_75) (fun _ h9 => h9) rfl dX4_holdRow_25 ?_
        refine lv_iload_n hx hb dX4_holdRow_28 rfl (lv_at hl 1 rfl) ?_
        obtain ⟨h8, hf⟩ := dq_g hf
        obtain ⟨j12, hjj12, ej12⟩ := dq_ix h8
        have hjj12 : j12 = 0 ∨ j12 = 1 ∨ j12 = 2 := by omega
        rcases hjj12 with rfl | rfl | rfl
        · try rw [ej12] at hf
          refine dq_aldI (cA := y 4) (n := 3) (b := (a 4)) (f := (fun i => if i < 3 then some (a (4 + i)) else none)) hx hb hK hP 3 4 rfl rfl h8 (by rw [ej12]; rfl) dX4_holdRow_29 ?_
          refine lv_iload hx hb dX4_holdRow_30 (lv_at hl 2 rfl) ?_
          refine lv_iconst (v := 0) hx hb dX4_holdRow_32 (by decide) ?_
          obtain ⟨h13, hf⟩ := dq_g hf
          refine dq_iast (cA := y 1) (n := 12) (f := (c_places_6 0)) hx hb hK hP hD hS 4 1 rfl rfl h13 dX4_holdRow_33 (fun c_places_14 ec_places_14 H locs hP hD hS => ?_)
          have hf := dq_l hf c_places_14 ec_places_14
          clear ec_places_14
          have hP : va_P D vwCl (w_X4 y a c_sorts_2 c_sizes_4 (va_up c_places_6 0 c_places_14) c_carried) H := hP
          have hD : va_D A (w_X4 y a c_sorts_2 c_sizes_4 (va_up c_places_6 0 c_places_14) c_carried) := hD
          obtain ⟨x15, ex15⟩ : ∃ z : Int32, z = (x5 + (1 : Int32)) := ⟨_, rfl⟩
          have hf := dq_l hf x15 ex15
          refine lv_iinc (v := x15) (lv' := [(4, .int x15), (0, .ref (a 0)), (1, .int n0)]) hx hb dX4_holdRow_34 hl (k := 2) rfl (by rw [ex15]; rfl) (by decide) rfl (fun ls hl => ?_)
          clear ex15
          refine lv_goto (tgt := 17) hx hb dX4_holdRow_37 (by decide) ?_
          exact I17 _ _ hf _ _ hP hD hS _ (lv_sub hl [1, 2, 0] rfl)
        · try rw [ej12] at hf
          refine dq_aldI (cA := y 4) (n := 3) (b := (a 5)) (f := (fun i => if i < 3 then some (a (4 + i)) else none)) hx hb hK hP 3 4 rfl rfl h8 (by rw [ej12]; rfl) dX4_holdRow_29 ?_
          refine lv_iload hx hb dX4_holdRow_30 (lv_at hl 2 rfl) ?_
          refine lv_iconst (v := 0) hx hb dX4_holdRow_32 (by decide) ?_
          obtain ⟨h16, hf⟩ := dq_g hf
          refine dq_iast (cA := y 1) (n := 12) (f := (c_places_6 1)) hx hb hK hP hD hS 5 1 rfl rfl h16 dX4_holdRow_33 (fun c_places_17 ec_places_17 H locs hP hD hS => ?_)
          have hf := dq_l hf c_places_17 ec_places_17
          clear ec_places_17
          have hP : va_P D vwCl (w_X4 y a c_sorts_2 c_sizes_4 (va_up c_places_6 1 c_places_17) c_carried) H := hP
          have hD : va_D A (w_X4 y a c_sorts_2 c_sizes_4 (va_up c_places_6 1 c_places_17) c_carried) := hD
          obtain ⟨x18, ex18⟩ : ∃ z : Int32, z = (x5 + (1 : Int32)) := ⟨_, rfl⟩
          have hf := dq_l hf x18 ex18
          refine lv_iinc (v := x18) (lv' := [(4, .int x18), (0, .ref (a 0)), (1, .int n0)]) hx hb dX4_holdRow_34 hl (k := 2) rfl (by rw [ex18]; rfl) (by decide) rfl (fun ls hl => ?_)
          clear ex18
          refine lv_goto (tgt := 17) hx hb dX4_holdRow_37 (by decide) ?_
          exact I17 _ _ hf _ _ hP hD hS _ (lv_sub hl [1, 2, 0] rfl)
        · try rw [ej12] at hf
          refine dq_aldI (cA := y 4) (n := 3) (b := (a 6)) (f := (fun i => if i < 3 then some (a (4 + i)) else none)) hx hb hK hP 3 4 rfl rfl h8 (by rw [ej12]; rfl) dX4_holdRow_29 ?_
          refine lv_iload hx hb dX4_holdRow_30 (lv_at hl 2 rfl) ?_
          refine lv_iconst (v := 0) hx hb dX4_holdRow_32 (by decide) ?_
          obtain ⟨h19, hf⟩ := dq_g hf
          refine dq_iast (cA := y 1) (n := 12) (f := (c_places_6 2)) hx hb hK hP hD hS 6 1 rfl rfl h19 dX4_holdRow_33 (fun c_places_20 ec_places_20 H locs hP hD hS => ?_)
          have hf := dq_l hf c_places_20 ec_places_20
          clear ec_places_20
          have hP : va_P D vwCl (w_X4 y a c_sorts_2 c_sizes_4 (va_up c_places_6 2 c_places_20) c_carried) H := hP
          have hD : va_D A (w_X4 y a c_sorts_2 c_sizes_4 (va_up c_places_6 2 c_places_20) c_carried) := hD
          obtain ⟨x21, ex21⟩ : ∃ z : Int32, z = (x5 + (1 : Int32)) := ⟨_, rfl⟩
          have hf := dq_l hf x21 ex21
          refine lv_iinc (v := x21) (lv' := [(4, .int x21), (0, .ref (a 0)), (1, .int n0)]) hx hb dX4_holdRow_34 hl (k := 2) rfl (by rw [ex21]; rfl) (by decide) rfl (fun ls hl => ?_)
          clear ex21
          refine lv_goto (tgt := 17) hx hb dX4_holdRow_37 (by decide) ?_
          exact I17 _ _ hf _ _ hP hD hS _ (lv_sub hl [1, 2, 0] rfl)
  exact J17 4096 _ _ hf _ _ hP hD hS _ (lv_sub hl [1, 2, 0] rfl)
noncomputable def f_X4_holdsRow (c_sizes : (Nat → Int32)) (n0 : Int32) : Option Int32 := dq_gd (vp_in n0 3) (dq_if ((c_sizes n0.toNatClampNeg) < 0) (some (0 : Int32)) (some (1 : Int32)))
def wA_X4_holdsRow : List Cond := .code yX4_holdsRow cX4_holdsRow 2 (some .boolean) :: wsL_law
-- DraughtsTake$Pegs.holdsRow(I)Z
set_option maxHeartbeats 4000000 in
set_option maxRecDepth 100000 in
theorem m_X4_holdsRow (l : Launch) (D : va_G) (y : Nat → ClassId) (a : (Nat → Nat)) (c_sorts : (Nat → Int32)) (c_sizes : (Nat → Int32)) (c_places : (Nat → Nat → Int32)) (c_carried : (Nat → Int32)) (n0 : Int32) (z0 : Int32) (hf : f_X4_holdsRow c_sizes n0 = some z0) : Ct l D y yX4_holdsRow wA_X4_holdsRow 0 0 [.ref (a 0), .int n0] (w_X4 y a c_sorts c_sizes c_places c_carried) (w_X4 y a c_sorts c_sizes c_places c_carried) (some (.int z0)) := by
  refine ct_head (cc := cX4_holdsRow) (n := 2) (ret := (some .boolean)) (by decide) rfl (Nat.le_of_ble_eq_true rfl) ?_
  intro p e s m below meth c A ls hx hb hr hml hown hlocks hts hA hAe hP hK hD hl
  have hS : va_S A s.heap s.heap [] := va_S.rf
  have hl : lv_has ls 2 [(0, .ref (a 0)), (1, .int n0)] := hl
  have hown : s.vm.findClass RX4 = some m.cls := hown
  have hts : ∀ w ∈ wsL_law, w.before [.ref (a 0), .int n0].toArray s = true := fun w h => hts w (List.mem_cons_of_mem _ h)
  unfold f_X4_holdsRow at hf
  refine lv_aload_n hx hb dX4_holdsRow_0 rfl (lv_at hl 0 rfl) ?_
  refine va_get (D := D) (ci := 3) (v := .ref (a 2)) (C := RX4) (T := TX4) (N := 4) hx hb hts iwX4 hown hK hP 0 rfl rfl 1 (by decide) (hts _ wl_73) (fun _ h9 => h9) rfl dX4_holdsRow_1 ?_
  refine lv_iload_n hx hb dX4_holdsRow_4 rfl (lv_at hl 1 rfl) ?_
  obtain ⟨h1, hf⟩ := dq_g hf
  refine va_iald (cA := y 1) (n := 3) (f := c_sizes) hx hb hK hP 2 1 rfl rfl h1 dX4_holdsRow_5 ?_
  refine lv_if_lt (tgt := 13) hx hb dX4_holdsRow_6 (by decide) (fun c2 => ?_) (fun c2 => ?_)
  · have hf := dq_t hf c2
    clear c2
    refine lv_iconst (v := 0) hx hb dX4_holdsRow_13 (by decide) ?_
    obtain rfl := dq_r1 hf
    exact ct_zret hx hb hr rfl hlocks hAe hP hK hD hS dX4_holdsRow_14
  · have hf := dq_f hf c2
    clear c2
    refine lv_iconst (v := 1) hx hb dX4_holdsRow_9 (by decide) ?_
    refine lv_goto (tgt := 14) hx hb dX4_holdsRow_10 (by decide) ?_
    obtain rfl := dq_r1 hf
    exact ct_zret hx hb hr rfl hlocks hAe hP hK hD hS dX4_holdsRow_14
noncomputable def f_X4_hasPlaces (c_sizes : (Nat → Int32)) (n0 : Int32) (n1 : Int32) (n2 : Int32) : Option Int32 := dq_if (n1 < 0) (some (0 : Int32)) (dq_if (n2 < 0) (some (0 : Int32)) (dq_gd (vp_in n0 3) (dq_if ((c_sizes n0.toNatClampNeg) < n2) (some (0 : Int32)) (dq_gd (vp_in n0 3) (dq_if (((c_sizes n0.toNatClampNeg) - n2) < n1) (some (0 : Int32)) (some (1 : Int32)))))))
def wA_X4_hasPlaces : List Cond := .code yX4_hasPlaces cX4_hasPlaces 4 (some .boolean) :: wsL_law
-- DraughtsTake$Pegs.hasPlaces(III)Z
set_option maxHeartbeats 4000000 in
set_option maxRecDepth 100000 in
theorem m_X4_hasPlaces (l : Launch) (D : va_G) (y : Nat → ClassId) (a : (Nat → Nat)) (c_sorts : (Nat → Int32)) (c_sizes : (Nat → Int32)) (c_places : (Nat → Nat → Int32)) (c_carried : (Nat → Int32)) (n0 : Int32) (n1 : Int32) (n2 : Int32) (z0 : Int32) (hf : f_X4_hasPlaces c_sizes n0 n1 n2 = some z0) : Ct l D y yX4_hasPlaces wA_X4_hasPlaces 0 0 [.ref (a 0), .int n0, .int n1, .int n2] (w_X4 y a c_sorts c_sizes c_places c_carried) (w_X4 y a c_sorts c_sizes c_places c_carried) (some (.int z0)) := by
  refine ct_head (cc := cX4_hasPlaces) (n := 4) (ret := (some .boolean)) (by decide) rfl (Nat.le_of_ble_eq_true rfl) ?_
  intro p e s m below meth c A ls hx hb hr hml hown hlocks hts hA hAe hP hK hD hl
  have hS : va_S A s.heap s.heap [] := va_S.rf
  have hl : lv_has ls 4 [(0, .ref (a 0)), (1, .int n0), (2, .int n1), (3, .int n2)] := hl
  have hown : s.vm.findClass RX4 = some m.cls := hown
  have hts : ∀ w ∈ wsL_law, w.before [.ref (a 0), .int n0, .int n1, .int n2].toArray s = true := fun w h => hts w (List.mem_cons_of_mem _ h)
  unfold f_X4_hasPlaces at hf
  refine lv_iload_n hx hb dX4_hasPlaces_0 rfl (lv_at hl 2 rfl) ?_
  refine lv_if_lt (tgt := 34) hx hb dX4_hasPlaces_1 (by decide) (fun c1 => ?_) (fun c1 => ?_)
  · have hf := dq_t hf c1
    clear c1
    refine lv_iconst (v := 0) hx hb dX4_hasPlaces_34 (by decide) ?_
    obtain rfl := dq_r1 hf
    exact ct_zret hx hb hr rfl hlocks hAe hP hK hD hS dX4_hasPlaces_35
  · have hf := dq_f hf c1
    clear c1
    refine lv_iload_n hx hb dX4_hasPlaces_4 rfl (lv_at hl 3 rfl) ?_
    refine lv_if_lt (tgt := 34) hx hb dX4_hasPlaces_5 (by decide) (fun c2 => ?_) (fun c2 => ?_)
    · have hf := dq_t hf c2
      clear c2
      refine lv_iconst (v := 0) hx hb dX4_hasPlaces_34 (by decide) ?_
      obtain rfl := dq_r1 hf
      exact ct_zret hx hb hr rfl hlocks hAe hP hK hD hS dX4_hasPlaces_35
    · have hf := dq_f hf c2
      clear c2
      refine lv_iload_n hx hb dX4_hasPlaces_8 rfl (lv_at hl 3 rfl) ?_
      refine lv_aload_n hx hb dX4_hasPlaces_9 rfl (lv_at hl 0 rfl) ?_
      refine va_get (D := D) (ci := 3) (v := .ref (a 2)) (C := RX4) (T := TX4) (N := 4) hx hb hts iwX4 hown hK hP 0 rfl rfl 1 (by decide) (hts _ wl_73) (fun _ h9 => h9) rfl dX4_hasPlaces_10 ?_
      refine lv_iload_n hx hb dX4_hasPlaces_13 rfl (lv_at hl 1 rfl) ?_
      obtain ⟨h3, hf⟩ := dq_g hf
      refine va_iald (cA := y 1) (n := 3) (f := c_sizes) hx hb hK hP 2 1 rfl rfl h3 dX4_hasPlaces_14 ?_
      refine lv_icmp_gt (tgt := 34) hx hb dX4_hasPlaces_15 (by decide) (fun c4 => ?_) (fun c4 => ?_)
      · have hf := dq_t hf c4
        clear c4
        refine lv_iconst (v := 0) hx hb dX4_hasPlaces_34 (by decide) ?_
        obtain rfl := dq_r1 hf
        exact ct_zret hx hb hr rfl hlocks hAe hP hK hD hS dX4_hasPlaces_35
      · have hf := dq_f hf c4
        clear c4
        refine lv_iload_n hx hb dX4_hasPlaces_18 rfl (lv_at hl 2 rfl) ?_
        refine lv_aload_n hx hb dX4_hasPlaces_19 rfl (lv_at hl 0 rfl) ?_
        refine va_get (D := D) (ci := 3) (v := .ref (a 2)) (C := RX4) (T := TX4) (N := 4) hx hb hts iwX4 hown hK hP 0 rfl rfl 1 (by decide) (hts _ wl_73) (fun _ h9 => h9) rfl dX4_hasPlaces_20 ?_
        refine lv_iload_n hx hb dX4_hasPlaces_23 rfl (lv_at hl 1 rfl) ?_
        obtain ⟨h5, hf⟩ := dq_g hf
        refine va_iald (cA := y 1) (n := 3) (f := c_sizes) hx hb hK hP 2 1 rfl rfl h5 dX4_hasPlaces_24 ?_
        refine lv_iload_n hx hb dX4_hasPlaces_25 rfl (lv_at hl 3 rfl) ?_
        refine lv_isub hx hb dX4_hasPlaces_26 ?_
        refine lv_icmp_gt (tgt := 34) hx hb dX4_hasPlaces_27 (by decide) (fun c6 => ?_) (fun c6 => ?_)
        · have hf := dq_t hf c6
          clear c6
          refine lv_iconst (v := 0) hx hb dX4_hasPlaces_34 (by decide) ?_
          obtain rfl := dq_r1 hf
          exact ct_zret hx hb hr rfl hlocks hAe hP hK hD hS dX4_hasPlaces_35
        · have hf := dq_f hf c6
          clear c6
          refine lv_iconst (v := 1) hx hb dX4_hasPlaces_30 (by decide) ?_
          refine lv_goto (tgt := 35) hx hb dX4_hasPlaces_31 (by decide) ?_
          obtain rfl := dq_r1 hf
          exact ct_zret hx hb hr rfl hlocks hAe hP hK hD hS dX4_hasPlaces_35
noncomputable def f_X4_placeFault (c_sizes : (Nat → Int32)) (n0 : Int32) (n1 : Int32) : Option Int32 := dq_bd (f_X4_holdsRow c_sizes n0) (fun (x1 : Int32) => dq_if (x1 = 0) (some (-11 : Int32)) (dq_bd (f_X4_hasPlaces c_sizes n0 n1 (1 : Int32)) (fun (x4 : Int32) => dq_if (x4 = 0) (some (-13 : Int32)) (some (0 : Int32)))))
def wA_X4_placeFault : List Cond := .code yX4_placeFault cX4_placeFault 3 (some .int) :: wsL_law
-- DraughtsTake$Pegs.placeFault(II)I
set_option maxHeartbeats 4000000 in
set_option maxRecDepth 100000 in
theorem m_X4_placeFault (l : Launch) (D : va_G) (y : Nat → ClassId) (a : (Nat → Nat)) (c_sorts : (Nat → Int32)) (c_sizes : (Nat → Int32)) (c_places : (Nat → Nat → Int32)) (c_carried : (Nat → Int32)) (n0 : Int32) (n1 : Int32) (z0 : Int32) (hf : f_X4_placeFault c_sizes n0 n1 = some z0) : Ct l D y yX4_placeFault wA_X4_placeFault 1 23 [.ref (a 0), .int n0, .int n1] (w_X4 y a c_sorts c_sizes c_places c_carried) (w_X4 y a c_sorts c_sizes c_places c_carried) (some (.int z0)) := by
  refine ct_head (cc := cX4_placeFault) (n := 3) (ret := (some .int)) (by decide) rfl (Nat.le_of_ble_eq_true rfl) ?_
  intro p e s m below meth c A ls hx hb hr hml hown hlocks hts hA hAe hP hK hD hl
  have hS : va_S A s.heap s.heap [] := va_S.rf
  have hl : lv_has ls 3 [(0, .ref (a 0)), (1, .int n0), (2, .int n1)] := hl
  have hown : s.vm.findClass RX4 = some m.cls := hown
  have hts : ∀ w ∈ wsL_law, w.before [.ref (a 0), .int n0, .int n1].toArray s = true := fun w h => hts w (List.mem_cons_of_mem _ h)
  unfold f_X4_placeFault at hf
  refine lv_aload_n hx hb dX4_placeFault_0 rfl (lv_at hl 0 rfl) ?_
  refine lv_iload_n hx hb dX4_placeFault_1 rfl (lv_at hl 1 rfl) ?_
  obtain ⟨x1, hy2, hf⟩ := dq_b hf
  refine ct_callV0 (ci := 3) (q0 := 0) (own := RX4) (As := [.int n0]) (rest := []) (ws' := (w_X4 y a c_sorts c_sizes c_places c_carried)) ⟨hx, hb, hml, hown, hts⟩ (m_X4_holdsRow l D y a c_sorts c_sizes c_places c_carried n0 x1 hy2) (cwV 1 hts (gA_V wl_998 wl_999 wl_1000 wl_28 wl_1001) rfl rfl rfl (by decide +kernel) ⟨Nat.le_of_ble_eq_true rfl, Nat.le_of_ble_eq_true rfl⟩) rfl rfl rfl hl.1 rfl (Nat.le_of_ble_eq_true rfl) dX4_placeFault_2 ⟨Nat.zero_le _, Nat.zero_le _⟩ hK hP hD hS hA (fun H locs hP hD hS => ?_)
  refine lv_if_ne (tgt := 11) hx hb dX4_placeFault_5 (by decide) (fun c3 => ?_) (fun c3 => ?_)
  · have hf := dq_f hf c3
    clear c3
    refine lv_aload_n hx hb dX4_placeFault_11 rfl (lv_at hl 0 rfl) ?_
    refine lv_iload_n hx hb dX4_placeFault_12 rfl (lv_at hl 1 rfl) ?_
    refine lv_iload_n hx hb dX4_placeFault_13 rfl (lv_at hl 2 rfl) ?_
    refine lv_iconst (v := 1) hx hb dX4_placeFault_14 (by decide) ?_
    obtain ⟨x4, hy5, hf⟩ := dq_b hf
    refine ct_callV0 (ci := 3) (q0 := 0) (own := RX4) (As := [.int n0, .int n1, .int (1 : Int32)]) (rest := []) (ws' := (w_X4 y a c_sorts c_sizes c_places c_carried)) ⟨hx, hb, hml, hown, hts⟩ (m_X4_hasPlaces l D y a c_sorts c_sizes c_places c_carried n0 n1 (1 : Int32) x4 hy5) (cwV 3 hts (gA_V wl_1002 wl_1003 wl_1004 wl_28 wl_1005) rfl rfl rfl (by decide +kernel) ⟨Nat.le_of_ble_eq_true rfl, Nat.le_of_ble_eq_true rfl⟩) rfl rfl rfl hl.1 rfl (Nat.le_of_ble_eq_true rfl) dX4_placeFault_15 ⟨Nat.zero_le _, Nat.zero_le _⟩ hK hP hD hS hA (fun H locs hP hD hS => ?_)
    refine lv_if_eq (tgt := 25) hx hb dX4_placeFault_18 (by decide) (fun c6 => ?_) (fun c6 => ?_)
    · have hf := dq_t hf c6
      clear c6
      refine lv_bipush (v := -13) hx hb dX4_placeFault_25 (by decide) ?_
      obtain rfl := dq_r1 hf
      exact ct_iret hx hb hr hlocks hAe hP hK hD hS dX4_placeFault_27
    · have hf := dq_f hf c6
      clear c6
      refine lv_iconst (v := 0) hx hb dX4_placeFault_21 (by decide) ?_
      refine lv_goto (tgt := 27) hx hb dX4_placeFault_22 (by decide) ?_
      obtain rfl := dq_r1 hf
      exact ct_iret hx hb hr hlocks hAe hP hK hD hS dX4_placeFault_27
  · have hf := dq_t hf c3
    clear c3
    refine lv_bipush (v := -11) hx hb dX4_placeFault_8 (by decide) ?_
    obtain rfl := dq_r1 hf
    exact ct_iret hx hb hr hlocks hAe hP hK hD hS dX4_placeFault_10
noncomputable def f_X4_coatFault (c_sizes : (Nat → Int32)) (c_places : (Nat → Nat → Int32)) (n0 : Int32) (n1 : Int32) : Option Int32 := dq_bd (f_X4_placeFault c_sizes n0 n1) (fun (x1 : Int32) => dq_if (x1 = 0) (dq_gd (vp_in n0 3) (dq_gd (vp_in n1 12) (dq_if (((c_places n0.toNatClampNeg) n1.toNatClampNeg) = 0) (some (-15 : Int32)) (some (0 : Int32))))) (some x1))
def wA_X4_coatFault : List Cond := .code yX4_coatFault cX4_coatFault 4 (some .int) :: wsL_law
-- DraughtsTake$Pegs.coatFault(II)I
set_option maxHeartbeats 4000000 in
set_option maxRecDepth 100000 in
theorem m_X4_coatFault (l : Launch) (D : va_G) (y : Nat → ClassId) (a : (Nat → Nat)) (c_sorts : (Nat → Int32)) (c_sizes : (Nat → Int32)) (c_places : (Nat → Nat → Int32)) (c_carried : (Nat → Int32)) (n0 : Int32) (n1 : Int32) (z0 : Int32) (hf : f_X4_coatFault c_sizes c_places n0 n1 = some z0) : Ct l D y yX4_coatFault wA_X4_coatFault 2 45 [.ref (a 0), .int n0, .int n1] (w_X4 y a c_sorts c_sizes c_places c_carried) (w_X4 y a c_sorts c_sizes c_places c_carried) (some (.int z0)) := by
  refine ct_head (cc := cX4_coatFault) (n := 4) (ret := (some .int)) (by decide) rfl (Nat.le_of_ble_eq_true rfl) ?_
  intro p e s m below meth c A ls hx hb hr hml hown hlocks hts hA hAe hP hK hD hl
  have hS : va_S A s.heap s.heap [] := va_S.rf
  have hl : lv_has ls 4 [(0, .ref (a 0)), (1, .int n0), (2, .int n1)] := hl
  have hown : s.vm.findClass RX4 = some m.cls := hown
  have hts : ∀ w ∈ wsL_law, w.before [.ref (a 0), .int n0, .int n1].toArray s = true := fun w h => hts w (List.mem_cons_of_mem _ h)
  unfold f_X4_coatFault at hf
  refine lv_aload_n hx hb dX4_coatFault_0 rfl (lv_at hl 0 rfl) ?_
  refine lv_iload_n hx hb dX4_coatFault_1 rfl (lv_at hl 1 rfl) ?_
  refine lv_iload_n hx hb dX4_coatFault_2 rfl (lv_at hl 2 rfl) ?_
  obtain ⟨x1, hy2, hf⟩ := dq_b hf
  refine ct_callV0 (ci := 3) (q0 := 0) (own := RX4) (As := [.int n0, .int n1]) (rest := []) (ws' := (w_X4 y a c_sorts c_sizes c_places c_carried)) ⟨hx, hb, hml, hown, hts⟩ (m_X4_placeFault l D y a c_sorts c_sizes c_places c_carried n0 n1 x1 hy2) (cwV 2 hts (gA_V wl_1031 wl_995 wl_996 wl_28 wl_997) rfl rfl rfl (by decide +kernel) ⟨Nat.le_of_ble_eq_true rfl, Nat.le_of_ble_eq_true rfl⟩) rfl rfl rfl hl.1 rfl (Nat.le_of_ble_eq_true rfl) dX4_coatFault_3 ⟨Nat.zero_le _, Nat.zero_le _⟩ hK hP hD hS hA (fun H locs hP hD hS => ?_)
  refine lv_istore_n (lv' := [(3, .int x1), (0, .ref (a 0)), (1, .int n0), (2, .int n1)]) hx hb dX4_coatFault_6 rfl hl (by decide) rfl (fun ls hl => ?_)
  refine lv_iload_n hx hb dX4_coatFault_7 rfl (lv_at hl 0 rfl) ?_
  refine lv_if_eq (tgt := 13) hx hb dX4_coatFault_8 (by decide) (fun c3 => ?_) (fun c3 => ?_)
  · have hf := dq_t hf c3
    clear c3
    refine lv_aload_n hx hb dX4_coatFault_13 rfl (lv_at hl 1 rfl) ?_
    refine va_get (D := D) (ci := 3) (v := .ref (a 3)) (C := RX4) (T := TX4) (N := 4) hx hb hts iwX4 hown hK hP 0 rfl rfl 2 (by decide) (hts _ wl_75) (fun _ h9 => h9) rfl dX4_coatFault_14 ?_
    refine lv_iload_n hx hb dX4_coatFault_17 rfl (lv_at hl 2 rfl) ?_
    obtain ⟨h4, hf⟩ := dq_g hf
    obtain ⟨j7, hjj7, ej7⟩ := dq_ix h4
    have hjj7 : j7 = 0 ∨ j7 = 1 ∨ j7 = 2 := by omega
    rcases hjj7 with rfl | rfl | rfl
    · try rw [ej7] at hf
      refine dq_aldI (cA := y 4) (n := 3) (b := (a 4)) (f := (fun i => if i < 3 then some (a (4 + i)) else none)) hx hb hK hP 3 4 rfl rfl h4 (by rw [ej7]; rfl) dX4_coatFault_18 ?_
      refine lv_iload_n hx hb dX4_coatFault_19 rfl (lv_at hl 3 rfl) ?_
      obtain ⟨h8, hf⟩ := dq_g hf
      refine va_iald (cA := y 1) (n := 12) (f := (c_places 0)) hx hb hK hP 4 1 rfl rfl h8 dX4_coatFault_20 ?_
      refine lv_if_ne (tgt := 29) hx hb dX4_coatFault_21 (by decide) (fun c9 => ?_) (fun c9 => ?_)
      · have hf := dq_f hf c9
        clear c9
        refine lv_iconst (v := 0) hx hb dX4_coatFault_29 (by decide) ?_
        obtain rfl := dq_r1 hf
        exact ct_iret hx hb hr hlocks hAe hP hK hD hS dX4_coatFault_30
      · have hf := dq_t hf c9
        clear c9
        refine lv_bipush (v := -15) hx hb dX4_coatFault_24 (by decide) ?_
        refine lv_goto (tgt := 30) hx hb dX4_coatFault_26 (by decide) ?_
        obtain rfl := dq_r1 hf
        exact ct_iret hx hb hr hlocks hAe hP hK hD hS dX4_coatFault_30
    · try rw [ej7] at hf
      refine dq_aldI (cA := y 4) (n := 3) (b := (a 5)) (f := (fun i => if i < 3 then some (a (4 + i)) else none)) hx hb hK hP 3 4 rfl rfl h4 (by rw [ej7]; rfl) dX4_coatFault_18 ?_
      refine lv_iload_n hx hb dX4_coatFault_19 rfl (lv_at hl 3 rfl) ?_
      obtain ⟨h10, hf⟩ := dq_g hf
      refine va_iald (cA := y 1) (n := 12) (f := (c_places 1)) hx hb hK hP 5 1 rfl rfl h10 dX4_coatFault_20 ?_
      refine lv_if_ne (tgt := 29) hx hb dX4_coatFault_21 (by decide) (fun c11 => ?_) (fun c11 => ?_)
      · have hf := dq_f hf c11
        clear c11
        refine lv_iconst (v := 0) hx hb dX4_coatFault_29 (by decide) ?_
        obtain rfl := dq_r1 hf
        exact ct_iret hx hb hr hlocks hAe hP hK hD hS dX4_coatFault_30
      · have hf := dq_t hf c11
        clear c11
        refine lv_bipush (v := -15) hx hb dX4_coatFault_24 (by decide) ?_
        refine lv_goto (tgt := 30) hx hb dX4_coatFault_26 (by decide) ?_
        obtain rfl := dq_r1 hf
        exact ct_iret hx hb hr hlocks hAe hP hK hD hS dX4_coatFault_30
    · try rw [ej7] at hf
      refine dq_aldI (cA := y 4) (n := 3) (b := (a 6)) (f := (fun i => if i < 3 then some (a (4 + i)) else none)) hx hb hK hP 3 4 rfl rfl h4 (by rw [ej7]; rfl) dX4_coatFault_18 ?_
      refine lv_iload_n hx hb dX4_coatFault_19 rfl (lv_at hl 3 rfl) ?_
      obtain ⟨h12, hf⟩ := dq_g hf
      refine va_iald (cA := y 1) (n := 12) (f := (c_places 2)) hx hb hK hP 6 1 rfl rfl h12 dX4_coatFault_20 ?_
      refine lv_if_ne (tgt := 29) hx hb dX4_coatFault_21 (by decide) (fun c13 => ?_) (fun c13 => ?_)
      · have hf := dq_f hf c13
        clear c13
        refine lv_iconst (v := 0) hx hb dX4_coatFault_29 (by decide) ?_
        obtain rfl := dq_r1 hf
        exact ct_iret hx hb hr hlocks hAe hP hK hD hS dX4_coatFault_30
      · have hf := dq_t hf c13
        clear c13
        refine lv_bipush (v := -15) hx hb dX4_coatFault_24 (by decide) ?_
        refine lv_goto (tgt := 30) hx hb dX4_coatFault_26 (by decide) ?_
        obtain rfl := dq_r1 hf
        exact ct_iret hx hb hr hlocks hAe hP hK hD hS dX4_coatFault_30
  · have hf := dq_f hf c3
    clear c3
    refine lv_iload_n hx hb dX4_coatFault_11 rfl (lv_at hl 0 rfl) ?_
    obtain rfl := dq_r1 hf
    exact ct_iret hx hb hr hlocks hAe hP hK hD hS dX4_coatFault_12
noncomputable def f_X4_put_b28 (n0 : Int32) (n1 : Int32) (n2 : Int32) (c_places : (Nat → Nat → Int32))   : Option (Int32 × (Nat → Nat → Int32)) := dq_gd (vp_in n0 3) (dq_gd (vp_in n1 12) (dq_let (upd (c_places n0.toNatClampNeg) n1.toNatClampNeg n2) (fun (c_places_3 : (Nat → Int32)) => some ((1 : Int32), (va_up c_places n0.toNatClampNeg c_places_3)))))
noncomputable def f_X4_put (c_sorts : (Nat → Int32)) (c_places : (Nat → Nat → Int32)) (n0 : Int32) (n1 : Int32) (n2 : Int32) : Option (Int32 × (Nat → Nat → Int32)) := dq_if (n2 = 0) (f_X4_put_b28 n0 n1 n2 c_places) (dq_gd (vp_in n0 3) (dq_if ((c_sorts n0.toNatClampNeg) = 0) (f_X4_put_b28 n0 n1 n2 c_places) (dq_gd (vp_in n0 3) (dq_if ((c_sorts n0.toNatClampNeg) = (n2 / (10 : Int32))) (f_X4_put_b28 n0 n1 n2 c_places) (some ((0 : Int32), c_places))))))
def wA_X4_put : List Cond := .code yX4_put cX4_put 4 (some .boolean) :: wsL_law
-- DraughtsTake$Pegs.put(III)Z
set_option maxHeartbeats 4000000 in
set_option maxRecDepth 100000 in
theorem m_X4_put (l : Launch) (D : va_G) (y : Nat → ClassId) (a : (Nat → Nat)) (c_sorts : (Nat → Int32)) (c_sizes : (Nat → Int32)) (c_places : (Nat → Nat → Int32)) (c_carried : (Nat → Int32)) (n0 : Int32) (n1 : Int32) (n2 : Int32) (z0 : Int32) (z1 : (Nat → Nat → Int32)) (hf : f_X4_put c_sorts c_places n0 n1 n2 = some (z0, z1)) : Ct l D y yX4_put wA_X4_put 0 0 [.ref (a 0), .int n0, .int n1, .int n2] (w_X4 y a c_sorts c_sizes c_places c_carried) (w_X4 y a c_sorts c_sizes z1 c_carried) (some (.int z0)) := by
  refine ct_head (cc := cX4_put) (n := 4) (ret := (some .boolean)) (by decide) rfl (Nat.le_of_ble_eq_true rfl) ?_
  intro p e s m below meth c A ls hx hb hr hml hown hlocks hts hA hAe hP hK hD hl
  have hS : va_S A s.heap s.heap [] := va_S.rf
  have hl : lv_has ls 4 [(0, .ref (a 0)), (1, .int n0), (2, .int n1), (3, .int n2)] := hl
  have hown : s.vm.findClass RX4 = some m.cls := hown
  have hts : ∀ w ∈ wsL_law, w.before [.ref (a 0), .int n0, .int n1, .int n2].toArray s = true := fun w h => hts w (List.mem_cons_of_mem _ h)
  unfold f_X4_put at hf
  refine lv_iload_n hx hb dX4_put_0 rfl (lv_at hl 3 rfl) ?_
  have J28 : f_X4_put_b28 n0 n1 n2 c_places = some (z0, z1) → ∀ (H : Heap) (locs : List Loc), va_P D vwCl (w_X4 y a c_sorts c_sizes c_places c_carried) H → va_D A (w_X4 y a c_sorts c_sizes c_places c_carried) → va_S A s.heap H locs → ∀ ls : Array Slot, lv_has ls 4 [(0, .ref (a 0)), (1, .int n0), (2, .int n1), (3, .int n2)] → W p l e ({ frames := 0, cells := 0, slots := 0, locals := 0 } : Room) s m [.ref (a 0), .int n0, .int n1, .int n2].toArray below meth c H locs 0 0 (MQ below (dQ D y (some (.int z0)) s.heap.size (w_X4 y a c_sorts c_sizes c_places c_carried) (w_X4 y a c_sorts c_sizes z1 c_carried)) [.ref (a 0), .int n0, .int n1, .int n2].toArray s 0 0 A) (F0 m 28 ls []) := by
    intro  hf H locs hP hD hS ls hl
    unfold f_X4_put_b28 at hf
    refine lv_aload_n hx hb dX4_put_28 rfl (lv_at hl 0 rfl) ?_
    refine va_get (D := D) (ci := 3) (v := .ref (a 3)) (C := RX4) (T := TX4) (N := 4) hx hb hts iwX4 hown hK hP 0 rfl rfl 2 (by decide) (hts _ wl_75) (fun _ h9 => h9) rfl dX4_put_29 ?_
    refine lv_iload_n hx hb dX4_put_32 rfl (lv_at hl 1 rfl) ?_
    obtain ⟨h1, hf⟩ := dq_g hf
    obtain ⟨j4, hjj4, ej4⟩ := dq_ix h1
    have hjj4 : j4 = 0 ∨ j4 = 1 ∨ j4 = 2 := by omega
    rcases hjj4 with rfl | rfl | rfl
    · try rw [ej4] at hf
      refine dq_aldI (cA := y 4) (n := 3) (b := (a 4)) (f := (fun i => if i < 3 then some (a (4 + i)) else none)) hx hb hK hP 3 4 rfl rfl h1 (by rw [ej4]; rfl) dX4_put_33 ?_
      refine lv_iload_n hx hb dX4_put_34 rfl (lv_at hl 2 rfl) ?_
      refine lv_iload_n hx hb dX4_put_35 rfl (lv_at hl 3 rfl) ?_
      obtain ⟨h5, hf⟩ := dq_g hf
      refine dq_iast (cA := y 1) (n := 12) (f := (c_places 0)) hx hb hK hP hD hS 4 1 rfl rfl h5 dX4_put_36 (fun c_places_6 ec_places_6 H locs hP hD hS => ?_)
      have hf := dq_l hf c_places_6 ec_places_6
      clear ec_places_6
      have hP : va_P D vwCl (w_X4 y a c_sorts c_sizes (va_up c_places 0 c_places_6) c_carried) H := hP
      have hD : va_D A (w_X4 y a c_sorts c_sizes (va_up c_places 0 c_places_6) c_carried) := hD
      refine lv_iconst (v := 1) hx hb dX4_put_37 (by decide) ?_
      obtain ⟨rfl, rfl⟩ := dq_r2 hf
      exact ct_zret hx hb hr rfl hlocks hAe hP hK hD hS dX4_put_38
    · try rw [ej4] at hf
      refine dq_aldI (cA := y 4) (n := 3) (b := (a 5)) (f := (fun i => if i < 3 then some (a (4 + i)) else none)) hx hb hK hP 3 4 rfl rfl h1 (by rw [ej4]; rfl) dX4_put_33 ?_
      refine lv_iload_n hx hb dX4_put_34 rfl (lv_at hl 2 rfl) ?_
      refine lv_iload_n hx hb dX4_put_35 rfl (lv_at hl 3 rfl) ?_
      obtain ⟨h7, hf⟩ := dq_g hf
      refine dq_iast (cA := y 1) (n := 12) (f := (c_places 1)) hx hb hK hP hD hS 5 1 rfl rfl h7 dX4_put_36 (fun c_places_8 ec_places_8 H locs hP hD hS => ?_)
      have hf := dq_l hf c_places_8 ec_places_8
      clear ec_places_8
      have hP : va_P D vwCl (w_X4 y a c_sorts c_sizes (va_up c_places 1 c_places_8) c_carried) H := hP
      have hD : va_D A (w_X4 y a c_sorts c_sizes (va_up c_places 1 c_places_8) c_carried) := hD
      refine lv_iconst (v := 1) hx hb dX4_put_37 (by decide) ?_
      obtain ⟨rfl, rfl⟩ := dq_r2 hf
      exact ct_zret hx hb hr rfl hlocks hAe hP hK hD hS dX4_put_38
    · try rw [ej4] at hf
      refine dq_aldI (cA := y 4) (n := 3) (b := (a 6)) (f := (fun i => if i < 3 then some (a (4 + i)) else none)) hx hb hK hP 3 4 rfl rfl h1 (by rw [ej4]; rfl) dX4_put_33 ?_
      refine lv_iload_n hx hb dX4_put_34 rfl (lv_at hl 2 rfl) ?_
      refine lv_iload_n hx hb dX4_put_35 rfl (lv_at hl 3 rfl) ?_
      obtain ⟨h9, hf⟩ := dq_g hf
      refine dq_iast (cA := y 1) (n := 12) (f := (c_places 2)) hx hb hK hP hD hS 6 1 rfl rfl h9 dX4_put_36 (fun c_places_10 ec_places_10 H locs hP hD hS => ?_)
      have hf := dq_l hf c_places_10 ec_places_10
      clear ec_places_10
      have hP : va_P D vwCl (w_X4 y a c_sorts c_sizes (va_up c_places 2 c_places_10) c_carried) H := hP
      have hD : va_D A (w_X4 y a c_sorts c_sizes (va_up c_places 2 c_places_10) c_carried) := hD
      refine lv_iconst (v := 1) hx hb dX4_put_37 (by decide) ?_
      obtain ⟨rfl, rfl⟩ := dq_r2 hf
      exact ct_zret hx hb hr rfl hlocks hAe hP hK hD hS dX4_put_38
  refine lv_if_eq (tgt := 28) hx hb dX4_put_1 (by decide) (fun c11 => ?_) (fun c11 => ?_)
  · have hf := dq_t hf c11
    clear c11
    exact J28  hf _ _ hP hD hS _ (lv_sub hl [0, 1, 2, 3] rfl)
  · have hf := dq_f hf c11
    clear c11
    refine lv_aload_n hx hb dX4_put_4 rfl (lv_at hl 0 rfl) ?_
    refine va_get (D := D) (ci := 3) (v := .ref (a 1)) (C := RX4) (T := TX4) (N := 4) hx hb hts iwX4 hown hK hP 0 rfl rfl 0 (by decide) (hts _ wl_72) (fun _ h9 => h9) rfl dX4_put_5 ?_
    refine lv_iload_n hx hb dX4_put_8 rfl (lv_at hl 1 rfl) ?_
    obtain ⟨h12, hf⟩ := dq_g hf
    refine va_iald (cA := y 1) (n := 3) (f := c_sorts) hx hb hK hP 1 1 rfl rfl h12 dX4_put_9 ?_
    refine lv_if_eq (tgt := 28) hx hb dX4_put_10 (by decide) (fun c13 => ?_) (fun c13 => ?_)
    · have hf := dq_t hf c13
      clear c13
      exact J28  hf _ _ hP hD hS _ (lv_sub hl [0, 1, 2, 3] rfl)
    · have hf := dq_f hf c13
      clear c13
      refine lv_aload_n hx hb dX4_put_13 rfl (lv_at hl 0 rfl) ?_
      refine va_get (D := D) (ci := 3) (v := .ref (a 1)) (C := RX4) (T := TX4) (N := 4) hx hb hts iwX4 hown hK hP 0 rfl rfl 0 (by decide) (hts _ wl_72) (fun _ h9 => h9) rfl dX4_put_14 ?_
      refine lv_iload_n hx hb dX4_put_17 rfl (lv_at hl 1 rfl) ?_
      obtain ⟨h14, hf⟩ := dq_g hf
      refine va_iald (cA := y 1) (n := 3) (f := c_sorts) hx hb hK hP 1 1 rfl rfl h14 dX4_put_18 ?_
      refine lv_iload_n hx hb dX4_put_19 rfl (lv_at hl 3 rfl) ?_
      refine lv_bipush (v := 10) hx hb dX4_put_20 (by decide) ?_
      refine lv_idiv hx hb dX4_put_22 (by decide) ?_
      refine lv_icmp_eq (tgt := 28) hx hb dX4_put_23 (by decide) (fun c15 => ?_) (fun c15 => ?_)
      · have hf := dq_t hf c15
        clear c15
        exact J28  hf _ _ hP hD hS _ (lv_sub hl [0, 1, 2, 3] rfl)
      · have hf := dq_f hf c15
        clear c15
        refine lv_iconst (v := 0) hx hb dX4_put_26 (by decide) ?_
        obtain ⟨rfl, rfl⟩ := dq_r2 hf
        exact ct_zret hx hb hr rfl hlocks hAe hP hK hD hS dX4_put_27
noncomputable def f_X4_carry_b37 (n2 : Int32) (n3 : Int32) (n4 : Int32) (c_sorts : (Nat → Int32)) (c_carried_2 : (Nat → Int32))  : Nat → Int32 → (Nat → Nat → Int32) → Option (Int32 × (Nat → Nat → Int32) × (Nat → Int32))
  | 0, _, _ => none
  | m37 + 1, x4, c_places_5 => dq_if (n4 ≤ x4) (some ((1 : Int32), c_places_5, c_carried_2)) (dq_gd (vp_in x4 12) (dq_bd2 (f_X4_put c_sorts c_places_5 n2 (n3 + x4) (c_carried_2 x4.toNatClampNeg)) (fun (x8 : Int32) (c_places_9 : (Nat → Nat → Int32)) => dq_if (x8 = 0) (some ((0 : Int32), c_places_9, c_carried_2)) (dq_let (x4 + (1 : Int32)) (fun (x12 : Int32) => (f_X4_carry_b37 n2 n3 n4 c_sorts c_carried_2 m37) x12 c_places_9)))))
noncomputable def f_X4_carry_b3 (n0 : Int32) (n1 : Int32) (n2 : Int32) (n3 : Int32) (n4 : Int32) (c_sorts : (Nat → Int32)) (c_places : (Nat → Nat → Int32))  : Nat → Int32 → (Nat → Int32) → Option (Int32 × (Nat → Nat → Int32) × (Nat → Int32))
  | 0, _, _ => none
  | m3 + 1, x1, c_carried_2 => dq_if (n4 ≤ x1) (f_X4_carry_b37 n2 n3 n4 c_sorts c_carried_2 4096 (0 : Int32) c_places) (dq_gd (vp_in n0 3) (dq_gd (vp_in (n1 + x1) 12) (dq_gd (vp_in x1 12) (dq_let (upd c_carried_2 x1.toNatClampNeg ((c_places n0.toNatClampNeg) (n1 + x1).toNatClampNeg)) (fun (c_carried_16 : (Nat → Int32)) => dq_let (x1 + (1 : Int32)) (fun (x17 : Int32) => (f_X4_carry_b3 n0 n1 n2 n3 n4 c_sorts c_places m3) x17 c_carried_16))))))
noncomputable def f_X4_carry (c_sorts : (Nat → Int32)) (c_places : (Nat → Nat → Int32)) (c_carried : (Nat → Int32)) (n0 : Int32) (n1 : Int32) (n2 : Int32) (n3 : Int32) (n4 : Int32) : Option (Int32 × (Nat → Nat → Int32) × (Nat → Int32)) := f_X4_carry_b3 n0 n1 n2 n3 n4 c_sorts c_places 4096 (0 : Int32) c_carried
def wA_X4_carry : List Cond := .code yX4_carry cX4_carry 7 (some .boolean) :: wsL_law
-- DraughtsTake$Pegs.carry(IIIII)Z
set_option maxHeartbeats 4000000 in
set_option maxRecDepth 100000 in
theorem m_X4_carry (l : Launch) (D : va_G) (y : Nat → ClassId) (a : (Nat → Nat)) (c_sorts : (Nat → Int32)) (c_sizes : (Nat → Int32)) (c_places : (Nat → Nat → Int32)) (c_carried : (Nat → Int32)) (n0 : Int32) (n1 : Int32) (n2 : Int32) (n3 : Int32) (n4 : Int32) (z0 : Int32) (z1 : (Nat → Nat → Int32)) (z2 : (Nat → Int32)) (hf : f_X4_carry c_sorts c_places c_carried n0 n1 n2 n3 n4 = some (z0, z1, z2)) : Ct l D y yX4_carry wA_X4_carry 1 23 [.ref (a 0), .int n0, .int n1, .int n2, .int n3, .int n4] (w_X4 y a c_sorts c_sizes c_places c_carried) (w_X4 y a c_sorts c_sizes z1 z2) (some (.int z0)) := by
  refine ct_head (cc := cX4_carry) (n := 7) (ret := (some .boolean)) (by decide) rfl (Nat.le_of_ble_eq_true rfl) ?_
  intro p e s m below meth c A ls hx hb hr hml hown hlocks hts hA hAe hP hK hD hl
  have hS : va_S A s.heap s.heap [] := va_S.rf
  have hl : lv_has ls 7 [(0, .ref (a 0)), (1, .int n0), (2, .int n1), (3, .int n2), (4, .int n3), (5, .int n4)] := hl
  have hown : s.vm.findClass RX4 = some m.cls := hown
  have hts : ∀ w ∈ wsL_law, w.before [.ref (a 0), .int n0, .int n1, .int n2, .int n3, .int n4].toArray s = true := fun w h => hts w (List.mem_cons_of_mem _ h)
  unfold f_X4_carry at hf
  refine lv_iconst (v := 0) hx hb dX4_carry_0 (by decide) ?_
  refine lv_istore (lv' := [(6, .int (0 : Int32)), (0, .ref (a 0)), (1, .int n0), (2, .int n1), (3, .int n2), (4, .int n3), (5, .int n4)]) hx hb dX4_carry_1 hl (by decide) rfl (fun ls hl => ?_)
  have J3 : ∀ (m3 : Nat) (x1 : Int32) (c_carried_2 : (Nat → Int32)), f_X4_carry_b3 n0 n1 n2 n3 n4 c_sorts c_places m3 x1 c_carried_2 = some (z0, z1, z2) → ∀ (H : Heap) (locs : List Loc), va_P D vwCl (w_X4 y a c_sorts c_sizes c_places c_carried_2) H → va_D A (w_X4 y a c_sorts c_sizes c_places c_carried_2) → va_S A s.heap H locs → ∀ ls : Array Slot, lv_has ls 7 [(0, .ref (a 0)), (1, .int n0), (2, .int n1), (3, .int n2), (4, .int n3), (5, .int n4), (6, .int x1)] → W p l e ({ frames := 1, cells := 0, slots := 0, locals := 23 } : Room) s m [.ref (a 0), .int n0, .int n1, .int n2, .int n3, .int n4].toArray below meth c H locs 0 0 (MQ below (dQ D y (some (.int z0)) s.heap.size (w_X4 y a c_sorts c_sizes c_places c_carried) (w_X4 y a c_sorts c_sizes z1 z2)) [.ref (a 0), .int n0, .int n1, .int n2, .int n3, .int n4].toArray s 0 0 A) (F0 m 3 ls []) := by
    intro m3
    induction m3 with
    | zero => intro x1 c_carried_2 hf; exact absurd hf (by unfold f_X4_carry_b3; exact fun h => by cases h)
    | succ m3 I3 =>
      intro x1 c_carried_2 hf H locs hP hD hS ls hl
      unfold f_X4_carry_b3 at hf
      refine lv_iload hx hb dX4_carry_3 (lv_at hl 6 rfl) ?_
      refine lv_iload hx hb dX4_carry_5 (lv_at hl 5 rfl) ?_
      refine lv_icmp_ge (tgt := 34) hx hb dX4_carry_7 (by decide) (fun c3 => ?_) (fun c3 => ?_)
      · have hf := dq_t hf c3
        clear c3
        refine lv_iconst (v := 0) hx hb dX4_carry_34 (by decide) ?_
        refine lv_istore (lv' := [(6, .int (0 : Int32)), (0, .ref (a 0)), (1, .int n0), (2, .int n1), (3, .int n2), (4, .int n3), (5, .int n4)]) hx hb dX4_carry_35 hl (by decide) rfl (fun ls hl => ?_)
        have J37 : ∀ (m37 : Nat) (x4 : Int32) (c_places_5 : (Nat → Nat → Int32)), f_X4_carry_b37 n2 n3 n4 c_sorts c_carried_2 m37 x4 c_places_5 = some (z0, z1, z2) → ∀ (H : Heap) (locs : List Loc), va_P D vwCl (w_X4 y a c_sorts c_sizes c_places_5 c_carried_2) H → va_D A (w_X4 y a c_sorts c_sizes c_places_5 c_carried_2) → va_S A s.heap H locs → ∀ ls : Array Slot, lv_has ls 7 [(0, .ref (a 0)), (3, .int n2), (4, .int n3), (5, .int n4), (6, .int x4)] → W p l e ({ frames := 1, cells := 0, slots := 0, locals := 23 } : Room) s m [.ref (a 0), .int n0, .int n1, .int n2, .int n3, .int n4].toArray below meth c H locs 0 0 (MQ below (dQ D y (some (.int z0)) s.heap.size (w_X4 y a c_sorts c_sizes c_places c_carried) (w_X4 y a c_sorts c_sizes z1 z2)) [.ref (a 0), .int n0, .int n1, .int n2, .int n3, .int n4].toArray s 0 0 A) (F0 m 37 ls []) := by
          intro m37
          induction m37 with
          | zero => intro x4 c_places_5 hf; exact absurd hf (by unfold f_X4_carry_b37; exact fun h => by cases h)
          | succ m37 I37 =>
            intro x4 c_places_5 hf H locs hP hD hS ls hl
            unfold f_X4_carry_b37 at hf
            refine lv_iload hx hb dX4_carry_37 (lv_at hl 4 rfl) ?_
            refine lv_iload hx hb dX4_carry_39 (lv_at hl 3 rfl) ?_
            refine lv_icmp_ge (tgt := 72) hx hb dX4_carry_41 (by decide) (fun c6 => ?_) (fun c6 => ?_)
            · have hf := dq_t hf c6
              clear c6
              refine lv_iconst (v := 1) hx hb dX4_carry_72 (by decide) ?_
              obtain ⟨rfl, rfl, rfl⟩ := dq_r3 hf
              exact ct_zret hx hb hr rfl hlocks hAe hP hK hD hS dX4_carry_73
            · have hf := dq_f hf c6
              clear c6
              refine lv_aload_n hx hb dX4_carry_44 rfl (lv_at hl 0 rfl) ?_
              refine lv_iload_n hx hb dX4_carry_45 rfl (lv_at hl 1 rfl) ?_
              refine lv_iload hx hb dX4_carry_46 (lv_at hl 2 rfl) ?_
              refine lv_iload hx hb dX4_carry_48 (lv_at hl 4 rfl) ?_
              refine lv_iadd hx hb dX4_carry_50 ?_
              refine lv_aload_n hx hb dX4_carry_51 rfl (lv_at hl 0 rfl) ?_
              refine va_get (D := D) (ci := 3) (v := .ref (a 7)) (C := RX4) (T := TX4) (N := 4) hx hb hts iwX4 hown hK hP 0 rfl rfl 3 (by decide) (hts _ wl_76) (fun _ h9 => h9) rfl dX4_carry_52 ?_
              refine lv_iload hx hb dX4_carry_55 (lv_at hl 4 rfl) ?_
              obtain ⟨h7, hf⟩ := dq_g hf
              refine va_iald (cA := y 1) (n := 12) (f := c_carried_2) hx hb hK hP 7 1 rfl rfl h7 dX4_carry_57 ?_
              obtain ⟨x8, c_places_9, hy10, hf⟩ := dq_b2 hf
              refine ct_callV0 (ci := 3) (q0 := 0) (own := RX4) (As := [.int n2, .int (n3 + x4), .int (c_carried_2 x4.toNatClampNeg)]) (rest := []) (ws' := (w_X4 y a c_sorts c_sizes c_places_9 c_carried_2)) ⟨hx, hb, hml, hown, hts⟩ (m_X4_put l D y a c_sorts c_sizes c_places_5 c_carried_2 n2 (n3 + x4) (c_carried_2 x4.toNatClampNeg) x8 c_places_9 hy10) (cwV 3 hts (gA_V wl_1054 wl_1007 wl_1008 wl_28 wl_1009) rfl rfl rfl (by decide +kernel) ⟨Nat.le_of_ble_eq_true rfl, Nat.le_of_ble_eq_true rfl⟩) rfl rfl rfl hl.1 rfl (Nat.le_of_ble_eq_true rfl) dX4_carry_58 ⟨Nat.zero_le _, Nat.zero_le _⟩ hK hP hD hS hA (fun H locs hP hD hS => ?_)
              refine lv_if_ne (tgt := 66) hx hb dX4_carry_61 (by decide) (fun c11 => ?_) (fun c11 => ?_)
              · have hf := dq_f hf c11
                clear c11
                obtain ⟨x12, ex12⟩ : ∃ z : Int32, z = (x4 + (1 : Int32)) := ⟨_, rfl⟩
                have hf := dq_l hf x12 ex12
                refine lv_iinc (v := x12) (lv' := [(6, .int x12), (0, .ref (a 0)), (3, .int n2), (4, .int n3), (5, .int n4)]) hx hb dX4_carry_66 hl (k := 4) rfl (by rw [ex12]; rfl) (by decide) rfl (fun ls hl => ?_)
                clear ex12
                refine lv_goto (tgt := 37) hx hb dX4_carry_69 (by decide) ?_
                exact I37 _ _ hf _ _ hP hD hS _ (lv_sub hl [1, 2, 3, 4, 0] rfl)
              · have hf := dq_t hf c11
                clear c11
                refine lv_iconst (v := 0) hx hb dX4_carry_64 (by decide) ?_
                obtain ⟨rfl, rfl, rfl⟩ := dq_r3 hf
                exact ct_zret hx hb hr rfl hlocks hAe hP hK hD hS dX4_carry_65
        exact J37 4096 _ _ hf _ _ hP hD hS _ (lv_sub hl [1, 4, 5, 6, 0] rfl)
      · have hf := dq_f hf c3
        clear c3
        refine lv_aload_n hx hb dX4_carry_10 rfl (lv_at hl 0 rfl) ?_
        refine va_get (D := D) (ci := 3) (v := .ref (a 7)) (C := RX4) (T := TX4) (N := 4) hx hb hts iwX4 hown hK hP 0 rfl rfl 3 (by decide) (hts _ wl_76) (fun _ h9 => h9) rfl dX4_carry_11 ?_
        refine lv_iload hx hb dX4_carry_14 (lv_at hl 6 rfl) ?_
        refine lv_aload_n hx hb dX4_carry_16 rfl (lv_at hl 0 rfl) ?_
        refine va_get (D := D) (ci := 3) (v := .ref (a 3)) (C := RX4) (T := TX4) (N := 4) hx hb hts iwX4 hown hK hP 0 rfl rfl 2 (by decide) (hts _ wl_75) (fun _ h9 => h9) rfl dX4_carry_17 ?_
        refine lv_iload_n hx hb dX4_carry_20 rfl (lv_at hl 1 rfl) ?_
        obtain ⟨h13, hf⟩ := dq_g hf
        obtain ⟨j18, hjj18, ej18⟩ := dq_ix h13
        have hjj18 : j18 = 0 ∨ j18 = 1 ∨ j18 = 2 := by omega
        rcases hjj18 with rfl | rfl | rfl
        · try rw [ej18] at hf
          refine dq_aldI (cA := y 4) (n := 3) (b := (a 4)) (f := (fun i => if i < 3 then some (a (4 + i)) else none)) hx hb hK hP 3 4 rfl rfl h13 (by rw [ej18]; rfl) dX4_carry_21 ?_
          refine lv_iload_n hx hb dX4_carry_22 rfl (lv_at hl 2 rfl) ?_
          refine lv_iload hx hb dX4_carry_23 (lv_at hl 6 rfl) ?_
          refine lv_iadd hx hb dX4_carry_25 ?_
          obtain ⟨h19, hf⟩ := dq_g hf
          refine va_iald (cA := y 1) (n := 12) (f := (c_places 0)) hx hb hK hP 4 1 rfl rfl h19 dX4_carry_26 ?_
          obtain ⟨h20, hf⟩ := dq_g hf
          refine dq_iast (cA := y 1) (n := 12) (f := c_carried_2) hx hb hK hP hD hS 7 1 rfl rfl h20 dX4_carry_27 (fun c_carried_21 ec_carried_21 H locs hP hD hS => ?_)
          have hf := dq_l hf c_carried_21 ec_carried_21
          clear ec_carried_21
          have hP : va_P D vwCl (w_X4 y a c_sorts c_sizes c_places c_carried_21) H := hP
          have hD : va_D A (w_X4 y a c_sorts c_sizes c_places c_carried_21) := hD
          obtain ⟨x22, ex22⟩ : ∃ z : Int32, z = (x1 + (1 : Int32)) := ⟨_, rfl⟩
          have hf := dq_l hf x22 ex22
          refine lv_iinc (v := x22) (lv' := [(6, .int x22), (0, .ref (a 0)), (1, .int n0), (2, .int n1), (3, .int n2), (4, .int n3), (5, .int n4)]) hx hb dX4_carry_28 hl (k := 6) rfl (by rw [ex22]; rfl) (by decide) rfl (fun ls hl => ?_)
          clear ex22
          refine lv_goto (tgt := 3) hx hb dX4_carry_31 (by decide) ?_
          exact I3 _ _ hf _ _ hP hD hS _ (lv_sub hl [1, 2, 3, 4, 5, 6, 0] rfl)
        · try rw [ej18] at hf
          refine dq_aldI (cA := y 4) (n := 3) (b := (a 5)) (f := (fun i => if i < 3 then some (a (4 + i)) else none)) hx hb hK hP 3 4 rfl rfl h13 (by rw [ej18]; rfl) dX4_carry_21 ?_
          refine lv_iload_n hx hb dX4_carry_22 rfl (lv_at hl 2 rfl) ?_
          refine lv_iload hx hb dX4_carry_23 (lv_at hl 6 rfl) ?_
          refine lv_iadd hx hb dX4_carry_25 ?_
          obtain ⟨h23, hf⟩ := dq_g hf
          refine va_iald (cA := y 1) (n := 12) (f := (c_places 1)) hx hb hK hP 5 1 rfl rfl h23 dX4_carry_26 ?_
          obtain ⟨h24, hf⟩ := dq_g hf
          refine dq_iast (cA := y 1) (n := 12) (f := c_carried_2) hx hb hK hP hD hS 7 1 rfl rfl h24 dX4_carry_27 (fun c_carried_25 ec_carried_25 H locs hP hD hS => ?_)
          have hf := dq_l hf c_carried_25 ec_carried_25
          clear ec_carried_25
          have hP : va_P D vwCl (w_X4 y a c_sorts c_sizes c_places c_carried_25) H := hP
          have hD : va_D A (w_X4 y a c_sorts c_sizes c_places c_carried_25) := hD
          obtain ⟨x26, ex26⟩ : ∃ z : Int32, z = (x1 + (1 : Int32)) := ⟨_, rfl⟩
          have hf := dq_l hf x26 ex26
          refine lv_iinc (v := x26) (lv' := [(6, .int x26), (0, .ref (a 0)), (1, .int n0), (2, .int n1), (3, .int n2), (4, .int n3), (5, .int n4)]) hx hb dX4_carry_28 hl (k := 6) rfl (by rw [ex26]; rfl) (by decide) rfl (fun ls hl => ?_)
          clear ex26
          refine lv_goto (tgt := 3) hx hb dX4_carry_31 (by decide) ?_
          exact I3 _ _ hf _ _ hP hD hS _ (lv_sub hl [1, 2, 3, 4, 5, 6, 0] rfl)
        · try rw [ej18] at hf
          refine dq_aldI (cA := y 4) (n := 3) (b := (a 6)) (f := (fun i => if i < 3 then some (a (4 + i)) else none)) hx hb hK hP 3 4 rfl rfl h13 (by rw [ej18]; rfl) dX4_carry_21 ?_
          refine lv_iload_n hx hb dX4_carry_22 rfl (lv_at hl 2 rfl) ?_
          refine lv_iload hx hb dX4_carry_23 (lv_at hl 6 rfl) ?_
          refine lv_iadd hx hb dX4_carry_25 ?_
          obtain ⟨h27, hf⟩ := dq_g hf
          refine va_iald (cA := y 1) (n := 12) (f := (c_places 2)) hx hb hK hP 6 1 rfl rfl h27 dX4_carry_26 ?_
          obtain ⟨h28, hf⟩ := dq_g hf
          refine dq_iast (cA := y 1) (n := 12) (f := c_carried_2) hx hb hK hP hD hS 7 1 rfl rfl h28 dX4_carry_27 (fun c_carried_29 ec_carried_29 H locs hP hD hS => ?_)
          have hf := dq_l hf c_carried_29 ec_carried_29
          clear ec_carried_29
          have hP : va_P D vwCl (w_X4 y a c_sorts c_sizes c_places c_carried_29) H := hP
          have hD : va_D A (w_X4 y a c_sorts c_sizes c_places c_carried_29) := hD
          obtain ⟨x30, ex30⟩ : ∃ z : Int32, z = (x1 + (1 : Int32)) := ⟨_, rfl⟩
          have hf := dq_l hf x30 ex30
          refine lv_iinc (v := x30) (lv' := [(6, .int x30), (0, .ref (a 0)), (1, .int n0), (2, .int n1), (3, .int n2), (4, .int n3), (5, .int n4)]) hx hb dX4_carry_28 hl (k := 6) rfl (by rw [ex30]; rfl) (by decide) rfl (fun ls hl => ?_)
          clear ex30
          refine lv_goto (tgt := 3) hx hb dX4_carry_31 (by decide) ?_
          exact I3 _ _ hf _ _ hP hD hS _ (lv_sub hl [1, 2, 3, 4, 5, 6, 0] rfl)
  exact J3 4096 _ _ hf _ _ hP hD hS _ (lv_sub hl [1, 2, 3, 4, 5, 6, 0] rfl)
