noncomputable def f_X0_gustLeaps (n0 : Int32) : Option Int32 := some ((1 : Int32) + (n0 / (3 : Int32)))
def wA_X0_gustLeaps : List Cond := .code yX0_gustLeaps cX0_gustLeaps 1 (some .int) :: wsL_law
-- DraughtsTake$Breath.gustLeaps(I)I
set_option maxHeartbeats 4000000 in
set_option maxRecDepth 100000 in
theorem m_X0_gustLeaps (l : Launch) (D : va_G) (y : Nat → ClassId) (n0 : Int32) (z0 : Int32) (hf : f_X0_gustLeaps n0 = some z0) : Ct l D y yX0_gustLeaps wA_X0_gustLeaps 0 0 [.int n0] [] [] (some (.int z0)) := by
  refine ct_head (cc := cX0_gustLeaps) (n := 1) (ret := (some .int)) (by decide) rfl (Nat.le_of_ble_eq_true rfl) ?_
  intro p e s m below meth c A ls hx hb hr hml hown hlocks hts hA hAe hP hK hD hl
  have hS : va_S A s.heap s.heap [] := va_S.rf
  have hl : lv_has ls 1 [(0, .int n0)] := hl
  have hown : s.vm.findClass RX0 = some m.cls := hown
  have hts : ∀ w ∈ wsL_law, w.before [.int n0].toArray s = true := fun w h => hts w (List.mem_cons_of_mem _ h)
  unfold f_X0_gustLeaps at hf
  refine lv_iconst (v := 1) hx hb dX0_gustLeaps_0 (by decide) ?_
  refine lv_iload_n hx hb dX0_gustLeaps_1 rfl (lv_at hl 0 rfl) ?_
  refine lv_iconst (v := 3) hx hb dX0_gustLeaps_2 (by decide) ?_
  refine lv_idiv hx hb dX0_gustLeaps_3 (by decide) ?_
  refine lv_iadd hx hb dX0_gustLeaps_4 ?_
  obtain rfl := dq_r1 hf
  exact ct_iret hx hb hr hlocks hAe hP hK hD hS dX0_gustLeaps_5
noncomputable def f_X0_leaps (n0 : Int32) (n1 : Int32) : Option Int32 := dq_if (n0 = 0) (some (1 : Int32)) (dq_if (n0 = 1) (dq_bd (f_X0_gustLeaps n1) (fun (x3 : Int32) => some x3)) (dq_if (n0 = 2) (some (1 : Int32)) (dq_if (n0 = 3) (dq_bd (f_X0_gustLeaps n1) (fun (x7 : Int32) => some ((2 : Int32) * x7))) (dq_if (n0 = 4) (some (0 : Int32)) (dq_if (n0 = 5) (some (n1 / (2 : Int32))) (dq_if (n0 = 6) (dq_bd (f_X0_gustLeaps n1) (fun (x12 : Int32) => some (((2 : Int32) * x12) + (1 : Int32)))) (dq_if (n0 = 7) (dq_let (if ((n1 / (2 : Int32)) - (1 : Int32)) < (0 : Int32) then (0 : Int32) else ((n1 / (2 : Int32)) - (1 : Int32))) (fun (x15 : Int32) => some x15)) (some (0 : Int32)))))))))
def wA_X0_leaps : List Cond := .code yX0_leaps cX0_leaps 2 (some .int) :: wsL_law
-- DraughtsTake$Breath.leaps(II)I
set_option maxHeartbeats 4000000 in
set_option maxRecDepth 100000 in
theorem m_X0_leaps (l : Launch) (D : va_G) (y : Nat → ClassId) (n0 : Int32) (n1 : Int32) (z0 : Int32) (hf : f_X0_leaps n0 n1 = some z0) : Ct l D y yX0_leaps wA_X0_leaps 1 21 [.int n0, .int n1] [] [] (some (.int z0)) := by
  refine ct_head (cc := cX0_leaps) (n := 2) (ret := (some .int)) (by decide) rfl (Nat.le_of_ble_eq_true rfl) ?_
  intro p e s m below meth c A ls hx hb hr hml hown hlocks hts hA hAe hP hK hD hl
  have hS : va_S A s.heap s.heap [] := va_S.rf
  have hl : lv_has ls 2 [(0, .int n0), (1, .int n1)] := hl
  have hown : s.vm.findClass RX0 = some m.cls := hown
  have hts : ∀ w ∈ wsL_law, w.before [.int n0, .int n1].toArray s = true := fun w h => hts w (List.mem_cons_of_mem _ h)
  unfold f_X0_leaps at hf
  refine lv_iload_n hx hb dX0_leaps_0 rfl (lv_at hl 0 rfl) ?_
  by_cases c1 : n0 = (0 : Int32)
  · have hf := dq_t hf c1
    refine lv_tableIn (tgt := 48) (off := 47) hx hb dX0_leaps_1 (by rw [c1]; decide) (by rw [c1]; decide) (by rw [c1]; decide) (by decide) ?_
    clear c1
    refine lv_iconst (v := 1) hx hb dX0_leaps_48 (by decide) ?_
    obtain rfl := dq_r1 hf
    exact ct_iret hx hb hr hlocks hAe hP hK hD hS dX0_leaps_49
  have hf := dq_f hf c1
  by_cases c2 : n0 = (1 : Int32)
  · have hf := dq_t hf c2
    refine lv_tableIn (tgt := 50) (off := 49) hx hb dX0_leaps_1 (by rw [c2]; decide) (by rw [c2]; decide) (by rw [c2]; decide) (by decide) ?_
    clear c1 c2
    refine lv_iload_n hx hb dX0_leaps_50 rfl (lv_at hl 1 rfl) ?_
    obtain ⟨x3, hy4, hf⟩ := dq_b hf
    refine ct_callS0 (own := RX0) (As := [.int n1]) (rest := []) ⟨hx, hb, hml, hown, hts⟩ (m_X0_gustLeaps l D y n1 x3 hy4) (va_cwS 1 hts (gA_S wl_295 wl_296 wl_289 wl_297) rfl rfl rfl (by decide +kernel) ⟨Nat.le_of_ble_eq_true rfl, Nat.le_of_ble_eq_true rfl⟩) rfl hl.1 rfl (Nat.le_of_ble_eq_true rfl) dX0_leaps_51 ⟨Nat.zero_le _, Nat.zero_le _⟩ hK hP hD hS hA (fun H locs hP hD hS => ?_)
    obtain rfl := dq_r1 hf
    exact ct_iret hx hb hr hlocks hAe hP hK hD hS dX0_leaps_54
  have hf := dq_f hf c2
  by_cases c5 : n0 = (2 : Int32)
  · have hf := dq_t hf c5
    refine lv_tableIn (tgt := 55) (off := 54) hx hb dX0_leaps_1 (by rw [c5]; decide) (by rw [c5]; decide) (by rw [c5]; decide) (by decide) ?_
    clear c1 c2 c5
    refine lv_iconst (v := 1) hx hb dX0_leaps_55 (by decide) ?_
    obtain rfl := dq_r1 hf
    exact ct_iret hx hb hr hlocks hAe hP hK hD hS dX0_leaps_56
  have hf := dq_f hf c5
  by_cases c6 : n0 = (3 : Int32)
  · have hf := dq_t hf c6
    refine lv_tableIn (tgt := 57) (off := 56) hx hb dX0_leaps_1 (by rw [c6]; decide) (by rw [c6]; decide) (by rw [c6]; decide) (by decide) ?_
    clear c1 c2 c5 c6
    refine lv_iconst (v := 2) hx hb dX0_leaps_57 (by decide) ?_
    refine lv_iload_n hx hb dX0_leaps_58 rfl (lv_at hl 1 rfl) ?_
    obtain ⟨x7, hy8, hf⟩ := dq_b hf
    refine ct_callS0 (own := RX0) (As := [.int n1]) (rest := [.int (2 : Int32)]) ⟨hx, hb, hml, hown, hts⟩ (m_X0_gustLeaps l D y n1 x7 hy8) (va_cwS 1 hts (gA_S wl_295 wl_296 wl_289 wl_297) rfl rfl rfl (by decide +kernel) ⟨Nat.le_of_ble_eq_true rfl, Nat.le_of_ble_eq_true rfl⟩) rfl hl.1 rfl (Nat.le_of_ble_eq_true rfl) dX0_leaps_59 ⟨Nat.zero_le _, Nat.zero_le _⟩ hK hP hD hS hA (fun H locs hP hD hS => ?_)
    refine lv_imul hx hb dX0_leaps_62 ?_
    obtain rfl := dq_r1 hf
    exact ct_iret hx hb hr hlocks hAe hP hK hD hS dX0_leaps_63
  have hf := dq_f hf c6
  by_cases c9 : n0 = (4 : Int32)
  · have hf := dq_t hf c9
    refine lv_tableIn (tgt := 87) (off := 86) hx hb dX0_leaps_1 (by rw [c9]; decide) (by rw [c9]; decide) (by rw [c9]; decide) (by decide) ?_
    clear c1 c2 c5 c6 c9
    refine lv_iconst (v := 0) hx hb dX0_leaps_87 (by decide) ?_
    obtain rfl := dq_r1 hf
    exact ct_iret hx hb hr hlocks hAe hP hK hD hS dX0_leaps_88
  have hf := dq_f hf c9
  by_cases c10 : n0 = (5 : Int32)
  · have hf := dq_t hf c10
    refine lv_tableIn (tgt := 64) (off := 63) hx hb dX0_leaps_1 (by rw [c10]; decide) (by rw [c10]; decide) (by rw [c10]; decide) (by decide) ?_
    clear c1 c2 c5 c6 c9 c10
    refine lv_iload_n hx hb dX0_leaps_64 rfl (lv_at hl 1 rfl) ?_
    refine lv_iconst (v := 2) hx hb dX0_leaps_65 (by decide) ?_
    refine lv_idiv hx hb dX0_leaps_66 (by decide) ?_
    obtain rfl := dq_r1 hf
    exact ct_iret hx hb hr hlocks hAe hP hK hD hS dX0_leaps_67
  have hf := dq_f hf c10
  by_cases c11 : n0 = (6 : Int32)
  · have hf := dq_t hf c11
    refine lv_tableIn (tgt := 68) (off := 67) hx hb dX0_leaps_1 (by rw [c11]; decide) (by rw [c11]; decide) (by rw [c11]; decide) (by decide) ?_
    clear c1 c2 c5 c6 c9 c10 c11
    refine lv_iconst (v := 2) hx hb dX0_leaps_68 (by decide) ?_
    refine lv_iload_n hx hb dX0_leaps_69 rfl (lv_at hl 1 rfl) ?_
    obtain ⟨x12, hy13, hf⟩ := dq_b hf
    refine ct_callS0 (own := RX0) (As := [.int n1]) (rest := [.int (2 : Int32)]) ⟨hx, hb, hml, hown, hts⟩ (m_X0_gustLeaps l D y n1 x12 hy13) (va_cwS 1 hts (gA_S wl_295 wl_296 wl_289 wl_297) rfl rfl rfl (by decide +kernel) ⟨Nat.le_of_ble_eq_true rfl, Nat.le_of_ble_eq_true rfl⟩) rfl hl.1 rfl (Nat.le_of_ble_eq_true rfl) dX0_leaps_70 ⟨Nat.zero_le _, Nat.zero_le _⟩ hK hP hD hS hA (fun H locs hP hD hS => ?_)
    refine lv_imul hx hb dX0_leaps_73 ?_
    refine lv_iconst (v := 1) hx hb dX0_leaps_74 (by decide) ?_
    refine lv_iadd hx hb dX0_leaps_75 ?_
    obtain rfl := dq_r1 hf
    exact ct_iret hx hb hr hlocks hAe hP hK hD hS dX0_leaps_76
  have hf := dq_f hf c11
  by_cases c14 : n0 = (7 : Int32)
  · have hf := dq_t hf c14
    refine lv_tableIn (tgt := 77) (off := 76) hx hb dX0_leaps_1 (by rw [c14]; decide) (by rw [c14]; decide) (by rw [c14]; decide) (by decide) ?_
    clear c1 c2 c5 c6 c9 c10 c11 c14
    refine lv_iload_n hx hb dX0_leaps_77 rfl (lv_at hl 1 rfl) ?_
    refine lv_iconst (v := 2) hx hb dX0_leaps_78 (by decide) ?_
    refine lv_idiv hx hb dX0_leaps_79 (by decide) ?_
    refine lv_iconst (v := 1) hx hb dX0_leaps_80 (by decide) ?_
    refine lv_isub hx hb dX0_leaps_81 ?_
    refine lv_iconst (v := 0) hx hb dX0_leaps_82 (by decide) ?_
    refine va_mmax hx hb (hml.trans hl.1.symm) hown (hts _ wl_291) (hts _ wl_292) (hts _ wl_293) (hts _ wl_294) (Nat.le_of_ble_eq_true rfl) (Nat.le_of_ble_eq_true rfl) (Nat.zero_le _) (Nat.zero_le _) dX0_leaps_83 ?_
    refine lv_topi (fun x15 ex15 => ?_)
    have hf := dq_l hf x15 ex15
    clear ex15
    obtain rfl := dq_r1 hf
    exact ct_iret hx hb hr hlocks hAe hP hK hD hS dX0_leaps_86
  have hf := dq_f hf c14
  have c1 : n0.toInt ≠ 0 := fun q => c1 (Int32.toInt_inj.mp q)
  have c2 : n0.toInt ≠ 1 := fun q => c2 (Int32.toInt_inj.mp q)
  have c5 : n0.toInt ≠ 2 := fun q => c5 (Int32.toInt_inj.mp q)
  have c6 : n0.toInt ≠ 3 := fun q => c6 (Int32.toInt_inj.mp q)
  have c9 : n0.toInt ≠ 4 := fun q => c9 (Int32.toInt_inj.mp q)
  have c10 : n0.toInt ≠ 5 := fun q => c10 (Int32.toInt_inj.mp q)
  have c11 : n0.toInt ≠ 6 := fun q => c11 (Int32.toInt_inj.mp q)
  have c14 : n0.toInt ≠ 7 := fun q => c14 (Int32.toInt_inj.mp q)
  refine lv_tableOut (tgt := 87) hx hb dX0_leaps_1 (by omega) (by decide) ?_
  clear c1 c2 c5 c6 c9 c10 c11 c14
  refine lv_iconst (v := 0) hx hb dX0_leaps_87 (by decide) ?_
  obtain rfl := dq_r1 hf
  exact ct_iret hx hb hr hlocks hAe hP hK hD hS dX0_leaps_88
noncomputable def f_X0_gust (n0 : UInt32) : Option UInt32 := dq_gd (vf_n32 (FP.fmul n0 (1061158912 : UInt32))) (dq_let (FP.fmul n0 (1061158912 : UInt32)) (fun (x2 : UInt32) => dq_gd (vf_n32 (FP.fsub x2 (1056964608 : UInt32))) (dq_let (FP.fsub x2 (1056964608 : UInt32)) (fun (x4 : UInt32) => some x4))))
def wA_X0_gust : List Cond := .code yX0_gust cX0_gust 1 (some .float) :: wsL_law
-- DraughtsTake$Breath.gust(F)F
set_option maxHeartbeats 4000000 in
set_option maxRecDepth 100000 in
theorem m_X0_gust (l : Launch) (D : va_G) (y : Nat → ClassId) (n0 : UInt32) (z0 : UInt32) (hf : f_X0_gust n0 = some z0) : Ct l D y yX0_gust wA_X0_gust 0 0 [.float n0] [] [] (some (.float z0)) := by
  refine ct_head (cc := cX0_gust) (n := 1) (ret := (some .float)) (by decide) rfl (Nat.le_of_ble_eq_true rfl) ?_
  intro p e s m below meth c A ls hx hb hr hml hown hlocks hts hA hAe hP hK hD hl
  have hS : va_S A s.heap s.heap [] := va_S.rf
  have hl : lv_has ls 1 [(0, .float n0)] := hl
  have hown : s.vm.findClass RX0 = some m.cls := hown
  have hts : ∀ w ∈ wsL_law, w.before [.float n0].toArray s = true := fun w h => hts w (List.mem_cons_of_mem _ h)
  unfold f_X0_gust at hf
  refine lv_fload_n hx hb dX0_gust_0 rfl (lv_at hl 0 rfl) ?_
  refine lv_ldcf hx hb hown (hts _ wl_324) dX0_gust_1 ?_
  obtain ⟨h1, hf⟩ := dq_g hf
  refine lv_fmul hx hb dX0_gust_3 h1 ?_
  refine lv_topf (fun x2 ex2 => ?_)
  have hf := dq_l hf x2 ex2
  clear ex2
  refine lv_ldcf hx hb hown (hts _ wl_323) dX0_gust_4 ?_
  obtain ⟨h3, hf⟩ := dq_g hf
  refine lv_fsub hx hb dX0_gust_6 h3 ?_
  refine lv_topf (fun x4 ex4 => ?_)
  have hf := dq_l hf x4 ex4
  clear ex4
  obtain rfl := dq_r1 hf
  exact ct_fret hx hb hr hlocks hAe hP hK hD hS dX0_gust_7
noncomputable def f_X0_sigh (n0 : Int32) (n1 : UInt32) : Option UInt32 := dq_gd (vf_n32 (FP.fmul (FP.i2f n0) (1040187392 : UInt32))) (dq_let (FP.fmul (FP.i2f n0) (1040187392 : UInt32)) (fun (x2 : UInt32) => dq_gd (vf_n32 (FP.fsub n1 x2)) (dq_let (FP.fsub n1 x2) (fun (x4 : UInt32) => some x4))))
def wA_X0_sigh : List Cond := .code yX0_sigh cX0_sigh 2 (some .float) :: wsL_law
-- DraughtsTake$Breath.sigh(IF)F
set_option maxHeartbeats 4000000 in
set_option maxRecDepth 100000 in
theorem m_X0_sigh (l : Launch) (D : va_G) (y : Nat → ClassId) (n0 : Int32) (n1 : UInt32) (z0 : UInt32) (hf : f_X0_sigh n0 n1 = some z0) : Ct l D y yX0_sigh wA_X0_sigh 0 0 [.int n0, .float n1] [] [] (some (.float z0)) := by
  refine ct_head (cc := cX0_sigh) (n := 2) (ret := (some .float)) (by decide) rfl (Nat.le_of_ble_eq_true rfl) ?_
  intro p e s m below meth c A ls hx hb hr hml hown hlocks hts hA hAe hP hK hD hl
  have hS : va_S A s.heap s.heap [] := va_S.rf
  have hl : lv_has ls 2 [(0, .int n0), (1, .float n1)] := hl
  have hown : s.vm.findClass RX0 = some m.cls := hown
  have hts : ∀ w ∈ wsL_law, w.before [.int n0, .float n1].toArray s = true := fun w h => hts w (List.mem_cons_of_mem _ h)
  unfold f_X0_sigh at hf
  refine lv_fload_n hx hb dX0_sigh_0 rfl (lv_at hl 1 rfl) ?_
  refine lv_iload_n hx hb dX0_sigh_1 rfl (lv_at hl 0 rfl) ?_
  refine lv_i2f hx hb dX0_sigh_2 ?_
  refine lv_ldcf hx hb hown (hts _ wl_331) dX0_sigh_3 ?_
  obtain ⟨h1, hf⟩ := dq_g hf
  refine lv_fmul hx hb dX0_sigh_5 h1 ?_
  refine lv_topf (fun x2 ex2 => ?_)
  have hf := dq_l hf x2 ex2
  clear ex2
  obtain ⟨h3, hf⟩ := dq_g hf
  refine lv_fsub hx hb dX0_sigh_6 h3 ?_
  refine lv_topf (fun x4 ex4 => ?_)
  have hf := dq_l hf x4 ex4
  clear ex4
  obtain rfl := dq_r1 hf
  exact ct_fret hx hb hr hlocks hAe hP hK hD hS dX0_sigh_7
noncomputable def f_X0_flue (n0 : Int32) (n1 : UInt32) : Option UInt32 := dq_gd (vf_n32 (FP.fdiv n1 (FP.i2f (n0 + (1 : Int32))))) (dq_let (FP.fdiv n1 (FP.i2f (n0 + (1 : Int32)))) (fun (x2 : UInt32) => some x2))
def wA_X0_flue : List Cond := .code yX0_flue cX0_flue 2 (some .float) :: wsL_law
-- DraughtsTake$Breath.flue(IF)F
set_option maxHeartbeats 4000000 in
set_option maxRecDepth 100000 in
theorem m_X0_flue (l : Launch) (D : va_G) (y : Nat → ClassId) (n0 : Int32) (n1 : UInt32) (z0 : UInt32) (hf : f_X0_flue n0 n1 = some z0) : Ct l D y yX0_flue wA_X0_flue 0 0 [.int n0, .float n1] [] [] (some (.float z0)) := by
  refine ct_head (cc := cX0_flue) (n := 2) (ret := (some .float)) (by decide) rfl (Nat.le_of_ble_eq_true rfl) ?_
  intro p e s m below meth c A ls hx hb hr hml hown hlocks hts hA hAe hP hK hD hl
  have hS : va_S A s.heap s.heap [] := va_S.rf
  have hl : lv_has ls 2 [(0, .int n0), (1, .float n1)] := hl
  have hown : s.vm.findClass RX0 = some m.cls := hown
  have hts : ∀ w ∈ wsL_law, w.before [.int n0, .float n1].toArray s = true := fun w h => hts w (List.mem_cons_of_mem _ h)
  unfold f_X0_flue at hf
  refine lv_fload_n hx hb dX0_flue_0 rfl (lv_at hl 1 rfl) ?_
  refine lv_iload_n hx hb dX0_flue_1 rfl (lv_at hl 0 rfl) ?_
  refine lv_iconst (v := 1) hx hb dX0_flue_2 (by decide) ?_
  refine lv_iadd hx hb dX0_flue_3 ?_
  refine lv_i2f hx hb dX0_flue_4 ?_
  obtain ⟨h1, hf⟩ := dq_g hf
  refine lv_fdiv hx hb dX0_flue_5 h1 ?_
  refine lv_topf (fun x2 ex2 => ?_)
  have hf := dq_l hf x2 ex2
  clear ex2
  obtain rfl := dq_r1 hf
  exact ct_fret hx hb hr hlocks hAe hP hK hD hS dX0_flue_6
noncomputable def f_X0_chills (n0 : Int32) (n1 : Int32) (n2 : Int32) (n3 : UInt32) : Option UInt32 := dq_if (n0 = 1) (dq_bd (f_X0_gust n3) (fun (x2 : UInt32) => some x2)) (dq_if (n0 = 2) (dq_bd (f_X0_sigh n1 n3) (fun (x5 : UInt32) => some x5)) (dq_if (n0 = 3) (dq_bd (f_X0_gust n3) (fun (x8 : UInt32) => dq_bd (f_X0_gust x8) (fun (x10 : UInt32) => some x10))) (dq_if (n0 = 4) (dq_bd (f_X0_sigh n1 n3) (fun (x13 : UInt32) => some (FP.i2f (FP.f2i x13)))) (dq_if (n0 = 5) (dq_bd (f_X0_flue n1 n3) (fun (x16 : UInt32) => some x16)) (dq_if (n0 = 6) (dq_if ((n2 - n2 / (2 : Int32) * (2 : Int32)) = 0) (dq_bd (f_X0_gust n3) (fun (x26 : UInt32) => dq_bd (f_X0_gust x26) (fun (x28 : UInt32) => some x28))) (dq_bd (f_X0_gust n3) (fun (x20 : UInt32) => dq_bd (f_X0_gust x20) (fun (x22 : UInt32) => dq_gd (vf_n32 (FP.fsub x22 FP.fconst1)) (dq_let (FP.fsub x22 FP.fconst1) (fun (x25 : UInt32) => some x25)))))) (dq_if (n0 = 7) (dq_gd (vf_n32 (FP.fmul n3 (1056964608 : UInt32))) (dq_let (FP.fmul n3 (1056964608 : UInt32)) (fun (x32 : UInt32) => dq_bd (f_X0_flue n1 n3) (fun (x33 : UInt32) => dq_gd (vf_n32 (FP.fmul x33 (1056964608 : UInt32))) (dq_let (FP.fmul x33 (1056964608 : UInt32)) (fun (x36 : UInt32) => dq_gd (vf_n32 (FP.fadd x32 x36)) (dq_let (FP.fadd x32 x36) (fun (x38 : UInt32) => some x38)))))))) (dq_gd (vf_n32 (FP.fmul n3 (1061158912 : UInt32))) (dq_let (FP.fmul n3 (1061158912 : UInt32)) (fun (x40 : UInt32) => some x40)))))))))
def wA_X0_chills : List Cond := .code yX0_chills cX0_chills 4 (some .float) :: wsL_law
-- DraughtsTake$Breath.chills(IIIF)F
set_option maxHeartbeats 4000000 in
set_option maxRecDepth 100000 in
theorem m_X0_chills (l : Launch) (D : va_G) (y : Nat → ClassId) (n0 : Int32) (n1 : Int32) (n2 : Int32) (n3 : UInt32) (z0 : UInt32) (hf : f_X0_chills n0 n1 n2 n3 = some z0) : Ct l D y yX0_chills wA_X0_chills 1 21 [.int n0, .int n1, .int n2, .float n3] [] [] (some (.float z0)) := by
  refine ct_head (cc := cX0_chills) (n := 4) (ret := (some .float)) (by decide) rfl (Nat.le_of_ble_eq_true rfl) ?_
  intro p e s m below meth c A ls hx hb hr hml hown hlocks hts hA hAe hP hK hD hl
  have hS : va_S A s.heap s.heap [] := va_S.rf
  have hl : lv_has ls 4 [(0, .int n0), (1, .int n1), (2, .int n2), (3, .float n3)] := hl
  have hown : s.vm.findClass RX0 = some m.cls := hown
  have hts : ∀ w ∈ wsL_law, w.before [.int n0, .int n1, .int n2, .float n3].toArray s = true := fun w h => hts w (List.mem_cons_of_mem _ h)
  unfold f_X0_chills at hf
  refine lv_iload_n hx hb dX0_chills_0 rfl (lv_at hl 0 rfl) ?_
  by_cases c1 : n0 = (1 : Int32)
  · have hf := dq_t hf c1
    refine lv_tableIn (tgt := 44) (off := 43) hx hb dX0_chills_1 (by rw [c1]; decide) (by rw [c1]; decide) (by rw [c1]; decide) (by decide) ?_
    clear c1
    refine lv_fload_n hx hb dX0_chills_44 rfl (lv_at hl 3 rfl) ?_
    obtain ⟨x2, hy3, hf⟩ := dq_b hf
    refine ct_callS0 (own := RX0) (As := [.float n3]) (rest := []) ⟨hx, hb, hml, hown, hts⟩ (m_X0_gust l D y n3 x2 hy3) (va_cwS 1 hts (gA_S wl_325 wl_326 wl_289 wl_327) rfl rfl rfl (by decide +kernel) ⟨Nat.le_of_ble_eq_true rfl, Nat.le_of_ble_eq_true rfl⟩) rfl hl.1 rfl (Nat.le_of_ble_eq_true rfl) dX0_chills_45 ⟨Nat.zero_le _, Nat.zero_le _⟩ hK hP hD hS hA (fun H locs hP hD hS => ?_)
    obtain rfl := dq_r1 hf
    exact ct_fret hx hb hr hlocks hAe hP hK hD hS dX0_chills_48
  have hf := dq_f hf c1
  by_cases c4 : n0 = (2 : Int32)
  · have hf := dq_t hf c4
    refine lv_tableIn (tgt := 49) (off := 48) hx hb dX0_chills_1 (by rw [c4]; decide) (by rw [c4]; decide) (by rw [c4]; decide) (by decide) ?_
    clear c1 c4
    refine lv_iload_n hx hb dX0_chills_49 rfl (lv_at hl 1 rfl) ?_
    refine lv_fload_n hx hb dX0_chills_50 rfl (lv_at hl 3 rfl) ?_
    obtain ⟨x5, hy6, hf⟩ := dq_b hf
    refine ct_callS0 (own := RX0) (As := [.int n1, .float n3]) (rest := []) ⟨hx, hb, hml, hown, hts⟩ (m_X0_sigh l D y n1 n3 x5 hy6) (va_cwS 2 hts (gA_S wl_328 wl_329 wl_289 wl_330) rfl rfl rfl (by decide +kernel) ⟨Nat.le_of_ble_eq_true rfl, Nat.le_of_ble_eq_true rfl⟩) rfl hl.1 rfl (Nat.le_of_ble_eq_true rfl) dX0_chills_51 ⟨Nat.zero_le _, Nat.zero_le _⟩ hK hP hD hS hA (fun H locs hP hD hS => ?_)
    obtain rfl := dq_r1 hf
    exact ct_fret hx hb hr hlocks hAe hP hK hD hS dX0_chills_54
  have hf := dq_f hf c4
  by_cases c7 : n0 = (3 : Int32)
  · have hf := dq_t hf c7
    refine lv_tableIn (tgt := 55) (off := 54) hx hb dX0_chills_1 (by rw [c7]; decide) (by rw [c7]; decide) (by rw [c7]; decide) (by decide) ?_
    clear c1 c4 c7
    refine lv_fload_n hx hb dX0_chills_55 rfl (lv_at hl 3 rfl) ?_
    obtain ⟨x8, hy9, hf⟩ := dq_b hf
    refine ct_callS0 (own := RX0) (As := [.float n3]) (rest := []) ⟨hx, hb, hml, hown, hts⟩ (m_X0_gust l D y n3 x8 hy9) (va_cwS 1 hts (gA_S wl_325 wl_326 wl_289 wl_327) rfl rfl rfl (by decide +kernel) ⟨Nat.le_of_ble_eq_true rfl, Nat.le_of_ble_eq_true rfl⟩) rfl hl.1 rfl (Nat.le_of_ble_eq_true rfl) dX0_chills_56 ⟨Nat.zero_le _, Nat.zero_le _⟩ hK hP hD hS hA (fun H locs hP hD hS => ?_)
    obtain ⟨x10, hy11, hf⟩ := dq_b hf
    refine ct_callS0 (own := RX0) (As := [.float x8]) (rest := []) ⟨hx, hb, hml, hown, hts⟩ (m_X0_gust l D y x8 x10 hy11) (va_cwS 1 hts (gA_S wl_325 wl_326 wl_289 wl_327) rfl rfl rfl (by decide +kernel) ⟨Nat.le_of_ble_eq_true rfl, Nat.le_of_ble_eq_true rfl⟩) rfl hl.1 rfl (Nat.le_of_ble_eq_true rfl) dX0_chills_59 ⟨Nat.zero_le _, Nat.zero_le _⟩ hK hP hD hS hA (fun H locs hP hD hS => ?_)
    obtain rfl := dq_r1 hf
    exact ct_fret hx hb hr hlocks hAe hP hK hD hS dX0_chills_62
  have hf := dq_f hf c7
  by_cases c12 : n0 = (4 : Int32)
  · have hf := dq_t hf c12
    refine lv_tableIn (tgt := 63) (off := 62) hx hb dX0_chills_1 (by rw [c12]; decide) (by rw [c12]; decide) (by rw [c12]; decide) (by decide) ?_
    clear c1 c4 c7 c12
    refine lv_iload_n hx hb dX0_chills_63 rfl (lv_at hl 1 rfl) ?_
    refine lv_fload_n hx hb dX0_chills_64 rfl (lv_at hl 3 rfl) ?_
    obtain ⟨x13, hy14, hf⟩ := dq_b hf
    refine ct_callS0 (own := RX0) (As := [.int n1, .float n3]) (rest := []) ⟨hx, hb, hml, hown, hts⟩ (m_X0_sigh l D y n1 n3 x13 hy14) (va_cwS 2 hts (gA_S wl_328 wl_329 wl_289 wl_330) rfl rfl rfl (by decide +kernel) ⟨Nat.le_of_ble_eq_true rfl, Nat.le_of_ble_eq_true rfl⟩) rfl hl.1 rfl (Nat.le_of_ble_eq_true rfl) dX0_chills_65 ⟨Nat.zero_le _, Nat.zero_le _⟩ hK hP hD hS hA (fun H locs hP hD hS => ?_)
    refine lv_f2i hx hb dX0_chills_68 ?_
    refine lv_i2f hx hb dX0_chills_69 ?_
    obtain rfl := dq_r1 hf
    exact ct_fret hx hb hr hlocks hAe hP hK hD hS dX0_chills_70
  have hf := dq_f hf c12
  by_cases c15 : n0 = (5 : Int32)
  · have hf := dq_t hf c15
    refine lv_tableIn (tgt := 71) (off := 70) hx hb dX0_chills_1 (by rw [c15]; decide) (by rw [c15]; decide) (by rw [c15]; decide) (by decide) ?_
    clear c1 c4 c7 c12 c15
    refine lv_iload_n hx hb dX0_chills_71 rfl (lv_at hl 1 rfl) ?_
    refine lv_fload_n hx hb dX0_chills_72 rfl (lv_at hl 3 rfl) ?_
    obtain ⟨x16, hy17, hf⟩ := dq_b hf
    refine ct_callS0 (own := RX0) (As := [.int n1, .float n3]) (rest := []) ⟨hx, hb, hml, hown, hts⟩ (m_X0_flue l D y n1 n3 x16 hy17) (va_cwS 2 hts (gA_S wl_332 wl_333 wl_289 wl_334) rfl rfl rfl (by decide +kernel) ⟨Nat.le_of_ble_eq_true rfl, Nat.le_of_ble_eq_true rfl⟩) rfl hl.1 rfl (Nat.le_of_ble_eq_true rfl) dX0_chills_73 ⟨Nat.zero_le _, Nat.zero_le _⟩ hK hP hD hS hA (fun H locs hP hD hS => ?_)
    obtain rfl := dq_r1 hf
    exact ct_fret hx hb hr hlocks hAe hP hK hD hS dX0_chills_76
  have hf := dq_f hf c15
  by_cases c18 : n0 = (6 : Int32)
  · have hf := dq_t hf c18
    refine lv_tableIn (tgt := 77) (off := 76) hx hb dX0_chills_1 (by rw [c18]; decide) (by rw [c18]; decide) (by rw [c18]; decide) (by decide) ?_
    clear c1 c4 c7 c12 c15 c18
    refine lv_iload_n hx hb dX0_chills_77 rfl (lv_at hl 2 rfl) ?_
    refine lv_iconst (v := 2) hx hb dX0_chills_78 (by decide) ?_
    refine lv_irem hx hb dX0_chills_79 (by decide) ?_
    refine lv_if_ne (tgt := 93) hx hb dX0_chills_80 (by decide) (fun c19 => ?_) (fun c19 => ?_)
    · have hf := dq_f hf c19
      clear c19
      refine lv_fload_n hx hb dX0_chills_93 rfl (lv_at hl 3 rfl) ?_
      obtain ⟨x20, hy21, hf⟩ := dq_b hf
      refine ct_callS0 (own := RX0) (As := [.float n3]) (rest := []) ⟨hx, hb, hml, hown, hts⟩ (m_X0_gust l D y n3 x20 hy21) (va_cwS 1 hts (gA_S wl_325 wl_326 wl_289 wl_327) rfl rfl rfl (by decide +kernel) ⟨Nat.le_of_ble_eq_true rfl, Nat.le_of_ble_eq_true rfl⟩) rfl hl.1 rfl (Nat.le_of_ble_eq_true rfl) dX0_chills_94 ⟨Nat.zero_le _, Nat.zero_le _⟩ hK hP hD hS hA (fun H locs hP hD hS => ?_)
      obtain ⟨x22, hy23, hf⟩ := dq_b hf
      refine ct_callS0 (own := RX0) (As := [.float x20]) (rest := []) ⟨hx, hb, hml, hown, hts⟩ (m_X0_gust l D y x20 x22 hy23) (va_cwS 1 hts (gA_S wl_325 wl_326 wl_289 wl_327) rfl rfl rfl (by decide +kernel) ⟨Nat.le_of_ble_eq_true rfl, Nat.le_of_ble_eq_true rfl⟩) rfl hl.1 rfl (Nat.le_of_ble_eq_true rfl) dX0_chills_97 ⟨Nat.zero_le _, Nat.zero_le _⟩ hK hP hD hS hA (fun H locs hP hD hS => ?_)
      refine lv_fconst1 hx hb dX0_chills_100 ?_
      obtain ⟨h24, hf⟩ := dq_g hf
      refine lv_fsub hx hb dX0_chills_101 h24 ?_
      refine lv_topf (fun x25 ex25 => ?_)
      have hf := dq_l hf x25 ex25
      clear ex25
      obtain rfl := dq_r1 hf
      exact ct_fret hx hb hr hlocks hAe hP hK hD hS dX0_chills_102
    · have hf := dq_t hf c19
      clear c19
      refine lv_fload_n hx hb dX0_chills_83 rfl (lv_at hl 3 rfl) ?_
      obtain ⟨x26, hy27, hf⟩ := dq_b hf
      refine ct_callS0 (own := RX0) (As := [.float n3]) (rest := []) ⟨hx, hb, hml, hown, hts⟩ (m_X0_gust l D y n3 x26 hy27) (va_cwS 1 hts (gA_S wl_325 wl_326 wl_289 wl_327) rfl rfl rfl (by decide +kernel) ⟨Nat.le_of_ble_eq_true rfl, Nat.le_of_ble_eq_true rfl⟩) rfl hl.1 rfl (Nat.le_of_ble_eq_true rfl) dX0_chills_84 ⟨Nat.zero_le _, Nat.zero_le _⟩ hK hP hD hS hA (fun H locs hP hD hS => ?_)
      obtain ⟨x28, hy29, hf⟩ := dq_b hf
      refine ct_callS0 (own := RX0) (As := [.float x26]) (rest := []) ⟨hx, hb, hml, hown, hts⟩ (m_X0_gust l D y x26 x28 hy29) (va_cwS 1 hts (gA_S wl_325 wl_326 wl_289 wl_327) rfl rfl rfl (by decide +kernel) ⟨Nat.le_of_ble_eq_true rfl, Nat.le_of_ble_eq_true rfl⟩) rfl hl.1 rfl (Nat.le_of_ble_eq_true rfl) dX0_chills_87 ⟨Nat.zero_le _, Nat.zero_le _⟩ hK hP hD hS hA (fun H locs hP hD hS => ?_)
      refine lv_goto (tgt := 102) hx hb dX0_chills_90 (by decide) ?_
      obtain rfl := dq_r1 hf
      exact ct_fret hx hb hr hlocks hAe hP hK hD hS dX0_chills_102
  have hf := dq_f hf c18
  by_cases c30 : n0 = (7 : Int32)
  · have hf := dq_t hf c30
    refine lv_tableIn (tgt := 103) (off := 102) hx hb dX0_chills_1 (by rw [c30]; decide) (by rw [c30]; decide) (by rw [c30]; decide) (by decide) ?_
    clear c1 c4 c7 c12 c15 c18 c30
    refine lv_fload_n hx hb dX0_chills_103 rfl (lv_at hl 3 rfl) ?_
    refine lv_ldcf hx hb hown (hts _ wl_323) dX0_chills_104 ?_
    obtain ⟨h31, hf⟩ := dq_g hf
    refine lv_fmul hx hb dX0_chills_106 h31 ?_
    refine lv_topf (fun x32 ex32 => ?_)
    have hf := dq_l hf x32 ex32
    clear ex32
    refine lv_iload_n hx hb dX0_chills_107 rfl (lv_at hl 1 rfl) ?_
    refine lv_fload_n hx hb dX0_chills_108 rfl (lv_at hl 3 rfl) ?_
    obtain ⟨x33, hy34, hf⟩ := dq_b hf
    refine ct_callS0 (own := RX0) (As := [.int n1, .float n3]) (rest := [.float x32]) ⟨hx, hb, hml, hown, hts⟩ (m_X0_flue l D y n1 n3 x33 hy34) (va_cwS 2 hts (gA_S wl_332 wl_333 wl_289 wl_334) rfl rfl rfl (by decide +kernel) ⟨Nat.le_of_ble_eq_true rfl, Nat.le_of_ble_eq_true rfl⟩) rfl hl.1 rfl (Nat.le_of_ble_eq_true rfl) dX0_chills_109 ⟨Nat.zero_le _, Nat.zero_le _⟩ hK hP hD hS hA (fun H locs hP hD hS => ?_)
    refine lv_ldcf hx hb hown (hts _ wl_323) dX0_chills_112 ?_
    obtain ⟨h35, hf⟩ := dq_g hf
    refine lv_fmul hx hb dX0_chills_114 h35 ?_
    refine lv_topf (fun x36 ex36 => ?_)
    have hf := dq_l hf x36 ex36
    clear ex36
    obtain ⟨h37, hf⟩ := dq_g hf
    refine lv_fadd hx hb dX0_chills_115 h37 ?_
    refine lv_topf (fun x38 ex38 => ?_)
    have hf := dq_l hf x38 ex38
    clear ex38
    obtain rfl := dq_r1 hf
    exact ct_fret hx hb hr hlocks hAe hP hK hD hS dX0_chills_116
  have hf := dq_f hf c30
  have c1 : n0.toInt ≠ 1 := fun q => c1 (Int32.toInt_inj.mp q)
  have c4 : n0.toInt ≠ 2 := fun q => c4 (Int32.toInt_inj.mp q)
  have c7 : n0.toInt ≠ 3 := fun q => c7 (Int32.toInt_inj.mp q)
  have c12 : n0.toInt ≠ 4 := fun q => c12 (Int32.toInt_inj.mp q)
  have c15 : n0.toInt ≠ 5 := fun q => c15 (Int32.toInt_inj.mp q)
  have c18 : n0.toInt ≠ 6 := fun q => c18 (Int32.toInt_inj.mp q)
  have c30 : n0.toInt ≠ 7 := fun q => c30 (Int32.toInt_inj.mp q)
  refine lv_tableOut (tgt := 117) hx hb dX0_chills_1 (by omega) (by decide) ?_
  clear c1 c4 c7 c12 c15 c18 c30
  refine lv_fload_n hx hb dX0_chills_117 rfl (lv_at hl 3 rfl) ?_
  refine lv_ldcf hx hb hown (hts _ wl_324) dX0_chills_118 ?_
  obtain ⟨h39, hf⟩ := dq_g hf
  refine lv_fmul hx hb dX0_chills_120 h39 ?_
  refine lv_topf (fun x40 ex40 => ?_)
  have hf := dq_l hf x40 ex40
  clear ex40
  obtain rfl := dq_r1 hf
  exact ct_fret hx hb hr hlocks hAe hP hK hD hS dX0_chills_121
def w_X1 (y : Nat → ClassId) (a : Nat → Nat) (e_count : Int32) (e_steps : (Nat → Int32)) (e_numbers : (Nat → Int32)) : va_W := [((a 0), .inr (0, [.ref (a 1), .ref (a 2), .int e_count])), ((a 1), .inl (y 1, 6, .inl e_steps)), ((a 2), .inl (y 1, 6, .inl e_numbers))]
noncomputable def f_X1_add (e_count : Int32) (e_steps : (Nat → Int32)) (e_numbers : (Nat → Int32)) (n0 : Int32) (n1 : Int32) : Option (Int32 × (Nat → Int32) × (Nat → Int32)) := dq_if ((6 : Int32) ≤ e_count) (some (e_count, e_steps, e_numbers)) (dq_gd (vp_in e_count 6) (dq_let (upd e_steps e_count.toNatClampNeg n0) (fun (e_steps_3 : (Nat → Int32)) => dq_gd (vp_in e_count 6) (dq_let (upd e_numbers e_count.toNatClampNeg n1) (fun (e_numbers_5 : (Nat → Int32)) => dq_let (e_count + (1 : Int32)) (fun (x6 : Int32) => some (x6, e_steps_3, e_numbers_5)))))))
def wA_X1_add : List Cond := .code yX1_add cX1_add 3 none :: wsL_law
-- DraughtsTake$Hearth.add(II)V
set_option maxHeartbeats 4000000 in
set_option maxRecDepth 100000 in
theorem m_X1_add (l : Launch) (D : va_G) (y : Nat → ClassId) (a : (Nat → Nat)) (e_count : Int32) (e_steps : (Nat → Int32)) (e_numbers : (Nat → Int32)) (n0 : Int32) (n1 : Int32) (z0 : Int32) (z1 : (Nat → Int32)) (z2 : (Nat → Int32)) (hf : f_X1_add e_count e_steps e_numbers n0 n1 = some (z0, z1, z2)) : Ct l D y yX1_add wA_X1_add 0 0 [.ref (a 0), .int n0, .int n1] (w_X1 y a e_count e_steps e_numbers) (w_X1 y a z0 z1 z2) none := by
  refine ct_head (cc := cX1_add) (n := 3) (ret := none) (by decide) rfl (Nat.le_of_ble_eq_true rfl) ?_
  intro p e s m below meth c A ls hx hb hr hml hown hlocks hts hA hAe hP hK hD hl
  have hS : va_S A s.heap s.heap [] := va_S.rf
  have hl : lv_has ls 3 [(0, .ref (a 0)), (1, .int n0), (2, .int n1)] := hl
  have hown : s.vm.findClass RX1 = some m.cls := hown
  have hts : ∀ w ∈ wsL_law, w.before [.ref (a 0), .int n0, .int n1].toArray s = true := fun w h => hts w (List.mem_cons_of_mem _ h)
  unfold f_X1_add at hf
  refine lv_aload_n hx hb dX1_add_0 rfl (lv_at hl 0 rfl) ?_
  refine va_get (D := D) (ci := 0) (v := .int e_count) (C := RX1) (T := TX1) (N := 3) hx hb hts iwX1 hown hK hP 0 rfl rfl 2 (by decide) (hts _ wl_196) (fun _ h9 => h9) rfl dX1_add_1 ?_
  refine lv_bipush (v := 6) hx hb dX1_add_4 (by decide) ?_
  refine lv_icmp_ge (tgt := 39) hx hb dX1_add_6 (by decide) (fun c1 => ?_) (fun c1 => ?_)
  · have hf := dq_t hf c1
    clear c1
    obtain ⟨rfl, rfl, rfl⟩ := dq_r3 hf
    exact ct_vret hx hb hr hlocks hAe hP hK hD hS dX1_add_39
  · have hf := dq_f hf c1
    clear c1
    refine lv_aload_n hx hb dX1_add_9 rfl (lv_at hl 0 rfl) ?_
    refine va_get (D := D) (ci := 0) (v := .ref (a 1)) (C := RX1) (T := TX1) (N := 3) hx hb hts iwX1 hown hK hP 0 rfl rfl 0 (by decide) (hts _ wl_55) (fun _ h9 => h9) rfl dX1_add_10 ?_
    refine lv_aload_n hx hb dX1_add_13 rfl (lv_at hl 0 rfl) ?_
    refine va_get (D := D) (ci := 0) (v := .int e_count) (C := RX1) (T := TX1) (N := 3) hx hb hts iwX1 hown hK hP 0 rfl rfl 2 (by decide) (hts _ wl_196) (fun _ h9 => h9) rfl dX1_add_14 ?_
    refine lv_iload_n hx hb dX1_add_17 rfl (lv_at hl 1 rfl) ?_
    obtain ⟨h2, hf⟩ := dq_g hf
    refine dq_iast (cA := y 1) (n := 6) (f := e_steps) hx hb hK hP hD hS 1 1 rfl rfl h2 dX1_add_18 (fun e_steps_3 ee_steps_3 H locs hP hD hS => ?_)
    have hf := dq_l hf e_steps_3 ee_steps_3
    clear ee_steps_3
    have hP : va_P D vwCl (w_X1 y a e_count e_steps_3 e_numbers) H := hP
    have hD : va_D A (w_X1 y a e_count e_steps_3 e_numbers) := hD
    refine lv_aload_n hx hb dX1_add_19 rfl (lv_at hl 0 rfl) ?_
    refine va_get (D := D) (ci := 0) (v := .ref (a 2)) (C := RX1) (T := TX1) (N := 3) hx hb hts iwX1 hown hK hP 0 rfl rfl 1 (by decide) (hts _ wl_56) (fun _ h9 => h9) rfl dX1_add_20 ?_
    refine lv_aload_n hx hb dX1_add_23 rfl (lv_at hl 0 rfl) ?_
    refine va_get (D := D) (ci := 0) (v := .int e_count) (C := RX1) (T := TX1) (N := 3) hx hb hts iwX1 hown hK hP 0 rfl rfl 2 (by decide) (hts _ wl_196) (fun _ h9 => h9) rfl dX1_add_24 ?_
    refine lv_iload_n hx hb dX1_add_27 rfl (lv_at hl 2 rfl) ?_
    obtain ⟨h4, hf⟩ := dq_g hf
    refine dq_iast (cA := y 1) (n := 6) (f := e_numbers) hx hb hK hP hD hS 2 1 rfl rfl h4 dX1_add_28 (fun e_numbers_5 ee_numbers_5 H locs hP hD hS => ?_)
    have hf := dq_l hf e_numbers_5 ee_numbers_5
    clear ee_numbers_5
    have hP : va_P D vwCl (w_X1 y a e_count e_steps_3 e_numbers_5) H := hP
    have hD : va_D A (w_X1 y a e_count e_steps_3 e_numbers_5) := hD
    refine lv_aload_n hx hb dX1_add_29 rfl (lv_at hl 0 rfl) ?_
    refine lv_dup hx hb dX1_add_30 rfl ?_
    refine va_get (D := D) (ci := 0) (v := .int e_count) (C := RX1) (T := TX1) (N := 3) hx hb hts iwX1 hown hK hP 0 rfl rfl 2 (by decide) (hts _ wl_196) (fun _ h9 => h9) rfl dX1_add_31 ?_
    refine lv_iconst (v := 1) hx hb dX1_add_34 (by decide) ?_
    refine lv_iadd hx hb dX1_add_35 ?_
    refine lv_topi (fun x6 ex6 => ?_)
    have hf := dq_l hf x6 ex6
    clear ex6
    refine va_put (D := D) (ci := 0) (v := .int x6) (ty := .int) (C := RX1) (T := TX1) (N := 3) hx hb hts iwX1 tyX1 tyX1_ok nmX1 hown hK hP hD hS 0 rfl rfl 2 (by decide) (hts _ wl_196) (fun _ h9 => h9) rfl (tyX1_ok 2 (by decide)) rfl rfl (Nat.le_of_ble_eq_true rfl) dX1_add_36 (fun H locs hP hD hS => ?_)
    have hP : va_P D vwCl (w_X1 y a x6 e_steps_3 e_numbers_5) H := hP
    have hD : va_D A (w_X1 y a x6 e_steps_3 e_numbers_5) := hD
    obtain ⟨rfl, rfl, rfl⟩ := dq_r3 hf
    exact ct_vret hx hb hr hlocks hAe hP hK hD hS dX1_add_39
def w_X1_take (y : Nat → ClassId) (a : Nat → Nat) (b : Nat → Nat) (e_count : Int32) (e_steps : (Nat → Int32)) (e_numbers : (Nat → Int32)) (u_count : Int32) (u_steps : (Nat → Int32)) (u_numbers : (Nat → Int32)) : va_W := [((a 0), .inr (0, [.ref (a 1), .ref (a 2), .int e_count])), ((a 1), .inl (y 1, 6, .inl e_steps)), ((a 2), .inl (y 1, 6, .inl e_numbers)), ((b 0), .inr (0, [.ref (b 1), .ref (b 2), .int u_count])), ((b 1), .inl (y 1, 6, .inl u_steps)), ((b 2), .inl (y 1, 6, .inl u_numbers))]
noncomputable def f_X1_take (e_steps : (Nat → Int32)) (e_numbers : (Nat → Int32)) (u_count : Int32) (u_steps : (Nat → Int32)) (u_numbers : (Nat → Int32)) : Option (Int32 × (Nat → Int32) × (Nat → Int32)) := dq_let (va_cpy u_steps e_steps (0 : Int32).toNatClampNeg (0 : Int32).toNatClampNeg (6 : Int32).toNatClampNeg) (fun (e_steps_1 : (Nat → Int32)) => dq_let (va_cpy u_numbers e_numbers (0 : Int32).toNatClampNeg (0 : Int32).toNatClampNeg (6 : Int32).toNatClampNeg) (fun (e_numbers_2 : (Nat → Int32)) => some (u_count, e_steps_1, e_numbers_2)))
def wA_X1_take : List Cond := .code yX1_take cX1_take 2 none :: wsL_law
-- DraughtsTake$Hearth.take(LDraughtsTake$Hearth;)V
set_option maxHeartbeats 4000000 in
set_option maxRecDepth 100000 in
theorem m_X1_take (l : Launch) (D : va_G) (y : Nat → ClassId) (a : (Nat → Nat)) (b : (Nat → Nat)) (e_count : Int32) (e_steps : (Nat → Int32)) (e_numbers : (Nat → Int32)) (u_count : Int32) (u_steps : (Nat → Int32)) (u_numbers : (Nat → Int32)) (z0 : Int32) (z1 : (Nat → Int32)) (z2 : (Nat → Int32)) (hf : f_X1_take e_steps e_numbers u_count u_steps u_numbers = some (z0, z1, z2)) : Ct l D y yX1_take wA_X1_take 1 40 [.ref (a 0), .ref (b 0)] (w_X1_take y a b e_count e_steps e_numbers u_count u_steps u_numbers) (w_X1_take y a b z0 z1 z2 u_count u_steps u_numbers) none := by
  refine ct_head (cc := cX1_take) (n := 2) (ret := none) (by decide) rfl (Nat.le_of_ble_eq_true rfl) ?_
  intro p e s m below meth c A ls hx hb hr hml hown hlocks hts hA hAe hP hK hD hl
  have hS : va_S A s.heap s.heap [] := va_S.rf
  have hl : lv_has ls 2 [(0, .ref (a 0)), (1, .ref (b 0))] := hl
  have hown : s.vm.findClass RX1 = some m.cls := hown
  have hts : ∀ w ∈ wsL_law, w.before [.ref (a 0), .ref (b 0)].toArray s = true := fun w h => hts w (List.mem_cons_of_mem _ h)
  unfold f_X1_take at hf
  refine lv_aload_n hx hb dX1_take_0 rfl (lv_at hl 1 rfl) ?_
  refine va_get (D := D) (ci := 0) (v := .ref (b 1)) (C := RX1) (T := TX1) (N := 3) hx hb hts iwX1 hown hK hP 3 rfl rfl 0 (by decide) (hts _ wl_55) (fun _ h9 => h9) rfl dX1_take_1 ?_
  refine lv_iconst (v := 0) hx hb dX1_take_4 (by decide) ?_
  refine lv_aload_n hx hb dX1_take_5 rfl (lv_at hl 0 rfl) ?_
  refine va_get (D := D) (ci := 0) (v := .ref (a 1)) (C := RX1) (T := TX1) (N := 3) hx hb hts iwX1 hown hK hP 0 rfl rfl 0 (by decide) (hts _ wl_55) (fun _ h9 => h9) rfl dX1_take_6 ?_
  refine lv_iconst (v := 0) hx hb dX1_take_9 (by decide) ?_
  refine lv_bipush (v := 6) hx hb dX1_take_10 (by decide) ?_
  refine dq_copyI (c0 := y 1) (c1 := y 1) (n0 := 6) (n1 := 6) (f := u_steps) (g := e_steps) hx hb (hml.trans hl.1.symm) hown (hts _ wl_195) (hts _ wl_181) (hts _ wl_182) (hts _ wl_183) hK hP hD hS 4 1 1 1 rfl rfl rfl rfl (by decide) (by decide) (by decide) (by decide) (by decide) (Nat.le_of_ble_eq_true rfl) (Nat.le_of_ble_eq_true (by decide +kernel)) dX1_take_12 (fun e_steps_1 ee_steps_1 H locs hP hD hS => ?_)
  have hf := dq_l hf e_steps_1 ee_steps_1
  clear ee_steps_1
  have hP : va_P D vwCl (w_X1_take y a b e_count e_steps_1 e_numbers u_count u_steps u_numbers) H := hP
  have hD : va_D A (w_X1_take y a b e_count e_steps_1 e_numbers u_count u_steps u_numbers) := hD
  refine lv_aload_n hx hb dX1_take_15 rfl (lv_at hl 1 rfl) ?_
  refine va_get (D := D) (ci := 0) (v := .ref (b 2)) (C := RX1) (T := TX1) (N := 3) hx hb hts iwX1 hown hK hP 3 rfl rfl 1 (by decide) (hts _ wl_56) (fun _ h9 => h9) rfl dX1_take_16 ?_
  refine lv_iconst (v := 0) hx hb dX1_take_19 (by decide) ?_
  refine lv_aload_n hx hb dX1_take_20 rfl (lv_at hl 0 rfl) ?_
  refine va_get (D := D) (ci := 0) (v := .ref (a 2)) (C := RX1) (T := TX1) (N := 3) hx hb hts iwX1 hown hK hP 0 rfl rfl 1 (by decide) (hts _ wl_56) (fun _ h9 => h9) rfl dX1_take_21 ?_
  refine lv_iconst (v := 0) hx hb dX1_take_24 (by decide) ?_
  refine lv_bipush (v := 6) hx hb dX1_take_25 (by decide) ?_
  refine dq_copyI (c0 := y 1) (c1 := y 1) (n0 := 6) (n1 := 6) (f := u_numbers) (g := e_numbers) hx hb (hml.trans hl.1.symm) hown (hts _ wl_195) (hts _ wl_181) (hts _ wl_182) (hts _ wl_183) hK hP hD hS 5 2 1 1 rfl rfl rfl rfl (by decide) (by decide) (by decide) (by decide) (by decide) (Nat.le_of_ble_eq_true rfl) (Nat.le_of_ble_eq_true (by decide +kernel)) dX1_take_27 (fun e_numbers_2 ee_numbers_2 H locs hP hD hS => ?_)
  have hf := dq_l hf e_numbers_2 ee_numbers_2
  clear ee_numbers_2
  have hP : va_P D vwCl (w_X1_take y a b e_count e_steps_1 e_numbers_2 u_count u_steps u_numbers) H := hP
  have hD : va_D A (w_X1_take y a b e_count e_steps_1 e_numbers_2 u_count u_steps u_numbers) := hD
  refine lv_aload_n hx hb dX1_take_30 rfl (lv_at hl 0 rfl) ?_
  refine lv_aload_n hx hb dX1_take_31 rfl (lv_at hl 1 rfl) ?_
  refine va_get (D := D) (ci := 0) (v := .int u_count) (C := RX1) (T := TX1) (N := 3) hx hb hts iwX1 hown hK hP 3 rfl rfl 2 (by decide) (hts _ wl_196) (fun _ h9 => h9) rfl dX1_take_32 ?_
  refine va_put (D := D) (ci := 0) (v := .int u_count) (ty := .int) (C := RX1) (T := TX1) (N := 3) hx hb hts iwX1 tyX1 tyX1_ok nmX1 hown hK hP hD hS 0 rfl rfl 2 (by decide) (hts _ wl_196) (fun _ h9 => h9) rfl (tyX1_ok 2 (by decide)) rfl rfl (Nat.le_of_ble_eq_true rfl) dX1_take_35 (fun H locs hP hD hS => ?_)
  have hP : va_P D vwCl (w_X1_take y a b u_count e_steps_1 e_numbers_2 u_count u_steps u_numbers) H := hP
  have hD : va_D A (w_X1_take y a b u_count e_steps_1 e_numbers_2 u_count u_steps u_numbers) := hD
  obtain ⟨rfl, rfl, rfl⟩ := dq_r3 hf
  exact ct_vret hx hb hr hlocks hAe hP hK hD hS dX1_take_38
noncomputable def f_X1_stepped (n0 : Int32) (n1 : UInt32) (n2 : UInt32) : Option UInt32 := dq_if (n0 = 0) (dq_gd (vf_n32 (FP.fsub n1 n2)) (dq_let (FP.fsub n1 n2) (fun (x3 : UInt32) => dq_gd (vf_n32 (FP.fmul x3 (1040187392 : UInt32))) (dq_let (FP.fmul x3 (1040187392 : UInt32)) (fun (x5 : UInt32) => dq_gd (vf_n32 (FP.fadd n2 x5)) (dq_let (FP.fadd n2 x5) (fun (x7 : UInt32) => some x7))))))) (dq_if (n0 = 1) (dq_gd (vf_n32 (FP.fdiv n1 (1098907648 : UInt32))) (dq_let (FP.fdiv n1 (1098907648 : UInt32)) (fun (x10 : UInt32) => dq_gd (vf_n32 (FP.fmul n2 x10)) (dq_let (FP.fmul n2 x10) (fun (x12 : UInt32) => some x12))))) (dq_if (n0 = 2) (dq_gd (vf_n32 (FP.fdiv n1 (1090519040 : UInt32))) (dq_let (FP.fdiv n1 (1090519040 : UInt32)) (fun (x15 : UInt32) => dq_gd (vf_n32 (FP.fadd n2 x15)) (dq_let (FP.fadd n2 x15) (fun (x17 : UInt32) => some x17))))) (dq_if (n0 = 3) (dq_gd (vf_n32 (FP.fdiv n1 (1090519040 : UInt32))) (dq_let (FP.fdiv n1 (1090519040 : UInt32)) (fun (x20 : UInt32) => dq_gd (vf_n32 (FP.fsub n2 x20)) (dq_let (FP.fsub n2 x20) (fun (x22 : UInt32) => some x22))))) (dq_if (n0 = 4) (dq_if (0 ≤ (Op.cmpValue (FP.fcmp n2 n1) .g)) (some n2) (some n1)) (dq_if (n0 = 5) (dq_if ((Op.cmpValue (FP.fcmp n2 n1) .l) ≤ 0) (some n2) (some n1)) (some (FP.i2f (FP.f2i n2))))))))
def wA_X1_stepped : List Cond := .code yX1_stepped cX1_stepped 3 (some .float) :: wsL_law
-- DraughtsTake$Hearth.stepped(IFF)F
set_option maxHeartbeats 4000000 in
set_option maxRecDepth 100000 in
theorem m_X1_stepped (l : Launch) (D : va_G) (y : Nat → ClassId) (n0 : Int32) (n1 : UInt32) (n2 : UInt32) (z0 : UInt32) (hf : f_X1_stepped n0 n1 n2 = some z0) : Ct l D y yX1_stepped wA_X1_stepped 0 0 [.int n0, .float n1, .float n2] [] [] (some (.float z0)) := by
  refine ct_head (cc := cX1_stepped) (n := 3) (ret := (some .float)) (by decide) rfl (Nat.le_of_ble_eq_true rfl) ?_
  intro p e s m below meth c A ls hx hb hr hml hown hlocks hts hA hAe hP hK hD hl
  have hS : va_S A s.heap s.heap [] := va_S.rf
  have hl : lv_has ls 3 [(0, .int n0), (1, .float n1), (2, .float n2)] := hl
  have hown : s.vm.findClass RX1 = some m.cls := hown
  have hts : ∀ w ∈ wsL_law, w.before [.int n0, .float n1, .float n2].toArray s = true := fun w h => hts w (List.mem_cons_of_mem _ h)
  unfold f_X1_stepped at hf
  refine lv_iload_n hx hb dX1_stepped_0 rfl (lv_at hl 0 rfl) ?_
  by_cases c1 : n0 = (0 : Int32)
  · have hf := dq_t hf c1
    refine lv_tableIn (tgt := 40) (off := 39) hx hb dX1_stepped_1 (by rw [c1]; decide) (by rw [c1]; decide) (by rw [c1]; decide) (by decide) ?_
    clear c1
    refine lv_fload_n hx hb dX1_stepped_40 rfl (lv_at hl 2 rfl) ?_
    refine lv_fload_n hx hb dX1_stepped_41 rfl (lv_at hl 1 rfl) ?_
    refine lv_fload_n hx hb dX1_stepped_42 rfl (lv_at hl 2 rfl) ?_
    obtain ⟨h2, hf⟩ := dq_g hf
    refine lv_fsub hx hb dX1_stepped_43 h2 ?_
    refine lv_topf (fun x3 ex3 => ?_)
    have hf := dq_l hf x3 ex3
    clear ex3
    refine lv_ldcf hx hb hown (hts _ wl_275) dX1_stepped_44 ?_
    obtain ⟨h4, hf⟩ := dq_g hf
    refine lv_fmul hx hb dX1_stepped_46 h4 ?_
    refine lv_topf (fun x5 ex5 => ?_)
    have hf := dq_l hf x5 ex5
    clear ex5
    obtain ⟨h6, hf⟩ := dq_g hf
    refine lv_fadd hx hb dX1_stepped_47 h6 ?_
    refine lv_topf (fun x7 ex7 => ?_)
    have hf := dq_l hf x7 ex7
    clear ex7
    obtain rfl := dq_r1 hf
    exact ct_fret hx hb hr hlocks hAe hP hK hD hS dX1_stepped_48
  have hf := dq_f hf c1
  by_cases c8 : n0 = (1 : Int32)
  · have hf := dq_t hf c8
    refine lv_tableIn (tgt := 49) (off := 48) hx hb dX1_stepped_1 (by rw [c8]; decide) (by rw [c8]; decide) (by rw [c8]; decide) (by decide) ?_
    clear c1 c8
    refine lv_fload_n hx hb dX1_stepped_49 rfl (lv_at hl 2 rfl) ?_
    refine lv_fload_n hx hb dX1_stepped_50 rfl (lv_at hl 1 rfl) ?_
    refine lv_ldcf hx hb hown (hts _ wl_276) dX1_stepped_51 ?_
    obtain ⟨h9, hf⟩ := dq_g hf
    refine lv_fdiv hx hb dX1_stepped_53 h9 ?_
    refine lv_topf (fun x10 ex10 => ?_)
    have hf := dq_l hf x10 ex10
    clear ex10
    obtain ⟨h11, hf⟩ := dq_g hf
    refine lv_fmul hx hb dX1_stepped_54 h11 ?_
    refine lv_topf (fun x12 ex12 => ?_)
    have hf := dq_l hf x12 ex12
    clear ex12
    obtain rfl := dq_r1 hf
    exact ct_fret hx hb hr hlocks hAe hP hK hD hS dX1_stepped_55
  have hf := dq_f hf c8
  by_cases c13 : n0 = (2 : Int32)
  · have hf := dq_t hf c13
    refine lv_tableIn (tgt := 56) (off := 55) hx hb dX1_stepped_1 (by rw [c13]; decide) (by rw [c13]; decide) (by rw [c13]; decide) (by decide) ?_
    clear c1 c8 c13
    refine lv_fload_n hx hb dX1_stepped_56 rfl (lv_at hl 2 rfl) ?_
    refine lv_fload_n hx hb dX1_stepped_57 rfl (lv_at hl 1 rfl) ?_
    refine lv_ldcf hx hb hown (hts _ wl_277) dX1_stepped_58 ?_
    obtain ⟨h14, hf⟩ := dq_g hf
    refine lv_fdiv hx hb dX1_stepped_60 h14 ?_
    refine lv_topf (fun x15 ex15 => ?_)
    have hf := dq_l hf x15 ex15
    clear ex15
    obtain ⟨h16, hf⟩ := dq_g hf
    refine lv_fadd hx hb dX1_stepped_61 h16 ?_
    refine lv_topf (fun x17 ex17 => ?_)
    have hf := dq_l hf x17 ex17
    clear ex17
    obtain rfl := dq_r1 hf
    exact ct_fret hx hb hr hlocks hAe hP hK hD hS dX1_stepped_62
  have hf := dq_f hf c13
  by_cases c18 : n0 = (3 : Int32)
  · have hf := dq_t hf c18
    refine lv_tableIn (tgt := 63) (off := 62) hx hb dX1_stepped_1 (by rw [c18]; decide) (by rw [c18]; decide) (by rw [c18]; decide) (by decide) ?_
    clear c1 c8 c13 c18
    refine lv_fload_n hx hb dX1_stepped_63 rfl (lv_at hl 2 rfl) ?_
    refine lv_fload_n hx hb dX1_stepped_64 rfl (lv_at hl 1 rfl) ?_
    refine lv_ldcf hx hb hown (hts _ wl_277) dX1_stepped_65 ?_
    obtain ⟨h19, hf⟩ := dq_g hf
    refine lv_fdiv hx hb dX1_stepped_67 h19 ?_
    refine lv_topf (fun x20 ex20 => ?_)
    have hf := dq_l hf x20 ex20
    clear ex20
    obtain ⟨h21, hf⟩ := dq_g hf
    refine lv_fsub hx hb dX1_stepped_68 h21 ?_
    refine lv_topf (fun x22 ex22 => ?_)
    have hf := dq_l hf x22 ex22
    clear ex22
    obtain rfl := dq_r1 hf
    exact ct_fret hx hb hr hlocks hAe hP hK hD hS dX1_stepped_69
  have hf := dq_f hf c18
  by_cases c23 : n0 = (4 : Int32)
  · have hf := dq_t hf c23
    refine lv_tableIn (tgt := 70) (off := 69) hx hb dX1_stepped_1 (by rw [c23]; decide) (by rw [c23]; decide) (by rw [c23]; decide) (by decide) ?_
    clear c1 c8 c13 c18 c23
    refine lv_fload_n hx hb dX1_stepped_70 rfl (lv_at hl 2 rfl) ?_
    refine lv_fload_n hx hb dX1_stepped_71 rfl (lv_at hl 1 rfl) ?_
    refine lv_fcmp hx hb dX1_stepped_72 ?_
    refine lv_if_ge (tgt := 80) hx hb dX1_stepped_73 (by decide) (fun c24 => ?_) (fun c24 => ?_)
    · have hf := dq_t hf c24
      clear c24
      refine lv_fload_n hx hb dX1_stepped_80 rfl (lv_at hl 2 rfl) ?_
      obtain rfl := dq_r1 hf
      exact ct_fret hx hb hr hlocks hAe hP hK hD hS dX1_stepped_81
    · have hf := dq_f hf c24
      clear c24
      refine lv_fload_n hx hb dX1_stepped_76 rfl (lv_at hl 1 rfl) ?_
      refine lv_goto (tgt := 81) hx hb dX1_stepped_77 (by decide) ?_
      obtain rfl := dq_r1 hf
      exact ct_fret hx hb hr hlocks hAe hP hK hD hS dX1_stepped_81
  have hf := dq_f hf c23
  by_cases c25 : n0 = (5 : Int32)
  · have hf := dq_t hf c25
    refine lv_tableIn (tgt := 82) (off := 81) hx hb dX1_stepped_1 (by rw [c25]; decide) (by rw [c25]; decide) (by rw [c25]; decide) (by decide) ?_
    clear c1 c8 c13 c18 c23 c25
    refine lv_fload_n hx hb dX1_stepped_82 rfl (lv_at hl 2 rfl) ?_
    refine lv_fload_n hx hb dX1_stepped_83 rfl (lv_at hl 1 rfl) ?_
    refine lv_fcmp hx hb dX1_stepped_84 ?_
    refine lv_if_le (tgt := 92) hx hb dX1_stepped_85 (by decide) (fun c26 => ?_) (fun c26 => ?_)
    · have hf := dq_t hf c26
      clear c26
      refine lv_fload_n hx hb dX1_stepped_92 rfl (lv_at hl 2 rfl) ?_
      obtain rfl := dq_r1 hf
      exact ct_fret hx hb hr hlocks hAe hP hK hD hS dX1_stepped_93
    · have hf := dq_f hf c26
      clear c26
      refine lv_fload_n hx hb dX1_stepped_88 rfl (lv_at hl 1 rfl) ?_
      refine lv_goto (tgt := 93) hx hb dX1_stepped_89 (by decide) ?_
      obtain rfl := dq_r1 hf
      exact ct_fret hx hb hr hlocks hAe hP hK hD hS dX1_stepped_93
  have hf := dq_f hf c25
  have c1 : n0.toInt ≠ 0 := fun q => c1 (Int32.toInt_inj.mp q)
  have c8 : n0.toInt ≠ 1 := fun q => c8 (Int32.toInt_inj.mp q)
  have c13 : n0.toInt ≠ 2 := fun q => c13 (Int32.toInt_inj.mp q)
  have c18 : n0.toInt ≠ 3 := fun q => c18 (Int32.toInt_inj.mp q)
  have c23 : n0.toInt ≠ 4 := fun q => c23 (Int32.toInt_inj.mp q)
  have c25 : n0.toInt ≠ 5 := fun q => c25 (Int32.toInt_inj.mp q)
  refine lv_tableOut (tgt := 94) hx hb dX1_stepped_1 (by omega) (by decide) ?_
  clear c1 c8 c13 c18 c23 c25
  refine lv_fload_n hx hb dX1_stepped_94 rfl (lv_at hl 2 rfl) ?_
  refine lv_f2i hx hb dX1_stepped_95 ?_
  refine lv_i2f hx hb dX1_stepped_96 ?_
  obtain rfl := dq_r1 hf
  exact ct_fret hx hb hr hlocks hAe hP hK hD hS dX1_stepped_97
noncomputable def f_X1_held (n0 : UInt32) : Option UInt32 := dq_if ((Op.cmpValue (FP.fcmp n0 (1120403456 : UInt32)) .l) ≤ 0) (dq_if (0 ≤ (Op.cmpValue (FP.fcmp n0 (3267887104 : UInt32)) .g)) (some n0) (some (3267887104 : UInt32))) (some (1120403456 : UInt32))
def wA_X1_held : List Cond := .code yX1_held cX1_held 1 (some .float) :: wsL_law
-- DraughtsTake$Hearth.held(F)F
set_option maxHeartbeats 4000000 in
set_option maxRecDepth 100000 in
theorem m_X1_held (l : Launch) (D : va_G) (y : Nat → ClassId) (n0 : UInt32) (z0 : UInt32) (hf : f_X1_held n0 = some z0) : Ct l D y yX1_held wA_X1_held 0 0 [.float n0] [] [] (some (.float z0)) := by
  refine ct_head (cc := cX1_held) (n := 1) (ret := (some .float)) (by decide) rfl (Nat.le_of_ble_eq_true rfl) ?_
  intro p e s m below meth c A ls hx hb hr hml hown hlocks hts hA hAe hP hK hD hl
  have hS : va_S A s.heap s.heap [] := va_S.rf
  have hl : lv_has ls 1 [(0, .float n0)] := hl
  have hown : s.vm.findClass RX1 = some m.cls := hown
  have hts : ∀ w ∈ wsL_law, w.before [.float n0].toArray s = true := fun w h => hts w (List.mem_cons_of_mem _ h)
  unfold f_X1_held at hf
  refine lv_fload_n hx hb dX1_held_0 rfl (lv_at hl 0 rfl) ?_
  refine lv_ldcf hx hb hown (hts _ wl_281) dX1_held_1 ?_
  refine lv_fcmp hx hb dX1_held_3 ?_
  refine lv_if_le (tgt := 10) hx hb dX1_held_4 (by decide) (fun c1 => ?_) (fun c1 => ?_)
  · have hf := dq_t hf c1
    clear c1
    refine lv_fload_n hx hb dX1_held_10 rfl (lv_at hl 0 rfl) ?_
    refine lv_ldcf hx hb hown (hts _ wl_282) dX1_held_11 ?_
    refine lv_fcmp hx hb dX1_held_13 ?_
    refine lv_if_ge (tgt := 22) hx hb dX1_held_14 (by decide) (fun c2 => ?_) (fun c2 => ?_)
    · have hf := dq_t hf c2
      clear c2
      refine lv_fload_n hx hb dX1_held_22 rfl (lv_at hl 0 rfl) ?_
      obtain rfl := dq_r1 hf
      exact ct_fret hx hb hr hlocks hAe hP hK hD hS dX1_held_23
    · have hf := dq_f hf c2
      clear c2
      refine lv_ldcf hx hb hown (hts _ wl_282) dX1_held_17 ?_
      refine lv_goto (tgt := 23) hx hb dX1_held_19 (by decide) ?_
      obtain rfl := dq_r1 hf
      exact ct_fret hx hb hr hlocks hAe hP hK hD hS dX1_held_23
  · have hf := dq_f hf c1
    clear c1
    refine lv_ldcf hx hb hown (hts _ wl_281) dX1_held_7 ?_
    obtain rfl := dq_r1 hf
    exact ct_fret hx hb hr hlocks hAe hP hK hD hS dX1_held_9
noncomputable def f_X1_warmed_b4 (e_count : Int32) (e_steps : (Nat → Int32)) (e_numbers : (Nat → Int32))  : Nat → UInt32 → Int32 → Option UInt32
  | 0, _, _ => none
  | m4 + 1, x1, x2 => dq_if (e_count ≤ x2) (dq_bd (f_X1_held x1) (fun (x4 : UInt32) => some x4)) (dq_gd (vp_in x2 6) (dq_gd (vp_in x2 6) (dq_bd (f_X1_stepped (e_steps x2.toNatClampNeg) (FP.i2f (e_numbers x2.toNatClampNeg)) x1) (fun (x8 : UInt32) => dq_let (x2 + (1 : Int32)) (fun (x10 : Int32) => (f_X1_warmed_b4 e_count e_steps e_numbers m4) x8 x10)))))
noncomputable def f_X1_warmed (e_count : Int32) (e_steps : (Nat → Int32)) (e_numbers : (Nat → Int32)) (n0 : UInt32) : Option UInt32 := f_X1_warmed_b4 e_count e_steps e_numbers 4096 n0 (0 : Int32)
def wA_X1_warmed : List Cond := .code yX1_warmed cX1_warmed 4 (some .float) :: wsL_law
-- DraughtsTake$Hearth.warmed(F)F
set_option maxHeartbeats 4000000 in
set_option maxRecDepth 100000 in
theorem m_X1_warmed (l : Launch) (D : va_G) (y : Nat → ClassId) (a : (Nat → Nat)) (e_count : Int32) (e_steps : (Nat → Int32)) (e_numbers : (Nat → Int32)) (n0 : UInt32) (z0 : UInt32) (hf : f_X1_warmed e_count e_steps e_numbers n0 = some z0) : Ct l D y yX1_warmed wA_X1_warmed 1 22 [.ref (a 0), .float n0] (w_X1 y a e_count e_steps e_numbers) (w_X1 y a e_count e_steps e_numbers) (some (.float z0)) := by
  refine ct_head (cc := cX1_warmed) (n := 4) (ret := (some .float)) (by decide) rfl (Nat.le_of_ble_eq_true rfl) ?_
  intro p e s m below meth c A ls hx hb hr hml hown hlocks hts hA hAe hP hK hD hl
  have hS : va_S A s.heap s.heap [] := va_S.rf
  have hl : lv_has ls 4 [(0, .ref (a 0)), (1, .float n0)] := hl
  have hown : s.vm.findClass RX1 = some m.cls := hown
  have hts : ∀ w ∈ wsL_law, w.before [.ref (a 0), .float n0].toArray s = true := fun w h => hts w (List.mem_cons_of_mem _ h)
  unfold f_X1_warmed at hf
  refine lv_fload_n hx hb dX1_warmed_0 rfl (lv_at hl 1 rfl) ?_
  refine lv_fstore_n (lv' := [(2, .float n0), (0, .ref (a 0)), (1, .float n0)]) hx hb dX1_warmed_1 rfl hl (by decide) rfl (fun ls hl => ?_)
  refine lv_iconst (v := 0) hx hb dX1_warmed_2 (by decide) ?_
  refine lv_istore_n (lv' := [(3, .int (0 : Int32)), (2, .float n0), (0, .ref (a 0)), (1, .float n0)]) hx hb dX1_warmed_3 rfl hl (by decide) rfl (fun ls hl => ?_)
  have J4 : ∀ (m4 : Nat) (x1 : UInt32) (x2 : Int32), f_X1_warmed_b4 e_count e_steps e_numbers m4 x1 x2 = some z0 → ∀ (H : Heap) (locs : List Loc), va_P D vwCl (w_X1 y a e_count e_steps e_numbers) H → va_D A (w_X1 y a e_count e_steps e_numbers) → va_S A s.heap H locs → ∀ ls : Array Slot, lv_has ls 4 [(0, .ref (a 0)), (2, .float x1), (3, .int x2)] → W p l e ({ frames := 1, cells := 0, slots := 0, locals := 22 } : Room) s m [.ref (a 0), .float n0].toArray below meth c H locs 0 0 (MQ below (dQ D y (some (.float z0)) s.heap.size (w_X1 y a e_count e_steps e_numbers) (w_X1 y a e_count e_steps e_numbers)) [.ref (a 0), .float n0].toArray s 0 0 A) (F0 m 4 ls []) := by
    intro m4
    induction m4 with
    | zero => intro x1 x2 hf; exact absurd hf (by unfold f_X1_warmed_b4; exact fun h => by cases h)
    | succ m4 I4 =>
      intro x1 x2 hf H locs hP hD hS ls hl
      unfold f_X1_warmed_b4 at hf
      refine lv_iload_n hx hb dX1_warmed_4 rfl (lv_at hl 2 rfl) ?_
      refine lv_aload_n hx hb dX1_warmed_5 rfl (lv_at hl 0 rfl) ?_
      refine va_get (D := D) (ci := 0) (v := .int e_count) (C := RX1) (T := TX1) (N := 3) hx hb hts iwX1 hown hK hP 0 rfl rfl 2 (by decide) (hts _ wl_196) (fun _ h9 => h9) rfl dX1_warmed_6 ?_
      refine lv_icmp_ge (tgt := 36) hx hb dX1_warmed_9 (by decide) (fun c3 => ?_) (fun c3 => ?_)
      · have hf := dq_t hf c3
        clear c3
        refine lv_fload_n hx hb dX1_warmed_36 rfl (lv_at hl 1 rfl) ?_
        obtain ⟨x4, hy5, hf⟩ := dq_b hf
        refine ct_callS0 (own := RX1) (As := [.float x1]) (rest := []) ⟨hx, hb, hml, hown, hts⟩ (m_X1_held l D y x1 x4 hy5) (va_cwS 1 hts (gA_S wl_278 wl_279 wl_49 wl_280) rfl rfl rfl (by decide +kernel) ⟨Nat.le_of_ble_eq_true rfl, Nat.le_of_ble_eq_true rfl⟩) rfl hl.1 rfl (Nat.le_of_ble_eq_true rfl) dX1_warmed_37 ⟨Nat.zero_le _, Nat.zero_le _⟩ hK hP hD hS hA (fun H locs hP hD hS => ?_)
        obtain rfl := dq_r1 hf
        exact ct_fret hx hb hr hlocks hAe hP hK hD hS dX1_warmed_40
      · have hf := dq_f hf c3
        clear c3
        refine lv_aload_n hx hb dX1_warmed_12 rfl (lv_at hl 0 rfl) ?_
        refine va_get (D := D) (ci := 0) (v := .ref (a 1)) (C := RX1) (T := TX1) (N := 3) hx hb hts iwX1 hown hK hP 0 rfl rfl 0 (by decide) (hts _ wl_55) (fun _ h9 => h9) rfl dX1_warmed_13 ?_
        refine lv_iload_n hx hb dX1_warmed_16 rfl (lv_at hl 2 rfl) ?_
        obtain ⟨h6, hf⟩ := dq_g hf
        refine va_iald (cA := y 1) (n := 6) (f := e_steps) hx hb hK hP 1 1 rfl rfl h6 dX1_warmed_17 ?_
        refine lv_aload_n hx hb dX1_warmed_18 rfl (lv_at hl 0 rfl) ?_
        refine va_get (D := D) (ci := 0) (v := .ref (a 2)) (C := RX1) (T := TX1) (N := 3) hx hb hts iwX1 hown hK hP 0 rfl rfl 1 (by decide) (hts _ wl_56) (fun _ h9 => h9) rfl dX1_warmed_19 ?_
        refine lv_iload_n hx hb dX1_warmed_22 rfl (lv_at hl 2 rfl) ?_
        obtain ⟨h7, hf⟩ := dq_g hf
        refine va_iald (cA := y 1) (n := 6) (f := e_numbers) hx hb hK hP 2 1 rfl rfl h7 dX1_warmed_23 ?_
        refine lv_i2f hx hb dX1_warmed_24 ?_
        refine lv_fload_n hx hb dX1_warmed_25 rfl (lv_at hl 1 rfl) ?_
        obtain ⟨x8, hy9, hf⟩ := dq_b hf
        refine ct_callS0 (own := RX1) (As := [.int (e_steps x2.toNatClampNeg), .float (FP.i2f (e_numbers x2.toNatClampNeg)), .float x1]) (rest := []) ⟨hx, hb, hml, hown, hts⟩ (m_X1_stepped l D y (e_steps x2.toNatClampNeg) (FP.i2f (e_numbers x2.toNatClampNeg)) x1 x8 hy9) (va_cwS 3 hts (gA_S wl_272 wl_273 wl_49 wl_274) rfl rfl rfl (by decide +kernel) ⟨Nat.le_of_ble_eq_true rfl, Nat.le_of_ble_eq_true rfl⟩) rfl hl.1 rfl (Nat.le_of_ble_eq_true rfl) dX1_warmed_26 ⟨Nat.zero_le _, Nat.zero_le _⟩ hK hP hD hS hA (fun H locs hP hD hS => ?_)
        refine lv_fstore_n (lv' := [(2, .float x8), (0, .ref (a 0)), (3, .int x2)]) hx hb dX1_warmed_29 rfl hl (by decide) rfl (fun ls hl => ?_)
        obtain ⟨x10, ex10⟩ : ∃ z : Int32, z = (x2 + (1 : Int32)) := ⟨_, rfl⟩
        have hf := dq_l hf x10 ex10
        refine lv_iinc (v := x10) (lv' := [(3, .int x10), (2, .float x8), (0, .ref (a 0))]) hx hb dX1_warmed_30 hl (k := 2) rfl (by rw [ex10]; rfl) (by decide) rfl (fun ls hl => ?_)
        clear ex10
        refine lv_goto (tgt := 4) hx hb dX1_warmed_33 (by decide) ?_
        exact I4 _ _ hf _ _ hP hD hS _ (lv_sub hl [2, 1, 0] rfl)
  exact J4 4096 _ _ hf _ _ hP hD hS _ (lv_sub hl [2, 1, 0] rfl)
