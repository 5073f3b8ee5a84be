/-! the constructor of the past -/
def hW (y : Nat → ClassId) (ad : Nat → Nat) : va_W := w_X2 y ad 0 0 0 0 0 0 0 (wrm 36) (fun _ => 0) (fun _ => 0) (fun _ => 0) (fun _ => 0) (fun _ => 0) (fun _ => 0) 0 (fun _ => 0) (fun _ => 0)
theorem hW_cg {y : Nat → ClassId} {f g : Nat → Nat} (h : ∀ k, k < 11 → f k = g k) : hW y f = hW y g := by
  unfold hW w_X2
  rw [h 0 (by omega), h 1 (by omega), h 2 (by omega), h 3 (by omega), h 4 (by omega), h 5 (by omega), h 6 (by omega), h 7 (by omega), h 8 (by omega), h 9 (by omega), h 10 (by omega)]
def kF (k : Nat) (AD : Nat → Nat → Nat) : Nat → Option Nat := fun i => if i < k then some (AD i 0) else none
def aD (AD : Nat → Nat → Nat) (k : Nat) (ad : Nat → Nat) : Nat → Nat → Nat := fun i => if i = k then ad else AD i
theorem kF_s {k : Nat} {AD : Nat → Nat → Nat} {ad : Nat → Nat} : va_up (kF k AD) k (some (ad 0)) = kF (k + 1) (aD AD k ad) := funext fun i => by
  unfold va_up kF aD
  by_cases z : i = k
  · subst z
    rw [if_pos rfl, if_pos (by omega), if_pos rfl]
  · rw [if_neg z, if_neg z]
    by_cases h : i < k
    · rw [if_pos h, if_pos (by omega)]
    · rw [if_neg h, if_neg (by omega)]
theorem rg_s {y : Nat → ClassId} {k : Nat} {AD : Nat → Nat → Nat} {ad : Nat → Nat} : (List.range (k + 1)).flatMap (fun i => hW y (aD AD k ad i)) = (List.range k).flatMap (fun i => hW y (AD i)) ++ hW y ad := by
  rw [List.range_succ, List.flatMap_append, List.flatMap_cons, List.flatMap_nil, List.append_nil, show aD AD k ad k = ad from if_pos rfl]
  congr 1
  rw [List.flatMap_def, List.flatMap_def]
  congr 1
  refine List.map_congr_left fun i hi => ?_
  rw [show aD AD k ad i = AD i from if_neg (by have := List.mem_range.mp hi; omega)]
def pW (y : Nat → ClassId) (q0 q1 k : Nat) (AD : Nat → Nat → Nat) : va_W := (q0, .inr (2, [.ref q1, .int 0, .int 0])) :: (q1, .inl (y 3, 8, .inr (.inr (.inr (.inr (kF k AD)))))) :: (List.range k).flatMap (fun i => hW y (AD i))
def bA (q0 q1 : Nat) (AD : Nat → Nat → Nat) : Nat → Nat := fun n => if n = 0 then q0 else if n = 1 then q1 else AD ((n - 2) / 11) ((n - 2) % 11)
theorem bA_h {q0 q1 : Nat} {AD : Nat → Nat → Nat} {i k : Nat} (h : k < 11) : bA q0 q1 AD (1 + (1 + 11 * i + k)) = AD i k := by
  unfold bA
  rw [if_neg (by omega), if_neg (by omega), show (1 + (1 + 11 * i + k) - 2) / 11 = i by omega, show (1 + (1 + 11 * i + k) - 2) % 11 = k by omega]
def F3 (y : Nat → ClassId) (ad : Nat → Nat) : va_W := (ad 0, .inr (2, [.ref (ad 1), .int 0, .int 0])) :: w_blob y (fun k => ad (1 + k)) (fun _ => 0) (fun _ => 0) (fun _ => 0) (fun _ => 0) (fun _ => 0) (fun _ => 0) (fun _ => 0) (fun _ => wrm 36) (fun _ _ => 0) (fun _ _ => 0) (fun _ _ => 0) (fun _ _ => 0) (fun _ _ => 0) (fun _ _ => 0) (fun _ => 0) (fun _ _ => 0) (fun _ _ => 0)
theorem pW_F {y : Nat → ClassId} {q0 q1 : Nat} {AD : Nat → Nat → Nat} : pW y q0 q1 8 AD = F3 y (bA q0 q1 AD) := by
  unfold pW F3 w_blob
  have e1 : kF 8 AD = fun i => if i < 8 then some (bA q0 q1 AD (1 + (1 + 11 * i))) else none := funext fun i => by
    unfold kF
    by_cases z : i < 8
    · rw [if_pos z, if_pos z]
      exact congrArg some (bA_h (k := 0) (by omega)).symm
    · rw [if_neg z, if_neg z]
  have e2 : (List.range 8).flatMap (fun i => hW y (AD i)) = (List.range 8).flatMap (blF y (fun k => bA q0 q1 AD (1 + k)) (fun _ => 0) (fun _ => 0) (fun _ => 0) (fun _ => 0) (fun _ => 0) (fun _ => 0) (fun _ => 0) (fun _ => wrm 36) (fun _ _ => 0) (fun _ _ => 0) (fun _ _ => 0) (fun _ _ => 0) (fun _ _ => 0) (fun _ _ => 0) (fun _ => 0) (fun _ _ => 0) (fun _ _ => 0)) := by
    rw [List.flatMap_def, List.flatMap_def]
    congr 1
    all_goals refine List.map_congr_left fun i _ => ?_
    all_goals exact (hW_cg (fun k hk => (bA_h hk).symm) : hW y (AD i) = hW y (fun k => bA q0 q1 AD (1 + (1 + 11 * i + k))))
  rw [e1, e2]
  rfl
section CNQ
variable {p : Program} {l : Launch} {e : Env} {R : Room} {s : State} {m : MethodId} {args : Array Value} {below : List Frame} {meth : Method} {c : Code} {H H0 : Heap} {locs : List Loc} {cells slots : Nat} {Q : State → Prop}
variable {cc : ByteArray} {pc index : Nat} {ls : Array Slot} {D : va_G} {y : Nat → ClassId} {A : Nat → Prop} {ws : va_W} {own : String} {rest : List Value}
theorem ci_nq (hexec : p.tables.exec = Jvm.exec) (hb : c.code = cc) (hown : s.vm.findClass own = some m.cls) (hclink : (Cond.classLink own index RX2).before args s = true) (hN : Nst s) (hK : va_K D vwCl (dTy y) s) (hP : va_P D vwCl ws H) (hD : va_D A ws) (hS : va_S A H0 H locs) (hA : ∀ q, H0.size ≤ q → A q)
    {v : Int32} {N' : Nat} (hn : ¬ v < 0) (hNn : v.toNatClampNeg = N') (hbytes : N' * 4 ≤ 536870912) (hcells : cells + 1 ≤ R.cells) (hslots : slots + N' ≤ R.slots) (hdg : decode cc pc = .ok (.anewarray index, 3))
    (kk : ∀ (q : Nat) (H1 : Heap), va_P D vwCl (ws ++ [(q, .inl (y 3, N', .inr (.inr (.inr (.inr (fun _ => none))))))]) H1 → va_D A (ws ++ [(q, .inl (y 3, N', .inr (.inr (.inr (.inr (fun _ => none))))))]) → va_S A H0 H1 locs → W p l e R s m args below meth c H1 locs (cells + 1) (slots + N') Q (F0 m (pc + 3) ls (.ref q :: rest))) : W p l e R s m args below meth c H locs cells slots Q (F0 m pc ls (.int v :: rest)) := by
  refine va_newq (C := RX2) hexec hb hown hclink hN.2.2.1 hK hP hD hS hA hn hNn hbytes hcells hslots hdg (fun q cA H1 hK1 hP1 hD1 hS1 => ?_)
  have e1 := va_nmO (hK1.2 5 (cA, .object RX2) rfl).2 rfl
  have e2 := va_nmO (hK.2 3 (y 3, .object RX2) rfl).2 rfl
  have e3 : cA = y 3 := Option.some.inj (e1.symm.trans e2)
  subst e3
  exact kk q H1 hP1 hD1 hS1
end CNQ
def wI_X3 : List Cond := .code yX3_init cX3_init 2 none :: wsL_law
theorem i_X3 (l : Launch) (D : va_G) (y : Nat → ClassId) (q0 : Nat) : Ci l D y yX3_init wI_X3 3 53 q0 (.inr (2, [.null, .int 0, .int 0])) (F3 y) 89 792 := by
  refine ci_head (cc := cX3_init) (nl := 2) (by decide) rfl rfl (Nat.le_of_ble_eq_true rfl) ?_
  intro p e s m below meth c A ls hx hb hr hml hown hlocks hin hts0 hA hAe hP hK hD hN hl
  have hts : ∀ w ∈ wsL_law, w.before [Value.ref q0].toArray s = true := fun w h => hts0 w (List.mem_cons_of_mem _ h)
  have hS : va_S A s.heap s.heap [] := va_S.rf
  have hl : lv_has ls 2 [(0, .ref q0)] := hl
  refine lv_aload_n hx hb dX3_init_0 rfl (lv_at hl 0 rfl) ?_
  refine W.objInit hx hb hown (hts _ wl_60) (hts _ wl_10) (hts _ wl_11) rfl (by rw [hml]; exact hl.1) rfl dX3_init_1 (Nat.le_of_ble_eq_true rfl) (Nat.le_of_ble_eq_true rfl) ?_
  refine W.eq (g2 := F0 m 4 ls []) rfl ?_
  refine lv_aload_n hx hb dX3_init_4 rfl (lv_at hl 0 rfl) ?_
  refine lv_bipush (v := 8) hx hb dX3_init_5 (by decide) ?_
  refine ci_nq (v := 8) (N' := 8) hx hb hown (hts _ wl_61) hN hK hP hD hS hA (by decide) (by decide) (by decide) (Nat.le_of_ble_eq_true rfl) (Nat.le_of_ble_eq_true rfl) dX3_init_7 (fun q1 H hP hD hS => ?_)
  have hP : va_P D vwCl [(q0, .inr (2, [.null, .int 0, .int 0])), (q1, .inl (y 3, 8, .inr (.inr (.inr (.inr (fun _ => none))))))] H := hP
  have hD : va_D A [(q0, .inr (2, [.null, .int 0, .int 0])), (q1, .inl (y 3, 8, .inr (.inr (.inr (.inr (fun _ => none))))))] := hD
  refine va_putF (D := D) (ci := 2) (v := .ref q1) (ty := .array (.object "DraughtsTake$House")) (C := RX3) (T := TX3) (N := 3) hx hb hts iwX3 tyX3 tyX3_ok nmX3 hown hK hP hD hS 0 rfl rfl 0 (by decide) (hts _ wl_62) (fun _ h9 => h9) rfl hin rfl (tyX3_ok 0 (by decide)) rfl rfl (Nat.le_of_ble_eq_true rfl) dX3_init_10 (fun H locs hP hD hS => ?_)
  have ek : (fun _ => none) = kF 0 (fun _ _ => 0) := funext fun i => (if_neg (Nat.not_lt_zero i)).symm
  have hP : va_P D vwCl (pW y q0 q1 0 (fun _ _ => 0)) H := by
    have h : va_P D vwCl [(q0, .inr (2, [.ref q1, .int 0, .int 0])), (q1, .inl (y 3, 8, .inr (.inr (.inr (.inr (fun _ => none))))))] H := hP
    rw [ek] at h
    exact h
  have hD : va_D A (pW y q0 q1 0 (fun _ _ => 0)) := by
    have h : va_D A [(q0, .inr (2, [.ref q1, .int 0, .int 0])), (q1, .inl (y 3, 8, .inr (.inr (.inr (.inr (fun _ => none))))))] := hD
    rw [ek] at h
    exact h
  refine lv_iconst (v := 0) hx hb dX3_init_13 (by decide) ?_
  refine lv_istore_n (lv' := [(1, .int 0), (0, .ref q0)]) hx hb dX3_init_14 rfl hl (by decide) rfl (fun ls hl => ?_)
  have J : ∀ (d k : Nat) (x : Int32) (AD : Nat → Nat → Nat), k + d = 8 → x = nI k → ∀ (H : Heap) (locs : List Loc) (ls : Array Slot), va_P D vwCl (pW y q0 q1 k AD) H → va_D A (pW y q0 q1 k AD) → va_S A s.heap H locs → lv_has ls 2 [(0, .ref q0), (1, .int x)] → W p l e ({ frames := 3, cells := 89, slots := 792, locals := 53 } : Room) s m [Value.ref q0].toArray below meth c H locs (1 + 11 * k) (8 + 98 * k) (MQ below (dQn D y s.heap.size [(q0, .inr (2, [.null, .int 0, .int 0]))] q0 (F3 y)) [Value.ref q0].toArray s 89 792 A) (F0 m 15 ls []) := by
    intro d
    induction d with
    | zero =>
      intro k x AD hk hx1 H locs ls hP hD hS hl
      refine lv_iload_n hx hb dX3_init_15 rfl (lv_at hl 1 rfl) ?_
      refine lv_bipush (v := 8) hx hb dX3_init_16 (by decide) ?_
      refine lv_icmp_ge (tgt := 40) hx hb dX3_init_18 (by decide) (fun cc => ?_) (fun cc => ?_)
      · have e : k = 8 := by omega
        subst e
        rw [pW_F] at hP hD
        refine W.widen (k := 89) (n := 792) (by omega) (by omega) ?_
        exact ci_ret hx hb hr hlocks hAe (bA q0 q1 AD) rfl hP hK hD hS dX3_init_40
      · exact absurd (by rw [hx1]; exact nI_le (a := 8) (by omega) (by omega)) cc
    | succ d ih =>
      intro k x AD hk hx1 H locs ls hP hD hS hl
      refine lv_iload_n hx hb dX3_init_15 rfl (lv_at hl 1 rfl) ?_
      refine lv_bipush (v := 8) hx hb dX3_init_16 (by decide) ?_
      refine lv_icmp_ge (tgt := 40) hx hb dX3_init_18 (by decide) (fun cc => ?_) (fun cc => ?_)
      · exact absurd cc (by rw [hx1]; exact nI_ge (b := 8) (by omega) (by omega))
      · refine lv_aload_n hx hb dX3_init_21 rfl (lv_at hl 0 rfl) ?_
        refine va_get (D := D) (ci := 2) (v := .ref q1) (C := RX3) (T := TX3) (N := 3) hx hb hts iwX3 hown hK hP 0 rfl rfl 0 (by decide) (hts _ wl_62) (fun _ h9 => h9) rfl dX3_init_22 ?_
        refine lv_iload_n hx hb dX3_init_25 rfl (lv_at hl 1 rfl) ?_
        refine va_new (ci := 1) (fs := [.null, .long 0, .int 0, .null, .null, .null, .null, .int 0, .int 0, .null, .null, .int 0, .int 0, .int 0, .null]) (C := RX2) (T := TX2) (N := 15) hx hb hts iwX2 tyX2 tyX2_ok hown (hts _ wl_61) (hts _ wl_13) (hts _ wl_14) hK hP hD hS hA rfl (fun j hj => by rcases (show j = 0 ∨ j = 1 ∨ j = 2 ∨ j = 3 ∨ j = 4 ∨ j = 5 ∨ j = 6 ∨ j = 7 ∨ j = 8 ∨ j = 9 ∨ j = 10 ∨ j = 11 ∨ j = 12 ∨ j = 13 ∨ j = 14 by omega) with rfl | rfl | rfl | rfl | rfl | rfl | rfl | rfl | rfl | rfl | rfl | rfl | rfl | rfl | rfl <;> rfl) (show 1 + 11 * k + 1 ≤ 89 by omega) (show 8 + 98 * k + 15 ≤ 792 by omega) dX3_init_26 (fun q H hP hD hS => ?_)
        refine lv_dup hx hb dX3_init_29 rfl ?_
        refine ci_call (own := RX3) (wr := pW y q0 q1 k AD) (rest := [.ref q, .int x, .ref q1]) ⟨hx, hb, hml, hown, hts⟩ (i_X2 l D y q) (cwI 0 hts (gA_I wl_37) rfl rfl rfl (hts _ wl_14) (hts _ wl_63) (hts _ wl_36) rfl (by decide +kernel) ⟨Nat.le_of_ble_eq_true rfl, Nat.le_of_ble_eq_true rfl⟩) hl.1 rfl (Nat.le_of_ble_eq_true rfl) dX3_init_30 ⟨show 1 + 11 * k + 1 + 10 ≤ 89 by omega, show 8 + 98 * k + 15 + 83 ≤ 792 by omega⟩ hK hN hP hD hS hA (fun H locs ad had hPn hDn hSn => ?_)
        subst had
        have hPn : va_P D vwCl (pW y q0 q1 k AD ++ hW y ad) H := hPn
        have hDn : va_D A (pW y q0 q1 k AD ++ hW y ad) := hDn
        have hv : (pW y q0 q1 k AD ++ hW y ad)[(pW y q0 q1 k AD).length]? = (hW y ad)[0]? := by
          rw [List.getElem?_append_right (Nat.le_refl _), Nat.sub_self]
        refine va_astq (D := D) (i := x) hx hb hK hPn hDn hSn 1 3 (pW y q0 q1 k AD).length 1 (f := kF k AD) rfl rfl (hv.trans rfl) rfl (by rw [hx1]; exact vp_in_nI (by omega) (by omega)) dX3_init_33 (fun H locs hP1 hD1 hS1 => ?_)
        have e9 : ((pW y q0 q1 k AD ++ hW y ad).set 1 (q1, .inl (y 3, 8, .inr (.inr (.inr (.inr (va_up (kF k AD) x.toNatClampNeg (some (ad 0)))))))) : va_W) = pW y q0 q1 (k + 1) (aD AD k ad) := by
          rw [hx1, nI_clamp (by omega), kF_s]
          show _ :: _ :: _ = _ :: _ :: _
          rw [rg_s]
          rfl
        have hP1 : va_P D vwCl ((pW y q0 q1 k AD ++ hW y ad).set 1 (q1, .inl (y 3, 8, .inr (.inr (.inr (.inr (va_up (kF k AD) x.toNatClampNeg (some (ad 0))))))))) H := hP1
        have hD1 : va_D A ((pW y q0 q1 k AD ++ hW y ad).set 1 (q1, .inl (y 3, 8, .inr (.inr (.inr (.inr (va_up (kF k AD) x.toNatClampNeg (some (ad 0))))))))) := hD1
        rw [e9] at hP1 hD1
        refine lv_iinc (v := x + 1) (lv' := [(1, .int (x + 1)), (0, .ref q0)]) hx hb dX3_init_34 hl (k := 1) rfl rfl (by decide) rfl (fun ls hl => ?_)
        refine lv_goto (tgt := 15) hx hb dX3_init_37 (by decide) ?_
        refine W.widen (k := 1 + 11 * (k + 1)) (n := 8 + 98 * (k + 1)) (by omega) (by omega) ?_
        exact ih (k + 1) (x + 1) (aD AD k ad) (by omega) (by rw [hx1]; exact nI_1 k) H locs ls hP1 hD1 hS1 (lv_sub hl [1, 0] rfl)
  refine W.widen (k := 1 + 11 * 0) (n := 8 + 98 * 0) (Nat.le_refl _) (Nat.le_refl _) ?_
  exact J 8 0 0 _ rfl nI_0.symm H _ ls hP hD hS (lv_sub hl [1, 0] rfl)
