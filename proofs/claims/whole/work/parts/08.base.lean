/-! CONTRACTS IN ONE SHAPE: a method makes no cell, answers rv, and turns the world ws into ws' -/
abbrev dTy (y : Nat → ClassId) : List (ClassId × FieldType) := [(y 0, .float), (y 1, .int), (y 2, .boolean), (y 3, .object "DraughtsTake$House"), (y 4, .array .int)]
def dPc (D : va_G) (y : Nat → ClassId) (av : List Value) (sz : Nat) (ws : va_W) : Array Value → State → Prop := va_Pc av (fun U => U.heap.size = sz ∧ va_P D vwCl ws U.heap ∧ va_K D vwCl (dTy y) U ∧ va_D (fun _ => True) ws)
def dQ (D : va_G) (y : Nat → ClassId) (rv : Option Value) (sz : Nat) (ws ws' : va_W) : Array Value → State → Outcome → State → Prop := fun _ st oc t => (oc = .returned rv ∧ va_P D vwCl ws' t.heap ∧ va_K D vwCl (dTy y) t ∧ va_D (va_A ws sz) ws') ∧ va_F (va_A ws sz) st t
def Ct (l : Launch) (D : va_G) (y : Nat → ClassId) (nm : MethodName) (wd : List Cond) (fr lo : Nat) (av : List Value) (ws ws' : va_W) (rv : Option Value) : Prop := ∀ sz : Nat, Met l nm wd ({ frames := fr, cells := 0, slots := 0, locals := lo } : Room) (dPc D y av sz ws) (dQ D y rv sz ws ws') 0 0 (va_A ws sz)
theorem ct_head {l : Launch} {D : va_G} {y : Nat → ClassId} {nm : MethodName} {wd wd' : List Cond} {fr lo : Nat} {av : List Value} {ws ws' : va_W} {rv : Option Value} {cc : ByteArray} {n : Nat} {ret : Option FieldType}
    (hy : plainName nm.cls = true) (hw : wd = Cond.code nm cc n ret :: wd') (hlen : (lg_sl av).length ≤ n)
    (body : ∀ (p : Program) (e : Env) (s : State) (m : MethodId) (below : List Frame) (meth : Method) (c : Code) (A : Nat → Prop) (ls : Array Slot), p.tables.exec = Jvm.exec → c.code = cc → meth.sig.returnType = ret → c.maxLocals = n → s.vm.findClass nm.cls = some m.cls → meth.locks = false → (∀ w ∈ wd, w.before av.toArray s = true) → (∀ q : Nat, s.heap.size ≤ q → A q) → A = va_A ws s.heap.size → va_P D vwCl ws s.heap → va_K D vwCl (dTy y) s → va_D A ws → lv_has ls n (lv_args 0 av) → W p l e ({ frames := fr, cells := 0, slots := 0, locals := lo } : Room) s m av.toArray below meth c s.heap [] 0 0 (MQ below (dQ D y rv s.heap.size ws ws') av.toArray s 0 0 A) (F0 m 0 ls [])) : Ct l D y nm wd fr lo av ws ws' rv := by
  intro sz
  refine Met.ofW (cc := cc) (maxL := n) (ret := ret) hy hw ?_
  intro p e s m args below meth c s₁ B hml hv
  obtain ⟨rfl, hsz, hP, hK, hD0⟩ := hv
  subst hsz
  have hl := lv_entry av hlen
  rw [lg_entry_eq]
  exact body p e s m below meth c (va_A ws s.heap.size) _ B.exec B.bytes B.returns hml (findClass_of_methodNamed B.named) B.notSynchronized (atoms_spec (ws := wd) B.pre) (fun q h => Or.inr h) rfl hP hK hD0.self hl
section CTR
variable {p : Program} {l : Launch} {e : Env} {R : Room} {s : State} {m : MethodId} {args : Array Value} {below : List Frame} {meth : Method} {c : Code} {H : Heap} {locs : List Loc} {cells slots : Nat} {Q : State → Prop}
variable {cc : ByteArray} {pc : Nat} {ls : Array Slot} {D : va_G} {y : Nat → ClassId} {A : Nat → Prop} {ws ws' : va_W}
theorem ct_end (hAe : A = va_A ws s.heap.size) (hP : va_P D vwCl ws' H) (hK : va_K D vwCl (dTy y) s) (hD : va_D A ws') (hS : va_S A s.heap H locs) (rv : Option Value) (t : State) (ht : t.heap = H) (hW : s.WarmedH t.vm) : dQ D y rv s.heap.size ws ws' args s (.returned rv) t := by
  subst hAe
  exact ⟨⟨rfl, by rw [ht]; exact hP, va_K.moved hW.alike hK, hD⟩, hS.F ht⟩
theorem ct_iret {v : Int32} (hx : p.tables.exec = Jvm.exec) (hb : c.code = cc) (hr : meth.sig.returnType = some .int) (hlocks : meth.locks = false) (hAe : A = va_A ws s.heap.size) (hP : va_P D vwCl ws' H) (hK : va_K D vwCl (dTy y) s) (hD : va_D A ws') (hS : va_S A s.heap H locs) (hdg : decode cc pc = .ok (.ireturn, 1)) : W p l e R s m args below meth c H locs 0 0 (MQ below (dQ D y (some (.int v)) s.heap.size ws ws') args s 0 0 A) (F0 m pc ls [.int v]) :=
  W.iret hx hb hr (fun t ht hW => ct_end hAe hP hK hD hS _ t ht hW) hS.2.2 hdg hlocks
theorem ct_zret {v : Int32} (hx : p.tables.exec = Jvm.exec) (hb : c.code = cc) (hr : meth.sig.returnType = some .boolean) (hz : narrow .boolean (.int v) = .int v) (hlocks : meth.locks = false) (hAe : A = va_A ws s.heap.size) (hP : va_P D vwCl ws' H) (hK : va_K D vwCl (dTy y) s) (hD : va_D A ws') (hS : va_S A s.heap H locs) (hdg : decode cc pc = .ok (.ireturn, 1)) : W p l e R s m args below meth c H locs 0 0 (MQ below (dQ D y (some (.int v)) s.heap.size ws ws') args s 0 0 A) (F0 m pc ls [.int v]) :=
  W.zret hx hb hr hz (fun t ht hW => ct_end hAe hP hK hD hS _ t ht hW) hS.2.2 hdg hlocks
theorem ct_fret {v : UInt32} (hx : p.tables.exec = Jvm.exec) (hb : c.code = cc) (hr : meth.sig.returnType = some .float) (hlocks : meth.locks = false) (hAe : A = va_A ws s.heap.size) (hP : va_P D vwCl ws' H) (hK : va_K D vwCl (dTy y) s) (hD : va_D A ws') (hS : va_S A s.heap H locs) (hdg : decode cc pc = .ok (.freturn, 1)) : W p l e R s m args below meth c H locs 0 0 (MQ below (dQ D y (some (.float v)) s.heap.size ws ws') args s 0 0 A) (F0 m pc ls [.float v]) :=
  W.fret hx hb hr (fun t ht hW => ct_end hAe hP hK hD hS _ t ht hW) hS.2.2 hdg hlocks
theorem ct_lret {v : Int64} (hx : p.tables.exec = Jvm.exec) (hb : c.code = cc) (hr : meth.sig.returnType = some .long) (hlocks : meth.locks = false) (hAe : A = va_A ws s.heap.size) (hP : va_P D vwCl ws' H) (hK : va_K D vwCl (dTy y) s) (hD : va_D A ws') (hS : va_S A s.heap H locs) (hdg : decode cc pc = .ok (.lreturn, 1)) : W p l e R s m args below meth c H locs 0 0 (MQ below (dQ D y (some (.long v)) s.heap.size ws ws') args s 0 0 A) (F0 m pc ls [.long v]) :=
  W.lret hx hb hr (fun t ht hW => ct_end hAe hP hK hD hS _ t ht hW) hS.2.2 hdg hlocks
theorem ct_vret (hx : p.tables.exec = Jvm.exec) (hb : c.code = cc) (hr : meth.sig.returnType = none) (hlocks : meth.locks = false) (hAe : A = va_A ws s.heap.size) (hP : va_P D vwCl ws' H) (hK : va_K D vwCl (dTy y) s) (hD : va_D A ws') (hS : va_S A s.heap H locs) (hdg : decode cc pc = .ok (.return_, 1)) : W p l e R s m args below meth c H locs 0 0 (MQ below (dQ D y none s.heap.size ws ws') args s 0 0 A) (F0 m pc ls []) :=
  W.vret hx hb hr (fun t ht hW => ct_end hAe hP hK hD hS _ t ht hW) hS.2.2 hdg hlocks
end CTR
theorem ct_pick {ws ws' : va_W} {is : List Nat} (hs : is.map (fun i => ws[i]?) = ws'.map some) : ∀ (k : Nat) (q : Nat × va_E), ws'[k]? = some q → ∃ i : Nat, ws[i]? = some q := by
  intro k q hk
  have h1 : (is.map (fun i => ws[i]?))[k]? = some (some q) := by rw [hs, List.getElem?_map, hk]; rfl
  rw [List.getElem?_map] at h1
  cases hi : is[k]? with
  | none => rw [hi] at h1; cases h1
  | some i => rw [hi] at h1; exact ⟨i, Option.some.inj h1⟩
theorem ct_sub {D : va_G} {ws ws' : va_W} {H : Heap} {is : List Nat} (hP : va_P D vwCl ws H) (hs : is.map (fun i => ws[i]?) = ws'.map some) : va_P D vwCl ws' H := fun k q hk => by
  obtain ⟨i, hi⟩ := ct_pick hs k q hk
  exact hP i q hi
theorem ct_blind {D : va_G} {y : Nat → ClassId} {av : List Value} {sz : Nat} {ws : va_W} : FrameBlind (dPc D y av sz ws) := fun a U g mk q => by
  obtain ⟨q0, q1, qP, qK, qD⟩ := q
  exact ⟨q0, q1, qP, va_K.moved (u := U) (U := U.calling g mk a) (Vm.Alike.refl U.vm) qK, qD⟩
theorem ct_at {ws w : va_W} {is : List Nat} (hs : is.map (fun i => ws[i]?) = w.map some) {k : Nat} {q : Nat × va_E} (hk : w[k]? = some q) : ∃ i, is[k]? = some i ∧ ws[i]? = some q := by
  have h1 : (is.map (fun i => ws[i]?))[k]? = some (some q) := by rw [hs, List.getElem?_map, hk]; rfl
  rw [List.getElem?_map] at h1
  cases hi : is[k]? with
  | none => rw [hi] at h1; cases h1
  | some i => rw [hi] at h1; exact ⟨i, rfl, Option.some.inj h1⟩
theorem ct_at' {ws w : va_W} {is : List Nat} (hs : is.map (fun i => ws[i]?) = w.map some) {i : Nat} (hi : i ∈ is) {q : Nat × va_E} (hq : ws[i]? = some q) : ∃ k : Nat, is[k]? = some i ∧ w[k]? = some q := by
  obtain ⟨k, hk⟩ := List.getElem?_of_mem hi
  refine ⟨k, hk, ?_⟩
  have h1 : (w.map some)[k]? = some (some q) := by rw [← hs, List.getElem?_map, hk]; exact congrArg some hq
  rw [List.getElem?_map] at h1
  cases hw : w[k]? with
  | none => rw [hw] at h1; cases h1
  | some x => rw [hw] at h1; exact Option.some.inj h1
theorem ct_at2 {f g : Nat → Option (Nat × va_E)} : ∀ {is : List Nat}, is.map f = is.map g → ∀ i ∈ is, f i = g i
  | [], _, _, h => absurd h List.not_mem_nil
  | a :: l, hs, i, hi => by
    rw [List.map_cons, List.map_cons] at hs
    injection hs with h1 h2
    rcases List.mem_cons.mp hi with rfl | h
    · exact h1
    · exact ct_at2 h2 i h
section CTC
variable {p : Program} {l : Launch} {e : Env} {R : Room} {s : State} {m : MethodId} {args : Array Value} {below : List Frame} {meth : Method} {c : Code} {H H0 : Heap} {locs : List Loc} {cells slots : Nat} {Q : State → Prop}
variable {cc bytes : ByteArray} {pc nL maxL index n ci q0 N b fr lo : Nat} {ls : Array Slot} {D : va_G} {y : Nat → ClassId} {A : Nat → Prop} {ws ws' wc wc' wr : va_W} {Ts wd : List Cond} {own C host : String} {T : u_T} {nm : MethodName} {ret : Option FieldType} {rv : Option Value} {As rest st0 : List Value} {fs : List Value} {a : Array Value}
/-- behind a call: the callee's cells changed, the rest as it was, each in its place -/
theorem ct_go (hr : va_Run p l e R s m args below meth c H locs cells slots 0 0 (F0 m pc ls st0) rest (dQ D y rv H.size wc wc' a) (va_A wc H.size)) (hP : va_P D vwCl ws H) (hD : va_D A ws) (hS : va_S A H0 H locs) (hA : ∀ q, H0.size ≤ q → A q)
    (isC isR : List Nat) (hC : isC.map (fun i => ws[i]?) = wc.map some) (hC' : isC.map (fun i => ws'[i]?) = wc'.map some) (hR : isR.map (fun i => ws'[i]?) = isR.map (fun i => ws[i]?)) (hdis : ∀ i ∈ isR, i ∉ isC) (n' : Nat) (hlen : ws'.length = n') (hall : ((List.range n').all fun i => decide (i ∈ isC) || decide (i ∈ isR)) = true)
    (kk : ∀ (H1 : Heap) (locs1 : List Loc), va_P D vwCl ws' H1 → va_D A ws' → va_S A H0 H1 locs1 → W p l e R s m args below meth c H1 locs1 cells slots Q (F0 m (pc + 3) ls (rv.toList ++ rest))) : W p l e R s m args below meth c H locs cells slots Q (F0 m pc ls st0) := by
  intro T hT X
  obtain ⟨v, st₀, t, T', L, h0, X', hL, e1, e2, ⟨⟨hv, hP1, hK1, hD1⟩, hz, hk⟩, st⟩ := hr T hT X
  cases hv
  rw [h0] at hz hk
  have hF := va_free hD hS hA isC hC
  have hwh : ∀ (k : Nat) (q : Nat × va_E), ws'[k]? = some q → (k ∈ isR ∧ ws[k]? = some q) ∨ (∃ j : Nat, isC[j]? = some k ∧ wc'[j]? = some q) := by
    intro k q hq
    have hkn : k < n' := by rw [← hlen]; exact (List.getElem?_eq_some_iff.mp hq).1
    have h1 := List.all_eq_true.mp hall k (List.mem_range.mpr hkn)
    simp only [Bool.or_eq_true, decide_eq_true_eq] at h1
    rcases h1 with h1 | h1
    · exact Or.inr (ct_at' hC' h1 hq)
    · refine Or.inl ⟨h1, ?_⟩
      have h2 := ct_at2 hR k h1
      exact h2 ▸ hq
  have apart : ∀ (k : Nat) (q : Nat × va_E), k ∈ isR → ws[k]? = some q → q.1 < H.size ∧ ¬ va_A wc H.size q.1 := by
    intro k q hk1 hq
    have hl := (hP k q hq).lt
    refine ⟨hl, fun h => ?_⟩
    rcases h with ⟨k2, e, h⟩ | h
    · obtain ⟨i, g1, g2⟩ := ct_at hC h
      have hij := hD.1 k i q (q.1, e) hq g2 rfl
      subst hij
      exact hdis k hk1 (List.mem_of_getElem? g1)
    · omega
  have hP2 : va_P D vwCl ws' T'.heap := by
    intro k q hq
    rcases hwh k q hq with ⟨h1, h2⟩ | ⟨j, h1, h2⟩
    · obtain ⟨g1, g2⟩ := apart k q h1 h2
      exact (hP k q h2).kept (by rw [e1]; exact hk q.1 g1 g2)
    · rw [e1]; exact hP1 j q h2
  have hD2 : va_D A ws' := by
    refine ⟨fun i j x z hx hz9 hxz => ?_, fun k q hq => ?_⟩
    · rcases hwh i x hx with ⟨h1, h2⟩ | ⟨a1, h1, h2⟩ <;> rcases hwh j z hz9 with ⟨h3, h4⟩ | ⟨a2, h3, h4⟩
      · exact hD.1 i j x z h2 h4 hxz
      · exact absurd (hxz ▸ hD1.2 a2 z h4) (apart i x h1 h2).2
      · exact absurd (hxz ▸ hD1.2 a1 x h2) (apart j z h3 h4).2
      · have := hD1.1 a1 a2 x z h2 h4 hxz
        subst this
        exact Option.some.inj (h1.symm.trans h3)
    · rcases hwh k q hq with ⟨h1, h2⟩ | ⟨j, h1, h2⟩
      · exact hD.2 k q h2
      · exact hF _ (hD1.2 j q h2)
  obtain ⟨t2, a1, b1⟩ := kk T'.heap (locs ++ L) hP2 hD2
    ⟨Nat.le_trans hS.1 (by rw [e1]; exact hz), fun q h1 h2 => by rw [e1, hk q (Nat.lt_of_lt_of_le h1 hS.1) (fun z => h2 (hF q z))]; exact hS.2.1 q h1 h2, fun q hq => by
      rcases List.mem_append.mp hq with h | h
      · exact hS.2.2 q h
      · exact hF _ (hL q h)⟩ T' rfl X'
  exact ⟨t2, st t2 a1, b1⟩
theorem ct_go0 (hr : va_Run p l e R s m args below meth c H locs cells slots 0 0 (F0 m pc ls st0) rest (dQ D y rv H.size ws ws' a) (va_A ws H.size)) (hD : va_D A ws) (hS : va_S A H0 H locs) (hA : ∀ q, H0.size ≤ q → A q)
    (kk : ∀ (H1 : Heap) (locs1 : List Loc), va_P D vwCl ws' H1 → va_D A ws' → va_S A H0 H1 locs1 → W p l e R s m args below meth c H1 locs1 cells slots Q (F0 m (pc + 3) ls (rv.toList ++ rest))) : W p l e R s m args below meth c H locs cells slots Q (F0 m pc ls st0) := by
  intro T hT X
  obtain ⟨v, st₀, t, T', L, h0, X', hL, e1, e2, ⟨⟨hv, hP1, hK1, hD1⟩, hz, hk⟩, st⟩ := hr T hT X
  cases hv
  rw [h0] at hz hk
  have hF : ∀ q, va_A ws H.size q → A q := by
    intro q h
    rcases h with ⟨k, e, h⟩ | h
    · exact hD.2 k (q, e) h
    · exact hA q (Nat.le_trans hS.1 h)
  obtain ⟨t2, a1, b1⟩ := kk T'.heap (locs ++ L) (by rw [e1]; exact hP1) (hD1.weaken (fun k q _ h => hF q.1 h))
    ⟨Nat.le_trans hS.1 (by rw [e1]; exact hz), fun q h1 h2 => by rw [e1, hk q (Nat.lt_of_lt_of_le h1 hS.1) (fun z => h2 (hF q z))]; exact hS.2.1 q h1 h2, fun q hq => by
      rcases List.mem_append.mp hq with h | h
      · exact hS.2.2 q h
      · exact hF _ (hL q h)⟩ T' rfl X'
  exact ⟨t2, st t2 a1, b1⟩
theorem ct_preV (hK : va_K D vwCl (dTy y) s) (hP : va_P D vwCl wc H) (hD : va_D A wc) (hc : vwCl[ci]? = some (C, T, N)) (he : wc[q0]? = some (b, .inr (ci, fs))) : PreV s H C b (dPc D y (.ref b :: As) H.size wc) As :=
  ⟨ct_blind, va_recv hK hP hc he, fun U hU hW => ⟨rfl, by rw [hU], by rw [hU]; exact hP, va_K.moved hW.alike hK, hD.weaken (fun _ _ _ _ => trivial)⟩⟩
theorem ct_preS (hK : va_K D vwCl (dTy y) s) (hP : va_P D vwCl wc H) (hD : va_D A wc) : PreS s H (dPc D y As H.size wc) As :=
  ⟨ct_blind, fun U hU hW => ⟨rfl, by rw [hU], by rw [hU]; exact hP, va_K.moved hW.alike hK, hD.weaken (fun _ _ _ _ => trivial)⟩⟩
theorem ct_subD (hD : va_D A ws) (isC : List Nat) (hC : isC.map (fun i => ws[i]?) = wc.map some) (hcn : va_nd isC = true) : va_D A wc := hD.sub isC hcn hC
/-- a method of an object, called on a part of the world -/
theorem ct_callV (S : CallFix p m c cc nL s args Ts own) (hM : Ct l D y nm wd fr lo (.ref b :: As) wc wc' rv) (cw : CallW R s args own C index nm bytes maxL ret wd ({ frames := fr, cells := 0, slots := 0, locals := lo } : Room) 0 0 n) (hc : vwCl[ci]? = some (C, T, N)) (he : wc[q0]? = some (b, .inr (ci, fs))) (hn : As.length = n) (hsz : ls.size = nL) (hst : st0 = As.reverse ++ .ref b :: rest) (hW : (rest.map fun v => v.category).sum ≤ 8) (hdg : decode cc pc = .ok (.invokevirtual index, 3)) (hcs : cells ≤ R.cells ∧ slots ≤ R.slots)
    (hK : va_K D vwCl (dTy y) s) (hP : va_P D vwCl ws H) (hD : va_D A ws) (hS : va_S A H0 H locs) (hA : ∀ q, H0.size ≤ q → A q) (isC isR : List Nat) (hC : isC.map (fun i => ws[i]?) = wc.map some) (hC' : isC.map (fun i => ws'[i]?) = wc'.map some) (hR : isR.map (fun i => ws'[i]?) = isR.map (fun i => ws[i]?)) (hcn : va_nd isC = true) (hdis : ∀ i ∈ isR, i ∉ isC) (n' : Nat) (hlen : ws'.length = n') (hall : ((List.range n').all fun i => decide (i ∈ isC) || decide (i ∈ isR)) = true)
    (kk : ∀ (H1 : Heap) (locs1 : List Loc), va_P D vwCl ws' H1 → va_D A ws' → va_S A H0 H1 locs1 → W p l e R s m args below meth c H1 locs1 cells slots Q (F0 m (pc + 3) ls (rv.toList ++ rest))) : W p l e R s m args below meth c H locs cells slots Q (F0 m pc ls st0) :=
  ct_go (va_runV S (hM H.size) cw (ct_preV hK (ct_sub hP hC) (ct_subD hD isC hC hcn) hc he) rfl hn hsz hst (lv_room hW) hdg hcs) hP hD hS hA isC isR hC hC' hR hdis n' hlen hall kk
/-- the same, on the whole world -/
theorem ct_callV0 (S : CallFix p m c cc nL s args Ts own) (hM : Ct l D y nm wd fr lo (.ref b :: As) ws ws' rv) (cw : CallW R s args own C index nm bytes maxL ret wd ({ frames := fr, cells := 0, slots := 0, locals := lo } : Room) 0 0 n) (hc : vwCl[ci]? = some (C, T, N)) (he : ws[q0]? = some (b, .inr (ci, fs))) (hn : As.length = n) (hsz : ls.size = nL) (hst : st0 = As.reverse ++ .ref b :: rest) (hW : (rest.map fun v => v.category).sum ≤ 8) (hdg : decode cc pc = .ok (.invokevirtual index, 3)) (hcs : cells ≤ R.cells ∧ slots ≤ R.slots)
    (hK : va_K D vwCl (dTy y) s) (hP : va_P D vwCl ws H) (hD : va_D A ws) (hS : va_S A H0 H locs) (hA : ∀ q, H0.size ≤ q → A q)
    (kk : ∀ (H1 : Heap) (locs1 : List Loc), va_P D vwCl ws' H1 → va_D A ws' → va_S A H0 H1 locs1 → W p l e R s m args below meth c H1 locs1 cells slots Q (F0 m (pc + 3) ls (rv.toList ++ rest))) : W p l e R s m args below meth c H locs cells slots Q (F0 m pc ls st0) :=
  ct_go0 (va_runV S (hM H.size) cw (ct_preV hK hP hD hc he) rfl hn hsz hst (lv_room hW) hdg hcs) hD hS hA kk
/-- a static method -/
theorem ct_callS (S : CallFix p m c cc nL s args Ts own) (hM : Ct l D y nm wd fr lo As wc wc' rv) (cw : CallB R s args own index nm bytes maxL ret wd ({ frames := fr, cells := 0, slots := 0, locals := lo } : Room) 0 0 n ∧ (Cond.static nm).before args s = true) (hn : As.length = n) (hsz : ls.size = nL) (hst : st0 = As.reverse ++ rest) (hW : (rest.map fun v => v.category).sum ≤ 8) (hdg : decode cc pc = .ok (.invokestatic index, 3)) (hcs : cells ≤ R.cells ∧ slots ≤ R.slots)
    (hK : va_K D vwCl (dTy y) s) (hP : va_P D vwCl ws H) (hD : va_D A ws) (hS : va_S A H0 H locs) (hA : ∀ q, H0.size ≤ q → A q) (isC isR : List Nat) (hC : isC.map (fun i => ws[i]?) = wc.map some) (hC' : isC.map (fun i => ws'[i]?) = wc'.map some) (hR : isR.map (fun i => ws'[i]?) = isR.map (fun i => ws[i]?)) (hcn : va_nd isC = true) (hdis : ∀ i ∈ isR, i ∉ isC) (n' : Nat) (hlen : ws'.length = n') (hall : ((List.range n').all fun i => decide (i ∈ isC) || decide (i ∈ isR)) = true)
    (kk : ∀ (H1 : Heap) (locs1 : List Loc), va_P D vwCl ws' H1 → va_D A ws' → va_S A H0 H1 locs1 → W p l e R s m args below meth c H1 locs1 cells slots Q (F0 m (pc + 3) ls (rv.toList ++ rest))) : W p l e R s m args below meth c H locs cells slots Q (F0 m pc ls st0) :=
  ct_go (va_runS S (hM H.size) cw (ct_preS hK (ct_sub hP hC) (ct_subD hD isC hC hcn)) rfl hn hsz hst (lv_room hW) hdg hcs) hP hD hS hA isC isR hC hC' hR hdis n' hlen hall kk
/-- a static method that touches no cell -/
theorem ct_callS0 (S : CallFix p m c cc nL s args Ts own) (hM : Ct l D y nm wd fr lo As [] [] rv) (cw : CallB R s args own index nm bytes maxL ret wd ({ frames := fr, cells := 0, slots := 0, locals := lo } : Room) 0 0 n ∧ (Cond.static nm).before args s = true) (hn : As.length = n) (hsz : ls.size = nL) (hst : st0 = As.reverse ++ rest) (hW : (rest.map fun v => v.category).sum ≤ 8) (hdg : decode cc pc = .ok (.invokestatic index, 3)) (hcs : cells ≤ R.cells ∧ slots ≤ R.slots)
    (hK : va_K D vwCl (dTy y) s) (hP : va_P D vwCl ws H) (hD : va_D A ws) (hS : va_S A H0 H locs) (hA : ∀ q, H0.size ≤ q → A q)
    (kk : ∀ (H1 : Heap) (locs1 : List Loc), va_P D vwCl ws H1 → va_D A ws → va_S A H0 H1 locs1 → W p l e R s m args below meth c H1 locs1 cells slots Q (F0 m (pc + 3) ls (rv.toList ++ rest))) : W p l e R s m args below meth c H locs cells slots Q (F0 m pc ls st0) := by
  have nilP : va_P D vwCl [] H := fun k q h => by simp at h
  have nilD : va_D A [] := ⟨fun i j p q h => by simp at h, fun k q h => by simp at h⟩
  have hr := va_runS S (hM H.size) cw (ct_preS hK nilP nilD) (g := F0 m pc ls st0) (rest := rest) (H := H) (locs := locs) (cells := cells) (slots := slots) (below := below) (meth := meth) (e := e) rfl hn hsz hst (lv_room hW) hdg hcs
  intro T hT X
  obtain ⟨v, st₀, t, T', L, h0, X', hL, e1, e2, ⟨⟨hv, hP1, hK1, hD1⟩, hz, hk⟩, st⟩ := hr T hT X
  cases hv
  rw [h0] at hz hk
  have hF : ∀ q, va_A [] H.size q → A q := by
    intro q h
    rcases h with ⟨k, e, h⟩ | h
    · simp at h
    · exact hA q (Nat.le_trans hS.1 h)
  have hlt : ∀ q, q < H.size → ¬ va_A [] H.size q := by
    intro q hq h
    rcases h with ⟨k, e, h⟩ | h
    · simp at h
    · omega
  obtain ⟨t2, a1, b1⟩ := kk T'.heap (locs ++ L) (hP.kept (fun k q hq => by rw [e1]; exact hk _ ((hP k q hq).lt) (hlt _ ((hP k q hq).lt)))) hD
    ⟨Nat.le_trans hS.1 (by rw [e1]; exact hz), fun q h1 h2 => by rw [e1, hk q (Nat.lt_of_lt_of_le h1 hS.1) (fun z => h2 (hF q z))]; exact hS.2.1 q h1 h2, fun q hq => by
      rcases List.mem_append.mp hq with h | h
      · exact hS.2.2 q h
      · exact hF _ (hL q h)⟩ T' rfl X'
  exact ⟨t2, st t2 a1, b1⟩
end CTC
/-- a truth value -/
def dq_z (v : Int32) : Prop := v = 0 ∨ v = 1
theorem dq_zn {v : Int32} (h : dq_z v) : narrow .boolean (.int v) = .int v := by
  rcases h with rfl | rfl <;> rfl
theorem dq_zf {v : Int32} (h : dq_z v) : fits .boolean (.int v) = true := by
  rcases h with rfl | rfl <;> rfl
theorem dq_zv {v : Int32} (h : dq_z v) : vp_nar .boolean v = v := by
  rcases h with rfl | rfl <;> rfl
section CTA
variable {p : Program} {l : Launch} {e : Env} {R : Room} {s : State} {m : MethodId} {args : Array Value} {below : List Frame} {meth : Method} {c : Code} {H : Heap} {locs : List Loc} {cells slots : Nat} {Q : State → Prop}
variable {cc : ByteArray} {pc : Nat} {ls : Array Slot} {rest : List Value} {D : va_G} {cl : List vw_C} {A : Nat → Prop} {a : Nat} {tys : List (ClassId × FieldType)} {ws : va_W} {H0 : Heap}
theorem dq_iast (hexec : p.tables.exec = Jvm.exec) (hb : c.code = cc) (hK : va_K D cl tys s) (hP : va_P D cl ws H) (hD : va_D A ws) (hS : va_S A H0 H locs) (q0 t0 : Nat) {cA : ClassId} {n : Nat} {f : Nat → Int32} (ha : ws[q0]? = some (a, .inl (cA, n, .inl f))) (ht : tys[t0]? = some (cA, .int)) {i : Int32} {x : Int32} (hin : vp_in i n) (hdg : decode cc pc = .ok (.iastore, 1))
    (kk : ∀ (g : Nat → Int32), g = upd f i.toNatClampNeg x → ∀ (H1 : Heap) (locs1 : List Loc), va_P D cl (ws.set q0 (a, .inl (cA, n, .inl g))) H1 → va_D A (ws.set q0 (a, .inl (cA, n, .inl g))) → va_S A H0 H1 locs1 → W p l e R s m args below meth c H1 locs1 cells slots Q (F0 m (pc + 1) ls rest)) : W p l e R s m args below meth c H locs cells slots Q (F0 m pc ls (.int x :: .int i :: .ref a :: rest)) :=
  va_iast hexec hb hK hP hD hS q0 t0 ha ht hin hdg (fun H1 l1 h1 h2 h3 => kk _ rfl H1 l1 h1 h2 h3)
theorem dq_zast (hexec : p.tables.exec = Jvm.exec) (hb : c.code = cc) (hK : va_K D cl tys s) (hP : va_P D cl ws H) (hD : va_D A ws) (hS : va_S A H0 H locs) (q0 t0 : Nat) {cA : ClassId} {n : Nat} {f : Nat → Int32} (ha : ws[q0]? = some (a, .inl (cA, n, .inl f))) (ht : tys[t0]? = some (cA, .boolean)) {i : Int32} {x : Int32} (hin : vp_in i n) (hz : dq_z x) (hdg : decode cc pc = .ok (.bastore, 1))
    (kk : ∀ (g : Nat → Int32), g = upd f i.toNatClampNeg x → ∀ (H1 : Heap) (locs1 : List Loc), va_P D cl (ws.set q0 (a, .inl (cA, n, .inl g))) H1 → va_D A (ws.set q0 (a, .inl (cA, n, .inl g))) → va_S A H0 H1 locs1 → W p l e R s m args below meth c H1 locs1 cells slots Q (F0 m (pc + 1) ls rest)) : W p l e R s m args below meth c H locs cells slots Q (F0 m pc ls (.int x :: .int i :: .ref a :: rest)) :=
  va_zast hexec hb hK hP hD hS q0 t0 ha ht hin hdg (fun H1 l1 h1 h2 h3 => kk _ (by rw [dq_zv hz]) H1 l1 h1 h2 h3)
theorem dq_fast (hexec : p.tables.exec = Jvm.exec) (hb : c.code = cc) (hK : va_K D cl tys s) (hP : va_P D cl ws H) (hD : va_D A ws) (hS : va_S A H0 H locs) (q0 t0 : Nat) {cA : ClassId} {n : Nat} {f : Nat → UInt32} (ha : ws[q0]? = some (a, .inl (cA, n, .inr (.inr (.inl f))))) (ht : tys[t0]? = some (cA, .float)) {i : Int32} {x : UInt32} (hin : vp_in i n) (hdg : decode cc pc = .ok (.fastore, 1))
    (kk : ∀ (g : Nat → UInt32), g = vf_upd f i.toNatClampNeg x → ∀ (H1 : Heap) (locs1 : List Loc), va_P D cl (ws.set q0 (a, .inl (cA, n, .inr (.inr (.inl g))))) H1 → va_D A (ws.set q0 (a, .inl (cA, n, .inr (.inr (.inl g))))) → va_S A H0 H1 locs1 → W p l e R s m args below meth c H1 locs1 cells slots Q (F0 m (pc + 1) ls rest)) : W p l e R s m args below meth c H locs cells slots Q (F0 m pc ls (.float x :: .int i :: .ref a :: rest)) :=
  va_fast hexec hb hK hP hD hS q0 t0 ha ht hin hdg (fun H1 l1 h1 h2 h3 => kk _ rfl H1 l1 h1 h2 h3)
theorem dq_copyI (hexec : p.tables.exec = Jvm.exec) (hb : c.code = cc) (hml : c.maxLocals = ls.size) {own : String} {index : Nat} (hown : s.vm.findClass own = some m.cls) (hlink : (Cond.methodLink own index arraycopyName).before args s = true) (hnat : (Cond.native arraycopyName).before args s = true) (hstat : (Cond.static arraycopyName).before args s = true) (hini : (Cond.initialized "java/lang/System").before args s = true)
    (hK : va_K D cl tys s) (hP : va_P D cl ws H) (hD : va_D A ws) (hS : va_S A H0 H locs) (q0 q1 t0 t1 : Nat) {a0 : Nat} {c0 c1 : ClassId} {n0 n1 : Nat} {f g : Nat → Int32} (ha0 : ws[q0]? = some (a0, .inl (c0, n0, .inl f))) (ha1 : ws[q1]? = some (a, .inl (c1, n1, .inl g))) (ht0 : tys[t0]? = some (c0, .int)) (ht1 : tys[t1]? = some (c1, .int))
    {sp dp n : Int32} (h1 : ¬ sp < 0) (h2 : ¬ dp < 0) (h3 : ¬ n < 0) (h4 : sp.toNatClampNeg + n.toNatClampNeg ≤ n0) (h5 : dp.toNatClampNeg + n.toNatClampNeg ≤ n1)
    (hframes : 1 ≤ R.frames) (hlocals : (rest.map fun v => v.category).sum + (nativeFrameWords "java/lang/System" "arraycopy" 5 + 11) ≤ R.locals) (hdg : decode cc pc = .ok (.invokestatic index, 3))
    (kk : ∀ (g' : Nat → Int32), g' = va_cpy f g sp.toNatClampNeg dp.toNatClampNeg n.toNatClampNeg → ∀ (H1 : Heap) (locs1 : List Loc), va_P D cl (ws.set q1 (a, .inl (c1, n1, .inl g'))) H1 → va_D A (ws.set q1 (a, .inl (c1, n1, .inl g'))) → va_S A H0 H1 locs1 → W p l e R s m args below meth c H1 locs1 cells slots Q (F0 m (pc + 3) ls rest)) : W p l e R s m args below meth c H locs cells slots Q (F0 m pc ls (.int n :: .int dp :: .ref a :: .int sp :: .ref a0 :: rest)) :=
  va_copyi hexec hb hml hown hlink hnat hstat hini hK hP hD hS q0 q1 t0 t1 ha0 ha1 ht0 ht1 rfl h1 h2 h3 h4 h5 (fun _ _ => rfl) hframes hlocals hdg (fun H1 l1 k1 k2 k3 => kk _ rfl H1 l1 k1 k2 k3)
theorem dq_copyF (hexec : p.tables.exec = Jvm.exec) (hb : c.code = cc) (hml : c.maxLocals = ls.size) {own : String} {index : Nat} (hown : s.vm.findClass own = some m.cls) (hlink : (Cond.methodLink own index arraycopyName).before args s = true) (hnat : (Cond.native arraycopyName).before args s = true) (hstat : (Cond.static arraycopyName).before args s = true) (hini : (Cond.initialized "java/lang/System").before args s = true)
    (hK : va_K D cl tys s) (hP : va_P D cl ws H) (hD : va_D A ws) (hS : va_S A H0 H locs) (q0 q1 t0 t1 : Nat) {a0 : Nat} {c0 c1 : ClassId} {n0 n1 : Nat} {f g : Nat → UInt32} (ha0 : ws[q0]? = some (a0, .inl (c0, n0, .inr (.inr (.inl f))))) (ha1 : ws[q1]? = some (a, .inl (c1, n1, .inr (.inr (.inl g))))) (ht0 : tys[t0]? = some (c0, .float)) (ht1 : tys[t1]? = some (c1, .float))
    {sp dp n : Int32} (h1 : ¬ sp < 0) (h2 : ¬ dp < 0) (h3 : ¬ n < 0) (h4 : sp.toNatClampNeg + n.toNatClampNeg ≤ n0) (h5 : dp.toNatClampNeg + n.toNatClampNeg ≤ n1)
    (hframes : 1 ≤ R.frames) (hlocals : (rest.map fun v => v.category).sum + (nativeFrameWords "java/lang/System" "arraycopy" 5 + 11) ≤ R.locals) (hdg : decode cc pc = .ok (.invokestatic index, 3))
    (kk : ∀ (g' : Nat → UInt32), g' = va_cpy f g sp.toNatClampNeg dp.toNatClampNeg n.toNatClampNeg → ∀ (H1 : Heap) (locs1 : List Loc), va_P D cl (ws.set q1 (a, .inl (c1, n1, .inr (.inr (.inl g'))))) H1 → va_D A (ws.set q1 (a, .inl (c1, n1, .inr (.inr (.inl g'))))) → va_S A H0 H1 locs1 → W p l e R s m args below meth c H1 locs1 cells slots Q (F0 m (pc + 3) ls rest)) : W p l e R s m args below meth c H locs cells slots Q (F0 m pc ls (.int n :: .int dp :: .ref a :: .int sp :: .ref a0 :: rest)) :=
  va_copyf hexec hb hml hown hlink hnat hstat hini hK hP hD hS q0 q1 t0 t1 ha0 ha1 ht0 ht1 rfl h1 h2 h3 h4 h5 (fun _ _ => rfl) hframes hlocals hdg (fun H1 l1 k1 k2 k3 => kk _ rfl H1 l1 k1 k2 k3)
end CTA
section CTX
variable {p : Program} {l : Launch} {e : Env} {R : Room} {s : State} {m : MethodId} {args : Array Value} {below : List Frame} {meth : Method} {c : Code} {H : Heap} {locs : List Loc} {cells slots : Nat} {Q : State → Prop}
variable {cc : ByteArray} {pc : Nat} {ls : Array Slot} {rest : List Value} {D : va_G} {cl : List vw_C} {A : Nat → Prop} {a : Nat} {tys : List (ClassId × FieldType)} {ws : va_W} {H0 : Heap}
/-- a float constant by a wide index -/
theorem lv_ldcwf (hexec : p.tables.exec = Jvm.exec) (hb : c.code = cc) {own : String} {index : Nat} {v : UInt32} (hown : s.vm.findClass own = some m.cls) (hconst : (Jvm.Cond.constantFloat own index v).before args s = true) (hdg : decode cc pc = .ok (.ldc_w index, 3)) (k : W p l e R s m args below meth c H locs cells slots Q (F0 m (pc + 3) ls (.float v :: rest))) : W p l e R s m args below meth c H locs cells slots Q (F0 m pc ls rest) := by
  intro T hT X
  obtain ⟨t, a, b⟩ := k T hT X
  refine ⟨t, ?_, b⟩
  obtain ⟨k, cf, hk, hcf, hcp⟩ := Cond.constantFloat_spec hown hconst
  obtain ⟨k', hk', he⟩ := X.warmed.alike.2.2 _ _ hk
  jvm_step X.here [hexec, (show decode c.code (F0 m pc ls rest).pc = .ok (.ldc_w index, 3) by rw [hb]; exact hdg), ldc_w.wp_float (s := T) (f := F0 m pc ls rest) X.here.top hk' (by rw [he]; exact hcf) hcp]
  exact a
theorem dq_ix {x : Int32} {n : Nat} (h : vp_in x n) : ∃ j : Nat, j < n ∧ x.toNatClampNeg = j := ⟨x.toNatClampNeg, Nat.not_le.mp fun q => h (Or.inr q), rfl⟩
/-- a row of rows: a place of it, that is known -/
theorem dq_aldH (hexec : p.tables.exec = Jvm.exec) (hb : c.code = cc) (hK : va_K D cl tys s) (hP : va_P D cl ws H) (q0 t0 : Nat) {cA : ClassId} {C : String} {n b : Nat} {f : Nat → Option Nat} (ha : ws[q0]? = some (a, .inl (cA, n, .inr (.inr (.inr (.inr f)))))) (ht : tys[t0]? = some (cA, .object C)) {i : Int32} (hin : vp_in i n) (hf : f i.toNatClampNeg = some b) (hdg : decode cc pc = .ok (.aaload, 1))
    (kk : W p l e R s m args below meth c H locs cells slots Q (F0 m (pc + 1) ls (.ref b :: rest))) : W p l e R s m args below meth c H locs cells slots Q (F0 m pc ls (.int i :: .ref a :: rest)) :=
  va_aldq hexec hb hK hP q0 t0 ha ht hin hdg (by rw [hf]; exact kk)
theorem dq_aldI (hexec : p.tables.exec = Jvm.exec) (hb : c.code = cc) (hK : va_K D cl tys s) (hP : va_P D cl ws H) (q0 t0 : Nat) {cA : ClassId} {n b : Nat} {f : Nat → Option Nat} (ha : ws[q0]? = some (a, .inl (cA, n, .inr (.inr (.inr (.inr f)))))) (ht : tys[t0]? = some (cA, .array .int)) {i : Int32} (hin : vp_in i n) (hf : f i.toNatClampNeg = some b) (hdg : decode cc pc = .ok (.aaload, 1))
    (kk : W p l e R s m args below meth c H locs cells slots Q (F0 m (pc + 1) ls (.ref b :: rest))) : W p l e R s m args below meth c H locs cells slots Q (F0 m pc ls (.int i :: .ref a :: rest)) := by
  have hlt : i.toNatClampNeg < n := Nat.not_le.mp fun q => hin (Or.inr q)
  exact W.aald (v := .ref b) (ty := .array .int) hexec hb (hP q0 _ ha) ((hK.2 t0 _ ht).1 n (fun j => va_rf (f j))) rfl (fun q => by cases q) (by show ¬ (i < 0 ∨ (arrV _ _ _).slots.size ≤ _); rw [arrV_size]; exact hin) (by show (arrV _ _ _).slots[_]? = _; rw [arrV_read _ _ hlt, hf]; rfl) rfl rfl hdg kk
end CTX
