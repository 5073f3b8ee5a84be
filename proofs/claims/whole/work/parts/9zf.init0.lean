/-! THE CONSTRUCTORS: contracts in one shape -/
def Nst (U : State) : Prop := va_Nw (.methodLinkNest RX2 36 yX1_init RX6) U ∧ va_Nw (.methodLinkNest RX6 31 yX5_init RX6) U ∧ va_AO RX2 U ∧ (Cond.arrayOver (.array .int)).before #[] U = true
theorem Nst.arr {s U : State} (hal : s.vm.Alike U.vm) (h : (Cond.arrayOver (.array .int)).before #[] s = true) : (Cond.arrayOver (.array .int)).before #[] U = true := (Cond.arrayOver_setVmC (args := #[]) hal (.array .int)).trans h
theorem Nst.warm {s U : State} (hW : s.WarmedH U.vm) (h : Nst s) : Nst U := ⟨h.1.warmM hW, h.2.1.warmM hW, h.2.2.1.moved hW.alike, Nst.arr hW.alike h.2.2.2⟩
theorem Nst.same {u U : State} (e : u.vm = U.vm) (h : Nst u) : Nst U := by
  have al : u.vm.Alike U.vm := by rw [e]; exact Vm.Alike.refl U.vm
  exact ⟨h.1.same rfl e, h.2.1.same rfl e, h.2.2.1.moved al, Nst.arr al h.2.2.2⟩
def dPn (D : va_G) (y : Nat → ClassId) (av : List Value) (sz : Nat) (ws : va_W) : Array Value → State → Prop := fun a U => dPc D y av sz ws a U ∧ Nst U
theorem dPn_blind {D : va_G} {y : Nat → ClassId} {av : List Value} {sz : Nat} {ws : va_W} : FrameBlind (dPn D y av sz ws) := fun a U g mk q => ⟨ct_blind a U g mk q.1, Nst.same (u := U) (U := U.calling g mk a) rfl q.2⟩
def dQn (D : va_G) (y : Nat → ClassId) (sz : Nat) (ws : va_W) (q0 : Nat) (F : (Nat → Nat) → va_W) : Array Value → State → Outcome → State → Prop := fun _ st oc t => (oc = .returned none ∧ (∃ ad : Nat → Nat, ad 0 = q0 ∧ va_P D vwCl (F ad) t.heap ∧ va_D (va_A ws sz) (F ad)) ∧ va_K D vwCl (dTy y) t) ∧ va_F (va_A ws sz) st t
/-- a constructor of the object at q0, empty as e0: it comes to the world F; k cells of n places come -/
def Ci (l : Launch) (D : va_G) (y : Nat → ClassId) (nm : MethodName) (wd : List Cond) (fr lo : Nat) (q0 : Nat) (e0 : va_E) (F : (Nat → Nat) → va_W) (k n : Nat) : Prop := ∀ sz : Nat, Met l nm wd ({ frames := fr, cells := k, slots := n, locals := lo } : Room) (dPn D y [.ref q0] sz [(q0, e0)]) (dQn D y sz [(q0, e0)] q0 F) k n (va_A [(q0, e0)] sz)
theorem ci_head {l : Launch} {D : va_G} {y : Nat → ClassId} {nm : MethodName} {wd wd' : List Cond} {fr lo q0 k n : Nat} {e0 : va_E} {F : (Nat → Nat) → va_W} {cc : ByteArray} {nl : Nat}
    (hy : plainName nm.cls = true) (hnm : nm.name = "<init>") (hw : wd = Cond.code nm cc nl none :: wd') (hlen : (lg_sl [.ref q0]).length ≤ nl)
    (body : ∀ (p : Program) (e : Env) (s : State) (m : MethodId) (below : List Frame) (meth : Method) (c : Code) (A : Nat → Prop) (ls : Array Slot), p.tables.exec = Jvm.exec → c.code = cc → meth.sig.returnType = none → c.maxLocals = nl → s.vm.findClass nm.cls = some m.cls → meth.locks = false → meth.name = "<init>" → (∀ w ∈ wd, w.before [Value.ref q0].toArray s = true) → (∀ q : Nat, s.heap.size ≤ q → A q) → A = va_A [(q0, e0)] s.heap.size → va_P D vwCl [(q0, e0)] s.heap → va_K D vwCl (dTy y) s → va_D A [(q0, e0)] → Nst s → lv_has ls nl (lv_args 0 [.ref q0]) → W p l e ({ frames := fr, cells := k, slots := n, locals := lo } : Room) s m [Value.ref q0].toArray below meth c s.heap [] 0 0 (MQ below (dQn D y s.heap.size [(q0, e0)] q0 F) [Value.ref q0].toArray s k n A) (F0 m 0 ls [])) : Ci l D y nm wd fr lo q0 e0 F k n := by
  intro sz
  refine Met.ofW (cc := cc) (maxL := nl) (ret := none) hy hw ?_
  intro p e s m args below meth c s₁ B hml hv
  obtain ⟨⟨rfl, hsz, hP, hK, hD0⟩, hN⟩ := hv
  subst hsz
  have hl := lv_entry [.ref q0] hlen
  rw [lg_entry_eq]
  exact body p e s m below meth c (va_A [(q0, e0)] s.heap.size) _ B.exec B.bytes B.returns hml (findClass_of_methodNamed B.named) B.notSynchronized ((name_of_methodNamed B.named B.method).1.trans hnm) (atoms_spec (ws := wd) B.pre) (fun q h => Or.inr h) rfl hP hK hD0.self hN hl
section CIN
variable {p : Program} {l : Launch} {e : Env} {R : Room} {s : State} {m : MethodId} {args : Array Value} {below : List Frame} {meth : Method} {c : Code} {H H0 : Heap} {locs : List Loc} {cells slots : Nat} {Q : State → Prop}
variable {cc bytes : ByteArray} {pc nL maxL index n ci q0 N b fr lo k : Nat} {ls : Array Slot} {D : va_G} {y : Nat → ClassId} {A : Nat → Prop} {ws wr : va_W} {e0 : va_E} {F : (Nat → Nat) → va_W} {Ts wd wd' : List Cond} {own C host : String} {nm : MethodName} {rest st0 : List Value}
theorem ci_ret (hx : p.tables.exec = Jvm.exec) (hb : c.code = cc) (hr : meth.sig.returnType = none) (hlocks : meth.locks = false) (hAe : A = va_A [(q0, e0)] s.heap.size) (ad : Nat → Nat) (had : ad 0 = q0) (hP : va_P D vwCl (F ad) H) (hK : va_K D vwCl (dTy y) s) (hD : va_D A (F ad)) (hS : va_S A s.heap H locs) (hdg : decode cc pc = .ok (.return_, 1)) : W p l e R s m args below meth c H locs cells slots (MQ below (dQn D y s.heap.size [(q0, e0)] q0 F) args s cells slots A) (F0 m pc ls []) := by
  subst hAe
  exact W.vret hx hb hr (fun t ht hW => ⟨⟨rfl, ⟨ad, had, by rw [ht]; exact hP, hD⟩, va_K.moved hW.alike hK⟩, hS.F ht⟩) hS.2.2 hdg
/-- behind a constructor's call: the new object, last in the world, has become a world of its own -/
theorem ci_go (hr : va_Run p l e R s m args below meth c H locs cells slots k n (F0 m pc ls st0) rest (dQn D y H.size [(b, e0)] b F (#[Value.ref b])) (va_A [(b, e0)] H.size)) (hP : va_P D vwCl (wr ++ [(b, e0)]) H) (hD : va_D A (wr ++ [(b, e0)])) (hS : va_S A H0 H locs) (hA : ∀ q, H0.size ≤ q → A q)
    (kk : ∀ (H1 : Heap) (locs1 : List Loc) (ad : Nat → Nat), ad 0 = b → va_P D vwCl (wr ++ F ad) H1 → va_D A (wr ++ F ad) → va_S A H0 H1 locs1 → W p l e R s m args below meth c H1 locs1 (cells + k) (slots + n) Q (F0 m (pc + 3) ls rest)) : W p l e R s m args below meth c H locs cells slots Q (F0 m pc ls st0) := by
  intro T hT X
  obtain ⟨v, st₀, t, T', L, h0, X', hL, e1, e2, ⟨⟨hv, ⟨ad, had, hP1, hD1⟩, hK1⟩, hz, hk⟩, st⟩ := hr T hT X
  cases hv
  rw [h0] at hz hk
  have hbq : (wr ++ [(b, e0)])[wr.length]? = some (b, e0) := by rw [List.getElem?_append_right (Nat.le_refl _), Nat.sub_self]; rfl
  have hF : ∀ q, va_A [(b, e0)] H.size q → A q := by
    intro q h
    rcases h with ⟨k2, e, h⟩ | h
    · have hk2 : k2 < 1 := (List.getElem?_eq_some_iff.mp h).1
      rw [show k2 = 0 by omega] at h
      cases h
      exact hD.2 _ _ hbq
    · exact hA q (Nat.le_trans hS.1 h)
  have hwr : ∀ (k : Nat) (q : Nat × va_E), wr[k]? = some q → (wr ++ [(b, e0)])[k]? = some q := fun k q h => by
    rw [List.getElem?_append_left (List.getElem?_eq_some_iff.mp h).1]
    exact h
  have apart : ∀ (k : Nat) (q : Nat × va_E), wr[k]? = some q → q.1 < H.size ∧ ¬ va_A [(b, e0)] H.size q.1 := by
    intro k q hq
    have hl := (hP k q (hwr k q hq)).lt
    refine ⟨hl, fun h => ?_⟩
    rcases h with ⟨k2, e, h⟩ | h
    · have hk2 : k2 < 1 := (List.getElem?_eq_some_iff.mp h).1
      rw [show k2 = 0 by omega] at h
      have hb2 : q.1 = b := (congrArg Prod.fst (Option.some.inj h)).symm
      have hij := hD.1 k wr.length q (b, e0) (hwr k q hq) hbq hb2
      have := (List.getElem?_eq_some_iff.mp hq).1
      omega
    · omega
  have hwh : ∀ (k : Nat) (q : Nat × va_E), (wr ++ F ad)[k]? = some q → (k < wr.length ∧ wr[k]? = some q) ∨ (wr.length ≤ k ∧ (F ad)[k - wr.length]? = some q) := by
    intro k q h
    by_cases hk : k < wr.length
    · rw [List.getElem?_append_left hk] at h
      exact Or.inl ⟨hk, h⟩
    · rw [List.getElem?_append_right (by omega)] at h
      exact Or.inr ⟨by omega, h⟩
  have hP2 : va_P D vwCl (wr ++ F ad) T'.heap := by
    intro k q hq
    rcases hwh k q hq with ⟨h1, h2⟩ | ⟨h1, h2⟩
    · obtain ⟨g1, g2⟩ := apart k q h2
      exact (hP k q (hwr k q h2)).kept (by rw [e1]; exact hk q.1 g1 g2)
    · rw [e1]
      exact hP1 _ q h2
  have hD2 : va_D A (wr ++ F ad) := by
    refine ⟨fun i j x z hx hz9 hxz => ?_, fun k q hq => ?_⟩
    · rcases hwh i x hx with ⟨h1, h2⟩ | ⟨h1, h2⟩ <;> rcases hwh j z hz9 with ⟨h3, h4⟩ | ⟨h3, h4⟩
      · exact hD.1 i j x z (hwr i x h2) (hwr j z h4) hxz
      · exact absurd (hxz ▸ hD1.2 _ z h4) (apart i x h2).2
      · exact absurd (hxz ▸ hD1.2 _ x h2) (apart j z h4).2
      · have := hD1.1 _ _ x z h2 h4 hxz
        omega
    · rcases hwh k q hq with ⟨h1, h2⟩ | ⟨h1, h2⟩
      · exact hD.2 k q (hwr k q h2)
      · exact hF _ (hD1.2 _ q h2)
  obtain ⟨t2, a1, b1⟩ := kk T'.heap (locs ++ L) ad had hP2 hD2
    ⟨Nat.le_trans hS.1 (by rw [e1]; exact hz), fun q h1 h2 => by rw [e1, hk q (Nat.lt_of_lt_of_le h1 hS.1) (fun z => h2 (hF q z))]; exact hS.2.1 q h1 h2, fun q hq => by
      rcases List.mem_append.mp hq with h | h
      · exact hS.2.2 q h
      · exact hF _ (hL q h)⟩ T' rfl X'
  exact ⟨t2, st t2 a1, b1⟩
theorem ci_pre (hK : va_K D vwCl (dTy y) s) (hN : Nst s) (hP : va_P D vwCl (wr ++ [(b, e0)]) H) (hD : va_D A (wr ++ [(b, e0)])) : PreS s H (dPn D y [.ref b] H.size [(b, e0)]) [.ref b] := by
  have hbq : (wr ++ [(b, e0)])[wr.length]? = some (b, e0) := by rw [List.getElem?_append_right (Nat.le_refl _), Nat.sub_self]; rfl
  have hP1 : va_P D vwCl [(b, e0)] H := fun k q hq => by
    have hk2 : k < 1 := (List.getElem?_eq_some_iff.mp hq).1
    rw [show k = 0 by omega] at hq
    cases hq
    exact hP _ _ hbq
  have hD1 : va_D (fun _ => True) [(b, e0)] := ⟨fun i j x z hx hz _ => by
    have h1 := (List.getElem?_eq_some_iff.mp hx).1
    have h2 := (List.getElem?_eq_some_iff.mp hz).1
    simp at h1 h2
    omega, fun _ _ _ => trivial⟩
  exact ⟨dPn_blind, fun U hU hW => ⟨⟨rfl, by rw [hU], by rw [hU]; exact hP1, va_K.moved hW.alike hK, hD1⟩, hN.warm hW⟩⟩
/-- a constructor, called on the newest object -/
theorem ci_call (S : CallFix p m c cc nL s args Ts own) (hM : Ci l D y nm wd fr lo b e0 F k n) (cw : CallB R s args own index nm bytes maxL none wd ({ frames := fr, cells := k, slots := n, locals := lo } : Room) k n 0 ∧ nm.name = "<init>" ∧ (Cond.instanceMethod nm).before args s = true) (hsz : ls.size = nL) (hst : st0 = .ref b :: rest) (hW : (rest.map fun v => v.category).sum ≤ 8) (hdg : decode cc pc = .ok (.invokespecial index, 3)) (hcs : cells + k ≤ R.cells ∧ slots + n ≤ R.slots)
    (hK : va_K D vwCl (dTy y) s) (hN : Nst s) (hP : va_P D vwCl (wr ++ [(b, e0)]) H) (hD : va_D A (wr ++ [(b, e0)])) (hS : va_S A H0 H locs) (hA : ∀ q, H0.size ≤ q → A q)
    (kk : ∀ (H1 : Heap) (locs1 : List Loc) (ad : Nat → Nat), ad 0 = b → va_P D vwCl (wr ++ F ad) H1 → va_D A (wr ++ F ad) → va_S A H0 H1 locs1 → W p l e R s m args below meth c H1 locs1 (cells + k) (slots + n) Q (F0 m (pc + 3) ls rest)) : W p l e R s m args below meth c H locs cells slots Q (F0 m pc ls st0) :=
  ci_go (va_runI (As := []) S (hM H.size) cw (ci_pre hK hN hP hD) rfl rfl hsz hst (lv_room hW) hdg hcs) hP hD hS hA kk
/-- the same, by a link to a nest-mate -/
theorem ci_callN (S : CallFix p m c cc nL s args Ts own) (hM : Ci l D y nm wd fr lo b e0 F k n) (cw : va_CN R s args own index nm host bytes maxL none wd ({ frames := fr, cells := k, slots := n, locals := lo } : Room) k n 0 ∧ nm.name = "<init>" ∧ (Cond.instanceMethod nm).before args s = true) (hsz : ls.size = nL) (hst : st0 = .ref b :: rest) (hW : (rest.map fun v => v.category).sum ≤ 8) (hdg : decode cc pc = .ok (.invokespecial index, 3)) (hcs : cells + k ≤ R.cells ∧ slots + n ≤ R.slots)
    (hK : va_K D vwCl (dTy y) s) (hN : Nst s) (hP : va_P D vwCl (wr ++ [(b, e0)]) H) (hD : va_D A (wr ++ [(b, e0)])) (hS : va_S A H0 H locs) (hA : ∀ q, H0.size ≤ q → A q)
    (kk : ∀ (H1 : Heap) (locs1 : List Loc) (ad : Nat → Nat), ad 0 = b → va_P D vwCl (wr ++ F ad) H1 → va_D A (wr ++ F ad) → va_S A H0 H1 locs1 → W p l e R s m args below meth c H1 locs1 (cells + k) (slots + n) Q (F0 m (pc + 3) ls rest)) : W p l e R s m args below meth c H locs cells slots Q (F0 m pc ls st0) :=
  ci_go (va_runIN (As := []) S (hM H.size) cw (ci_pre hK hN hP hD) rfl rfl hsz hst (lv_room hW) hdg hcs) hP hD hS hA kk
theorem ci_naI (hexec : p.tables.exec = Jvm.exec) (hb : c.code = cc) (harr : (Cond.arrayClass .int).before args s = true) (hK : va_K D vwCl (dTy y) s) (hP : va_P D vwCl ws H) (hD : va_D A ws) (hS : va_S A H0 H locs) (hA : ∀ q, H0.size ≤ q → A q)
    {v : Int32} {N' : Nat} (hn : ¬ v < 0) (hN : v.toNatClampNeg = N') (hbytes : N' * componentBytes .int ≤ 536870912) (hcells : cells + 1 ≤ R.cells) (hslots : slots + N' ≤ R.slots) (hdg : decode cc pc = .ok (.newarray .int, 2))
    (kk : ∀ (q : Nat) (H1 : Heap), va_P D vwCl (ws ++ [(q, .inl (y 1, N', .inl (fun _ => 0)))]) H1 → va_D A (ws ++ [(q, .inl (y 1, N', .inl (fun _ => 0)))]) → va_S A H0 H1 locs → W p l e R s m args below meth c H1 locs (cells + 1) (slots + N') Q (F0 m (pc + 2) ls (.ref q :: rest))) : W p l e R s m args below meth c H locs cells slots Q (F0 m pc ls (.int v :: rest)) := by
  refine va_newa (atype := .int) (ty := .int) (a0 := (N', .inl (fun _ => 0))) hexec hb harr rfl hK hP hD hS hA (fun _ => rfl) hn hN hbytes hcells hslots hdg (fun q cA H1 hK1 hP1 hD1 hS1 => ?_)
  have e1 := va_nm_int (hK1.2 5 (cA, .int) rfl).2
  have e2 := va_nm_int (hK.2 1 (y 1, .int) rfl).2
  have e3 : cA = y 1 := Option.some.inj (e1.symm.trans e2)
  subst e3
  exact kk q H1 hP1 hD1 hS1
theorem ci_naF (hexec : p.tables.exec = Jvm.exec) (hb : c.code = cc) (harr : (Cond.arrayClass .float).before args s = true) (hK : va_K D vwCl (dTy y) s) (hP : va_P D vwCl ws H) (hD : va_D A ws) (hS : va_S A H0 H locs) (hA : ∀ q, H0.size ≤ q → A q)
    {v : Int32} {N' : Nat} (hn : ¬ v < 0) (hN : v.toNatClampNeg = N') (hbytes : N' * componentBytes .float ≤ 536870912) (hcells : cells + 1 ≤ R.cells) (hslots : slots + N' ≤ R.slots) (hdg : decode cc pc = .ok (.newarray .float, 2))
    (kk : ∀ (q : Nat) (H1 : Heap), va_P D vwCl (ws ++ [(q, .inl (y 0, N', .inr (.inr (.inl (fun _ => 0)))))]) H1 → va_D A (ws ++ [(q, .inl (y 0, N', .inr (.inr (.inl (fun _ => 0)))))]) → va_S A H0 H1 locs → W p l e R s m args below meth c H1 locs (cells + 1) (slots + N') Q (F0 m (pc + 2) ls (.ref q :: rest))) : W p l e R s m args below meth c H locs cells slots Q (F0 m pc ls (.int v :: rest)) := by
  refine va_newa (atype := .float) (ty := .float) (a0 := (N', .inr (.inr (.inl (fun _ => 0))))) hexec hb harr rfl hK hP hD hS hA (fun _ => rfl) hn hN hbytes hcells hslots hdg (fun q cA H1 hK1 hP1 hD1 hS1 => ?_)
  have e1 := va_nm_float (hK1.2 5 (cA, .float) rfl).2
  have e2 := va_nm_float (hK.2 0 (y 0, .float) rfl).2
  have e3 : cA = y 0 := Option.some.inj (e1.symm.trans e2)
  subst e3
  exact kk q H1 hP1 hD1 hS1
theorem ci_naZ (hexec : p.tables.exec = Jvm.exec) (hb : c.code = cc) (harr : (Cond.arrayClass .boolean).before args s = true) (hK : va_K D vwCl (dTy y) s) (hP : va_P D vwCl ws H) (hD : va_D A ws) (hS : va_S A H0 H locs) (hA : ∀ q, H0.size ≤ q → A q)
    {v : Int32} {N' : Nat} (hn : ¬ v < 0) (hN : v.toNatClampNeg = N') (hbytes : N' * componentBytes .boolean ≤ 536870912) (hcells : cells + 1 ≤ R.cells) (hslots : slots + N' ≤ R.slots) (hdg : decode cc pc = .ok (.newarray .boolean, 2))
    (kk : ∀ (q : Nat) (H1 : Heap), va_P D vwCl (ws ++ [(q, .inl (y 2, N', .inl (fun _ => 0)))]) H1 → va_D A (ws ++ [(q, .inl (y 2, N', .inl (fun _ => 0)))]) → va_S A H0 H1 locs → W p l e R s m args below meth c H1 locs (cells + 1) (slots + N') Q (F0 m (pc + 2) ls (.ref q :: rest))) : W p l e R s m args below meth c H locs cells slots Q (F0 m pc ls (.int v :: rest)) := by
  refine va_newa (atype := .boolean) (ty := .boolean) (a0 := (N', .inl (fun _ => 0))) hexec hb harr rfl hK hP hD hS hA (fun _ => rfl) hn hN hbytes hcells hslots hdg (fun q cA H1 hK1 hP1 hD1 hS1 => ?_)
  have e1 := va_nm_boolean (hK1.2 5 (cA, .boolean) rfl).2
  have e2 := va_nm_boolean (hK.2 2 (y 2, .boolean) rfl).2
  have e3 : cA = y 2 := Option.some.inj (e1.symm.trans e2)
  subst e3
  exact kk q H1 hP1 hD1 hS1
end CIN
theorem gA_I {y : MethodName} {cc : ByteArray} {n : Nat} {ret : Option FieldType} (h5 : Cond.code y cc n ret ∈ wsL_law) : GoodIn wsL_law (Cond.code y cc n ret :: wsL_law) := fun w hw => by
  have mem : w ∈ wsL_law := (List.mem_cons.mp hw).elim (fun e => e ▸ h5) id
  exact ⟨mem, good_of_word (List.all_eq_true.mp wsL_good w mem)⟩
