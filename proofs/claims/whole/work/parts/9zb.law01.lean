/-! THE CLAIM OUT OF ONE WALK OF THE LAW'S BODY. Your part is whole_start (and what it stands on); all else here is the same for every law, but numbers. -/
def R_law : String := "DraughtsTakeLaw"
def lw_P (b : Addr) (xs : List Int32) (args : Array Value) (s : State) : Prop := args = #[.ref b] ∧ s.IntsAt b xs ∧ xs.length ≤ 3072 ∧ (Jvm.Cond.and given_1 narrow_1).before args s = true
/-- what a walk over the start with the record d0 says of its end, said of the start itself -/
theorem lw_closed {s t : State} {o : Outcome} {d0 : Drawn} {L : List Loc} {k n : Nat} (hd0 : s.drawn.sameBut d0 lw_cs) (hv : ∃ v, o = .returned v) (hW : (s.setDrawn d0).WarmedH t.vm) (hs : (s.setDrawn d0).sameButNew ({ t with vm := s.vm } : State) L k n) : State.butDraws s t lw_cs (fun t1 => Framed s o t1 L k n) := by
  have h2 : t.drawn = d0 := congrArg State.drawn hs.1
  refine ⟨⟨hv, hW, State.sameButNew.setDrawn hs s.drawn⟩, ?_, by decide⟩
  rw [h2]
  exact hd0
def lw_Q (_ : Array Value) (s : State) (o : Outcome) (t : State) : Prop := o = .returned (some (.int 1)) ∧ State.butDraws s t lw_cs (fun t1 => Framed s o t1 [] 600000 7302249)
def lw_Z (below : List Frame) (a : Array Value) (s : State) : State → Prop := fun t => ∃ o, t.status = .running ∧ Ended t below o ∧ lw_Q a s o t
/-- the law's own end, with 1 on the stack, nothing written that was there before, its room as the claim has it; d0: the record of draws at this point (at the entry s.drawn: begin with 'refine W.base ?_' and 'have hd0 := Drawn.sameBut.refl s.drawn lw_cs') -/
theorem lw_ret {p : Program} {l : Launch} {e : Env} {s : State} {m : MethodId} {below : List Frame} {meth : Method} {c : Code} {b : Nat} {d0 : Drawn} (hd0 : s.drawn.sameBut d0 lw_cs) (hx : p.tables.exec = Jvm.exec) (hb : c.code = code) (hr : meth.sig.returnType = ret) (hlocks : meth.locks = false) {pc : Nat} {H : Heap} {ls : Array Slot} (hdg : decode code pc = .ok (.ireturn, 1)) : W p l e room_1 (s.setDrawn d0) m #[Value.ref b] below meth c H [] 600000 7302249 (lw_Z below #[Value.ref b] s) (F0 m pc ls [.int 1]) := by
  intro T hT X
  obtain ⟨fs, hret, hrun, hended, hW, hframe⟩ := X.leave (v := some (.int 1)) (hlocks := hlocks) (fun h => by rw [hr] at h; cases h)
  have hmeth' : T.vm.method? m = some meth := X.method'
  refine ⟨T.setFrames fs, ?_, .returned (some (.int 1)), hrun, hended, rfl, lw_closed hd0 ⟨_, rfl⟩ hW hframe⟩
  jvm_step X.here [X.here.top, hx, hb, hdg, hmeth', hr, ret, narrow_b1]
  (try refine ⟨rfl, ?_⟩); (try refine ⟨rfl, ?_⟩)
  first | (intro acts; rw [hret _ acts rfl rfl rfl]) | rw [hret _ _ rfl rfl rfl]
  exact Steps.refl _
/-- what holds at the law's entry: the machine, the code, the tables' words (any of lw_tbl by 'hts w (by decide +kernel)'), the script of L ints xs at the cell b, what the Statement gives of the start (any of its parts by flat_of_before) -/
def lw_At (p : Program) (s : State) (m : MethodId) (meth : Method) (c : Code) (b L : Nat) (xs : Nat → Int32) : Prop :=
  p.tables.exec = Jvm.exec ∧ c.code = code ∧ meth.sig.returnType = ret ∧ c.maxLocals = 4 ∧ s.vm.findClass R_law = some m.cls ∧ (∀ w ∈ lw_tbl, w.before #[Value.ref b] s = true) ∧ va_X b L xs s s.heap ∧ b < s.heap.size ∧ meth.locks = false ∧ (Jvm.Cond.and given_1 narrow_1).before #[Value.ref b] s = true
/-! the law: calls in the world of both objects -/
section LWC
variable {p : Program} {l : Launch} {e : Env} {R : Room} {s : State} {m : MethodId} {args : Array Value} {below : List Frame} {meth : Method} {c : Code} {H H0 : Heap} {locs : List Loc} {cells slots : Nat} {Q : State → Prop}
variable {cc bytes : ByteArray} {pc nL maxL index n ci q0 N b fr lo : Nat} {ls : Array Slot} {D : va_G} {y : Nat → ClassId} {A : Nat → Prop} {wc wc' B : va_W} {Ts wd : List Cond} {own C : String} {T : u_T} {nm : MethodName} {ret : Option FieldType} {rv : Option Value} {As rest st0 : List Value} {fs : List Value} {a : Array Value}
theorem lw_callL (S : CallFix p m c cc nL s args Ts own) (hM : Ct l D y nm wd fr lo (.ref b :: As) wc wc' rv) (cw : CallW R s args own C index nm bytes maxL ret wd ({ frames := fr, cells := 0, slots := 0, locals := lo } : Room) 0 0 n) (hc : vwCl[ci]? = some (C, T, N)) (he : wc[q0]? = some (b, .inr (ci, fs))) (hn : As.length = n) (hsz : ls.size = nL) (hst : st0 = As.reverse ++ .ref b :: rest) (hW : (rest.map fun v => v.category).sum ≤ 8) (hdg : decode cc pc = .ok (.invokevirtual index, 3)) (hcs : cells ≤ R.cells ∧ slots ≤ R.slots)
    (hK : va_K D vwCl (dTy y) s) (hP : va_P D vwCl (wc ++ B) H) (hD : va_D A (wc ++ B)) (hS : va_S A H0 H locs) (hA : ∀ q, H0.size ≤ q → A q) (hlen : wc'.length = wc.length)
    (kk : ∀ (H1 : Heap) (locs1 : List Loc), va_P D vwCl (wc' ++ B) H1 → va_D A (wc' ++ B) → va_S A H0 H1 locs1 → W p l e R s m args below meth c H1 locs1 cells slots Q (F0 m (pc + 3) ls (rv.toList ++ rest))) : W p l e R s m args below meth c H locs cells slots Q (F0 m pc ls st0) := by
  have hC2 : (List.range wc.length).map (fun i => (wc ++ B)[i]?) = wc.map some := ct_left (ct_rng wc) B
  have hg : ∀ i a : Nat, (List.range wc.length)[i]? = some a → i = a := by
    intro i a h
    by_cases z : i < wc.length
    · rw [List.getElem?_range z] at h
      exact Option.some.inj h
    · rw [List.getElem?_eq_none (by simpa using z)] at h
      cases h
  refine ct_goP (va_runV S (hM H.size) cw (ct_preV hK (ct_sub hP hC2) (ct_subJ hD _ hC2 (fun i j a h1 h2 => (hg i a h1).trans (hg j a h2).symm)) hc he) rfl hn hsz hst (lv_room hW) hdg hcs) hP hD hS hA _ hC2 ?_ kk
  intro k q hq
  by_cases hk : k < wc.length
  · rw [List.getElem?_append_left (by omega)] at hq
    exact Or.inr ⟨k, List.getElem?_range hk, hq⟩
  · refine Or.inl ⟨fun h => hk (List.mem_range.mp h), ?_⟩
    rw [List.getElem?_append_right (by omega)] at hq ⊢
    rw [hlen] at hq
    exact hq
theorem lw_callR (S : CallFix p m c cc nL s args Ts own) (hM : Ct l D y nm wd fr lo (.ref b :: As) wc wc' rv) (cw : CallW R s args own C index nm bytes maxL ret wd ({ frames := fr, cells := 0, slots := 0, locals := lo } : Room) 0 0 n) (hc : vwCl[ci]? = some (C, T, N)) (he : wc[q0]? = some (b, .inr (ci, fs))) (hn : As.length = n) (hsz : ls.size = nL) (hst : st0 = As.reverse ++ .ref b :: rest) (hW : (rest.map fun v => v.category).sum ≤ 8) (hdg : decode cc pc = .ok (.invokevirtual index, 3)) (hcs : cells ≤ R.cells ∧ slots ≤ R.slots)
    (hK : va_K D vwCl (dTy y) s) (hP : va_P D vwCl (B ++ wc) H) (hD : va_D A (B ++ wc)) (hS : va_S A H0 H locs) (hA : ∀ q, H0.size ≤ q → A q) (hlen : wc'.length = wc.length)
    (kk : ∀ (H1 : Heap) (locs1 : List Loc), va_P D vwCl (B ++ wc') H1 → va_D A (B ++ wc') → va_S A H0 H1 locs1 → W p l e R s m args below meth c H1 locs1 cells slots Q (F0 m (pc + 3) ls (rv.toList ++ rest))) : W p l e R s m args below meth c H locs cells slots Q (F0 m pc ls st0) := by
  have hC2 := ct_tailC B wc
  have hg : ∀ i a : Nat, (ct_tail B.length wc.length)[i]? = some a → a = B.length + i := by
    intro i a h
    by_cases z : i < wc.length
    · rw [ct_tail_get z] at h
      exact (Option.some.inj h).symm
    · rw [List.getElem?_eq_none (by rw [ct_tail_len]; omega)] at h
      cases h
  refine ct_goP (va_runV S (hM H.size) cw (ct_preV hK (ct_sub hP hC2) (ct_subJ hD _ hC2 (fun i j a h1 h2 => by have := hg i a h1; have := hg j a h2; omega)) hc he) rfl hn hsz hst (lv_room hW) hdg hcs) hP hD hS hA _ hC2 ?_ kk
  intro k q hq
  by_cases hk : k < B.length
  · rw [List.getElem?_append_left hk] at hq
    refine Or.inl ⟨fun h => ?_, ?_⟩
    · have := ct_tail_mem.mp h
      omega
    · rw [List.getElem?_append_left hk]
      exact hq
  · rw [List.getElem?_append_right (by omega)] at hq
    have hlq := (List.getElem?_eq_some_iff.mp hq).1
    exact Or.inr ⟨k - B.length, by rw [ct_tail_get (by omega)]; congr 1; omega, hq⟩
end LWC
theorem lw_add {x x' z z' : Nat} (h1 : x = x') (h2 : z = z') : x + z = x' + z' := by rw [h1, h2]
theorem W6_len {y : Nat → ClassId} {a : Nat → Nat} {s t : S6} : (W6 y a t).length = (W6 y a s).length := by
  unfold W6
  rw [List.length_append, List.length_append]
  exact lw_add rfl w_blob_len
theorem W7_len {y : Nat → ClassId} {a : Nat → Nat} {s t : S7} : (W7 y a t).length = (W7 y a s).length := rfl
/-- the walk stands at pc, the states s6 and s7, the count i -/
def lw_go (p : Program) (l : Launch) (e : Env) (s : State) (m : MethodId) (below : List Frame) (meth : Method) (c : Code) (b : Nat) (D : va_G) (y : Nat → ClassId) (a a2 : Nat → Nat) (i : Nat) (pc : Nat) (s6 : S6) (s7 : S7) : Prop := ∀ (H : Heap) (locs : List Loc) (ls : Array Slot), va_P D vwCl (W6 y a s6 ++ W7 y a2 s7) H → va_D (fun q : Nat => s.heap.size ≤ q) (W6 y a s6 ++ W7 y a2 s7) → va_S (fun q : Nat => s.heap.size ≤ q) s.heap H locs → lv_has ls 4 [(0, .ref b), (1, .ref (a 0)), (2, .ref (a2 0)), (3, .int (nI i))] → W p l e room_1 s m #[Value.ref b] below meth c H locs 600000 7302249 (lw_Z below #[Value.ref b] s) (F0 m pc ls [])
theorem lw_ix {L i j : Nat} (hL : L ≤ 3072) (hi : i + 6 ≤ L) (hj : j < 6) {x : Int32} (hx : x = nI j) : vp_in (nI i + x) L := by
  rw [hx, nI_add]
  exact vp_in_nI (by omega) (by omega)
