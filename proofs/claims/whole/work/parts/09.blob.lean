/-! A WORLD WITH A TAIL: the cells L, each known, and a tail B that is handed on whole -/
section CTP
variable {p : Program} {l : Launch} {e : Env} {R : Room} {s : State} {m : MethodId} {args : Array Value} {below : List Frame} {meth : Method} {c : Code} {H H0 : Heap} {locs : List Loc} {cells slots : Nat} {Q : State → Prop}
variable {cc bytes : ByteArray} {pc nL maxL index n ci q0 N b fr lo : Nat} {ls : Array Slot} {D : va_G} {y : Nat → ClassId} {A : Nat → Prop} {ws ws' wc wc' L L' Lc Lc' B B' : va_W} {Ts wd : List Cond} {own C : String} {T : u_T} {nm : MethodName} {ret : Option FieldType} {rv : Option Value} {As rest st0 : List Value} {fs : List Value} {a : Array Value}
theorem ct_goP (hr : va_Run p l e R s m args below meth c H locs cells slots 0 0 (F0 m pc ls st0) rest (dQ D y rv H.size wc wc' a) (va_A wc H.size)) (hP : va_P D vwCl ws H) (hD : va_D A ws) (hS : va_S A H0 H locs) (hA : ∀ q, H0.size ≤ q → A q)
    (isC : List Nat) (hC : isC.map (fun i => ws[i]?) = wc.map some) (hwh : ∀ (k : Nat) (q : Nat × va_E), ws'[k]? = some q → (k ∉ isC ∧ ws[k]? = some q) ∨ (∃ j : Nat, isC[j]? = some k ∧ wc'[j]? = some q))
    (kk : ∀ (H1 : Heap) (locs1 : List Loc), va_P D vwCl ws' H1 → va_D A ws' → va_S A H0 H1 locs1 → W p l e R s m args below meth c H1 locs1 cells slots Q (F0 m (pc + 3) ls (rv.toList ++ rest))) : W p l e R s m args below meth c H locs cells slots Q (F0 m pc ls st0) := by
  intro T hT X
  obtain ⟨v, st₀, t, T', L, h0, X', hL, e1, e2, ⟨⟨hv, hP1, hK1, hD1⟩, hz, hk⟩, st⟩ := hr T hT X
  cases hv
  rw [h0] at hz hk
  have hF := va_free hD hS hA isC hC
  have apart : ∀ (k : Nat) (q : Nat × va_E), k ∉ isC → ws[k]? = some q → q.1 < H.size ∧ ¬ va_A wc H.size q.1 := by
    intro k q hk1 hq
    have hl := (hP k q hq).lt
    refine ⟨hl, fun h => ?_⟩
    rcases h with ⟨k2, e, h⟩ | h
    · obtain ⟨i, g1, g2⟩ := ct_at hC h
      have hij := hD.1 k i q (q.1, e) hq g2 rfl
      subst hij
      exact hk1 (List.mem_of_getElem? g1)
    · omega
  have hP2 : va_P D vwCl ws' T'.heap := by
    intro k q hq
    rcases hwh k q hq with ⟨h1, h2⟩ | ⟨j, h1, h2⟩
    · obtain ⟨g1, g2⟩ := apart k q h1 h2
      exact (hP k q h2).kept (by rw [e1]; exact hk q.1 g1 g2)
    · rw [e1]; exact hP1 j q h2
  have hD2 : va_D A ws' := by
    refine ⟨fun i j x z hx hz9 hxz => ?_, fun k q hq => ?_⟩
    · rcases hwh i x hx with ⟨h1, h2⟩ | ⟨a1, h1, h2⟩ <;> rcases hwh j z hz9 with ⟨h3, h4⟩ | ⟨a2, h3, h4⟩
      · exact hD.1 i j x z h2 h4 hxz
      · exact absurd (hxz ▸ hD1.2 a2 z h4) (apart i x h1 h2).2
      · exact absurd (hxz ▸ hD1.2 a1 x h2) (apart j z h3 h4).2
      · have := hD1.1 a1 a2 x z h2 h4 hxz
        subst this
        exact Option.some.inj (h1.symm.trans h3)
    · rcases hwh k q hq with ⟨h1, h2⟩ | ⟨j, h1, h2⟩
      · exact hD.2 k q h2
      · exact hF _ (hD1.2 j q h2)
  obtain ⟨t2, a1, b1⟩ := kk T'.heap (locs ++ L) hP2 hD2
    ⟨Nat.le_trans hS.1 (by rw [e1]; exact hz), fun q h1 h2 => by rw [e1, hk q (Nat.lt_of_lt_of_le h1 hS.1) (fun z => h2 (hF q z))]; exact hS.2.1 q h1 h2, fun q hq => by
      rcases List.mem_append.mp hq with h | h
      · exact hS.2.2 q h
      · exact hF _ (hL q h)⟩ T' rfl X'
  exact ⟨t2, st t2 a1, b1⟩
theorem ct_subJ (hD : va_D A ws) (isC : List Nat) (hC : isC.map (fun i => ws[i]?) = wc.map some) (hinj : ∀ i j a : Nat, isC[i]? = some a → isC[j]? = some a → i = j) : va_D A wc := by
  refine ⟨fun i j x z hx hz hxz => ?_, fun k q hq => ?_⟩
  · obtain ⟨a1, h1, h2⟩ := ct_at hC hx
    obtain ⟨a2, h3, h4⟩ := ct_at hC hz
    have := hD.1 a1 a2 x z h2 h4 hxz
    subst this
    exact hinj i j a1 h1 h3
  · obtain ⟨a1, h1, h2⟩ := ct_at hC hq
    exact hD.2 a1 q h2
theorem ct_lt {w : va_W} {is : List Nat} (hC : is.map (fun i => ws[i]?) = w.map some) {i : Nat} (hi : i ∈ is) : i < ws.length := by
  obtain ⟨k, hk⟩ := List.getElem?_of_mem hi
  have h1 : (w.map some)[k]? = some (ws[i]?) := by rw [← hC, List.getElem?_map, hk]; rfl
  rw [List.getElem?_map] at h1
  cases hw : w[k]? with
  | none => rw [hw] at h1; cases h1
  | some x =>
    rw [hw] at h1
    have h2 : ws[i]? = some x := (Option.some.inj h1).symm
    exact (List.getElem?_eq_some_iff.mp h2).1
theorem ct_left {w : va_W} {is : List Nat} (hC : is.map (fun i => L[i]?) = w.map some) (B : va_W) : is.map (fun i => (L ++ B)[i]?) = w.map some := by
  rw [← hC]
  refine List.map_congr_left fun i hi => ?_
  exact List.getElem?_append_left (ct_lt hC hi)
theorem ct_rng (B : va_W) : (List.range B.length).map (fun t => B[t]?) = B.map some := by
  refine List.ext_getElem? fun i => ?_
  rw [List.getElem?_map, List.getElem?_map]
  by_cases h : i < B.length
  · rw [List.getElem?_range h, List.getElem?_eq_getElem h]
    simp [List.getElem?_eq_getElem h]
  · rw [List.getElem?_eq_none (by simpa using h), List.getElem?_eq_none (by simpa using h)]
    rfl
def ct_tail (n k : Nat) : List Nat := (List.range k).map (fun t => n + t)
theorem ct_tailC (L B : va_W) : (ct_tail L.length B.length).map (fun i => (L ++ B)[i]?) = B.map some := by
  unfold ct_tail
  rw [List.map_map, ← ct_rng B]
  refine List.map_congr_left fun t _ => ?_
  show (L ++ B)[L.length + t]? = B[t]?
  rw [List.getElem?_append_right (Nat.le_add_right _ _), Nat.add_sub_cancel_left]
theorem ct_tail_mem {n k i : Nat} : i ∈ ct_tail n k ↔ n ≤ i ∧ i < n + k := by
  unfold ct_tail
  rw [List.mem_map]
  constructor
  · rintro ⟨t, h, rfl⟩
    have := List.mem_range.mp h
    omega
  · rintro ⟨h1, h2⟩
    exact ⟨i - n, List.mem_range.mpr (by omega), by omega⟩
theorem ct_tail_get {n k t : Nat} (h : t < k) : (ct_tail n k)[t]? = some (n + t) := by
  unfold ct_tail
  rw [List.getElem?_map, List.getElem?_range h]
  rfl
theorem ct_tail_len (n k : Nat) : (ct_tail n k).length = k := by simp [ct_tail]
/-- a method of an object, called on a part of the known cells -/
theorem ct_callVL (S : CallFix p m c cc nL s args Ts own) (hM : Ct l D y nm wd fr lo (.ref b :: As) wc wc' rv) (cw : CallW R s args own C index nm bytes maxL ret wd ({ frames := fr, cells := 0, slots := 0, locals := lo } : Room) 0 0 n) (hc : vwCl[ci]? = some (C, T, N)) (he : wc[q0]? = some (b, .inr (ci, fs))) (hn : As.length = n) (hsz : ls.size = nL) (hst : st0 = As.reverse ++ .ref b :: rest) (hW : (rest.map fun v => v.category).sum ≤ 8) (hdg : decode cc pc = .ok (.invokevirtual index, 3)) (hcs : cells ≤ R.cells ∧ slots ≤ R.slots)
    (hK : va_K D vwCl (dTy y) s) (hP : va_P D vwCl (L ++ B) H) (hD : va_D A (L ++ B)) (hS : va_S A H0 H locs) (hA : ∀ q, H0.size ≤ q → A q) (isC isR : List Nat) (hC : isC.map (fun i => L[i]?) = wc.map some) (hC' : isC.map (fun i => L'[i]?) = wc'.map some) (hR : isR.map (fun i => L'[i]?) = isR.map (fun i => L[i]?)) (hcn : va_nd isC = true) (hdis : ∀ i ∈ isR, i ∉ isC) (n' : Nat) (hlen : L.length = n') (hlen' : L'.length = n') (hall : ((List.range n').all fun i => decide (i ∈ isC) || decide (i ∈ isR)) = true)
    (kk : ∀ (H1 : Heap) (locs1 : List Loc), va_P D vwCl (L' ++ B) H1 → va_D A (L' ++ B) → va_S A H0 H1 locs1 → W p l e R s m args below meth c H1 locs1 cells slots Q (F0 m (pc + 3) ls (rv.toList ++ rest))) : W p l e R s m args below meth c H locs cells slots Q (F0 m pc ls st0) := by
  have hC2 := ct_left hC B
  refine ct_goP (va_runV S (hM H.size) cw (ct_preV hK (ct_sub hP hC2) (ct_subD hD isC hC2 hcn) hc he) rfl hn hsz hst (lv_room hW) hdg hcs) hP hD hS hA isC hC2 ?_ kk
  intro k q hq
  by_cases hk : k < n'
  · rw [List.getElem?_append_left (by omega)] at hq
    have h1 := List.all_eq_true.mp hall k (List.mem_range.mpr hk)
    simp only [Bool.or_eq_true, decide_eq_true_eq] at h1
    rcases h1 with h1 | h1
    · exact Or.inr (ct_at' hC' h1 hq)
    · refine Or.inl ⟨hdis k h1, ?_⟩
      rw [List.getElem?_append_left (by omega), ← ct_at2 hR k h1]
      exact hq
  · refine Or.inl ⟨fun h => hk (hlen ▸ ct_lt hC h), ?_⟩
    rw [List.getElem?_append_right (by omega)] at hq ⊢
    rw [hlen] at *
    rw [hlen'] at hq
    exact hq
/-- a method of an object that gets the tail, too -/
theorem ct_callVB (S : CallFix p m c cc nL s args Ts own) (hM : Ct l D y nm wd fr lo (.ref b :: As) (Lc ++ B) (Lc' ++ B') rv) (cw : CallW R s args own C index nm bytes maxL ret wd ({ frames := fr, cells := 0, slots := 0, locals := lo } : Room) 0 0 n) (hc : vwCl[ci]? = some (C, T, N)) (he : (Lc ++ B)[q0]? = some (b, .inr (ci, fs))) (hn : As.length = n) (hsz : ls.size = nL) (hst : st0 = As.reverse ++ .ref b :: rest) (hW : (rest.map fun v => v.category).sum ≤ 8) (hdg : decode cc pc = .ok (.invokevirtual index, 3)) (hcs : cells ≤ R.cells ∧ slots ≤ R.slots)
    (hK : va_K D vwCl (dTy y) s) (hP : va_P D vwCl (L ++ B) H) (hD : va_D A (L ++ B)) (hS : va_S A H0 H locs) (hA : ∀ q, H0.size ≤ q → A q) (isC isR : List Nat) (hC : isC.map (fun i => L[i]?) = Lc.map some) (hC' : isC.map (fun i => L'[i]?) = Lc'.map some) (hR : isR.map (fun i => L'[i]?) = isR.map (fun i => L[i]?)) (hcn : va_nd isC = true) (hdis : ∀ i ∈ isR, i ∉ isC) (n' : Nat) (hlen : L.length = n') (hlen' : L'.length = n') (hall : ((List.range n').all fun i => decide (i ∈ isC) || decide (i ∈ isR)) = true) (hB : B'.length = B.length)
    (kk : ∀ (H1 : Heap) (locs1 : List Loc), va_P D vwCl (L' ++ B') H1 → va_D A (L' ++ B') → va_S A H0 H1 locs1 → W p l e R s m args below meth c H1 locs1 cells slots Q (F0 m (pc + 3) ls (rv.toList ++ rest))) : W p l e R s m args below meth c H locs cells slots Q (F0 m pc ls st0) := by
  have hlt : ∀ i ∈ isC, i < L.length := fun i h => ct_lt hC h
  have hC2 : (isC ++ ct_tail L.length B.length).map (fun i => (L ++ B)[i]?) = (Lc ++ B).map some := by
    rw [List.map_append, List.map_append, ct_left hC B, ct_tailC]
  have hlc : Lc'.length = isC.length := by
    have := congrArg List.length hC'
    simpa using this.symm
  have hinj : ∀ i j a : Nat, (isC ++ ct_tail L.length B.length)[i]? = some a → (isC ++ ct_tail L.length B.length)[j]? = some a → i = j := by
    intro i j a hi hj
    have key : ∀ i : Nat, (isC ++ ct_tail L.length B.length)[i]? = some a → (isC[i]? = some a ∧ a < L.length) ∨ (L.length ≤ a ∧ i = isC.length + (a - L.length)) := by
      intro i hi
      by_cases h : i < isC.length
      · rw [List.getElem?_append_left h] at hi
        exact Or.inl ⟨hi, hlt a (List.mem_of_getElem? hi)⟩
      · rw [List.getElem?_append_right (by omega)] at hi
        by_cases h2 : i - isC.length < B.length
        · rw [ct_tail_get h2] at hi
          have := Option.some.inj hi
          exact Or.inr ⟨by omega, by omega⟩
        · rw [List.getElem?_eq_none (by rw [ct_tail_len]; omega)] at hi
          cases hi
    rcases key i hi with ⟨h1, h2⟩ | ⟨h1, h2⟩ <;> rcases key j hj with ⟨h3, h4⟩ | ⟨h3, h4⟩
    · exact va_nd_inj isC hcn i j a h1 h3
    · omega
    · omega
    · omega
  refine ct_goP (va_runV S (hM H.size) cw (ct_preV hK (ct_sub hP hC2) (ct_subJ hD _ hC2 hinj) hc he) rfl hn hsz hst (lv_room hW) hdg hcs) hP hD hS hA _ hC2 ?_ kk
  intro k q hq
  by_cases hk : k < n'
  · rw [List.getElem?_append_left (by omega)] at hq
    have h1 := List.all_eq_true.mp hall k (List.mem_range.mpr hk)
    simp only [Bool.or_eq_true, decide_eq_true_eq] at h1
    rcases h1 with h1 | h1
    · obtain ⟨j, g1, g2⟩ := ct_at' hC' h1 hq
      have hj : j < isC.length := (List.getElem?_eq_some_iff.mp g1).1
      refine Or.inr ⟨j, ?_, ?_⟩
      · rw [List.getElem?_append_left hj]; exact g1
      · rw [List.getElem?_append_left (by omega)]; exact g2
    · refine Or.inl ⟨fun h => ?_, ?_⟩
      · rcases List.mem_append.mp h with h | h
        · exact hdis k h1 h
        · have := ct_tail_mem.mp h
          omega
      · rw [List.getElem?_append_left (by omega), ← ct_at2 hR k h1]
        exact hq
  · have hlq : k - L'.length < B'.length := by
      rw [List.getElem?_append_right (by omega)] at hq
      exact (List.getElem?_eq_some_iff.mp hq).1
    refine Or.inr ⟨isC.length + (k - L.length), ?_, ?_⟩
    · rw [List.getElem?_append_right (Nat.le_add_right _ _), Nat.add_sub_cancel_left, ct_tail_get (by omega)]
      congr 1
      omega
    · rw [List.getElem?_append_right (by omega)] at hq ⊢
      rw [show isC.length + (k - L.length) - Lc'.length = k - L'.length by omega]
      exact hq
end CTP
/-! a run of cells, or two, in a longer world -/
theorem sg1 {L L' : va_W} (i n : Nat) (h1 : L'.take i = L.take i) (h2 : L'.drop (i + n) = L.drop (i + n)) : ∀ k : Nat, k ∉ ct_tail i n → L'[k]? = L[k]? := by
  intro k hk
  rw [ct_tail_mem] at hk
  by_cases h : k < i
  · have := congrArg (fun l => l[k]?) h1
    simpa [List.getElem?_take, h] using this
  · have := congrArg (fun l => l[k - (i + n)]?) h2
    simp only [List.getElem?_drop] at this
    rw [show i + n + (k - (i + n)) = k by omega] at this
    exact this
theorem sg2 {L L' : va_W} {isC : List Nat} (i n j m : Nat) (hij : i + n ≤ j) (h1 : L'.take i = L.take i) (h2 : (L'.drop (i + n)).take (j - (i + n)) = (L.drop (i + n)).take (j - (i + n))) (h3 : L'.drop (j + m) = L.drop (j + m)) (hC : ∀ k, k ∉ isC → k ∉ ct_tail i n ++ ct_tail j m) : ∀ k : Nat, k ∉ isC → L'[k]? = L[k]? := by
  intro k hk
  have hk := hC k hk
  rw [List.mem_append, ct_tail_mem, ct_tail_mem] at hk
  by_cases h : k < i
  · have := congrArg (fun l => l[k]?) h1
    simpa [List.getElem?_take, h] using this
  · by_cases h' : k < j
    · have := congrArg (fun l => l[k - (i + n)]?) h2
      simp only [List.getElem?_take, List.getElem?_drop] at this
      rw [if_pos (by omega), if_pos (by omega), show i + n + (k - (i + n)) = k by omega] at this
      exact this
    · have := congrArg (fun l => l[k - (j + m)]?) h3
      simp only [List.getElem?_drop] at this
      rw [show j + m + (k - (j + m)) = k by omega] at this
      exact this
section CTS
variable {p : Program} {l : Launch} {e : Env} {R : Room} {s : State} {m : MethodId} {args : Array Value} {below : List Frame} {meth : Method} {c : Code} {H H0 : Heap} {locs : List Loc} {cells slots : Nat} {Q : State → Prop}
variable {cc bytes : ByteArray} {pc nL maxL index n ci q0 N b fr lo : Nat} {ls : Array Slot} {D : va_G} {y : Nat → ClassId} {A : Nat → Prop} {wc wc' L L' B : va_W} {Ts wd : List Cond} {own C : String} {T : u_T} {nm : MethodName} {ret : Option FieldType} {rv : Option Value} {As rest st0 : List Value} {fs : List Value} {a : Array Value}
/-- a method of an object, called on runs of the known cells -/
theorem ct_callVS (S : CallFix p m c cc nL s args Ts own) (hM : Ct l D y nm wd fr lo (.ref b :: As) wc wc' rv) (cw : CallW R s args own C index nm bytes maxL ret wd ({ frames := fr, cells := 0, slots := 0, locals := lo } : Room) 0 0 n) (hc : vwCl[ci]? = some (C, T, N)) (he : wc[q0]? = some (b, .inr (ci, fs))) (hn : As.length = n) (hsz : ls.size = nL) (hst : st0 = As.reverse ++ .ref b :: rest) (hW : (rest.map fun v => v.category).sum ≤ 8) (hdg : decode cc pc = .ok (.invokevirtual index, 3)) (hcs : cells ≤ R.cells ∧ slots ≤ R.slots)
    (hK : va_K D vwCl (dTy y) s) (hP : va_P D vwCl (L ++ B) H) (hD : va_D A (L ++ B)) (hS : va_S A H0 H locs) (hA : ∀ q, H0.size ≤ q → A q) (isC : List Nat) (hC : isC.map (fun i => L[i]?) = wc.map some) (hC' : isC.map (fun i => L'[i]?) = wc'.map some) (hcn : va_nd isC = true) (hlen : L'.length = L.length) (hR : ∀ i : Nat, i ∉ isC → L'[i]? = L[i]?)
    (kk : ∀ (H1 : Heap) (locs1 : List Loc), va_P D vwCl (L' ++ B) H1 → va_D A (L' ++ B) → va_S A H0 H1 locs1 → W p l e R s m args below meth c H1 locs1 cells slots Q (F0 m (pc + 3) ls (rv.toList ++ rest))) : W p l e R s m args below meth c H locs cells slots Q (F0 m pc ls st0) := by
  have hC2 := ct_left hC B
  refine ct_goP (va_runV S (hM H.size) cw (ct_preV hK (ct_sub hP hC2) (ct_subD hD isC hC2 hcn) hc he) rfl hn hsz hst (lv_room hW) hdg hcs) hP hD hS hA isC hC2 ?_ kk
  intro k q hq
  by_cases hk : k < L.length
  · rw [List.getElem?_append_left (by omega)] at hq
    by_cases h1 : k ∈ isC
    · exact Or.inr (ct_at' hC' h1 hq)
    · refine Or.inl ⟨h1, ?_⟩
      rw [List.getElem?_append_left hk, ← hR k h1]
      exact hq
  · refine Or.inl ⟨fun h => hk (ct_lt hC h), ?_⟩
    rw [List.getElem?_append_right (by omega)] at hq ⊢
    rw [hlen] at hq
    exact hq
end CTS
