/-! THE PAST'S HOUSES: one after the other in a tail, eleven cells each -/
theorem bl_len {f : Nat → va_W} (hl : ∀ i, (f i).length = 11) : ∀ n : Nat, ((List.range n).flatMap f).length = 11 * n := by
  intro n
  induction n with
  | zero => rfl
  | succ n ih => rw [List.range_succ, List.flatMap_append, List.length_append, ih, List.flatMap_cons, List.flatMap_nil, List.append_nil, hl]; omega
theorem bl_get {f : Nat → va_W} (hl : ∀ i, (f i).length = 11) : ∀ (n j k : Nat), j < n → k < 11 → ((List.range n).flatMap f)[11 * j + k]? = (f j)[k]? := by
  intro n
  induction n with
  | zero => intro j k h; omega
  | succ n ih =>
    intro j k h hk
    have h1 := bl_len hl n
    rw [List.range_succ, List.flatMap_append, List.flatMap_cons, List.flatMap_nil, List.append_nil]
    by_cases hj : j < n
    · rw [List.getElem?_append_left (by omega)]
      exact ih j k hj hk
    · have : j = n := by omega
      subst this
      rw [List.getElem?_append_right (by omega), h1, Nat.add_sub_cancel_left]
def bl_ix (o j : Nat) : List Nat := (List.range 11).map (fun k => o + (1 + 11 * j + k))
theorem bl_ix_mem {o j i : Nat} : i ∈ bl_ix o j ↔ o + (1 + 11 * j) ≤ i ∧ i < o + (1 + 11 * j) + 11 := by
  unfold bl_ix
  rw [List.mem_map]
  constructor
  · rintro ⟨t, h, rfl⟩
    have := List.mem_range.mp h
    omega
  · rintro ⟨h1, h2⟩
    exact ⟨i - (o + (1 + 11 * j)), List.mem_range.mpr (by omega), by omega⟩
theorem bl_ix_get {o j r : Nat} (h : r < 11) : (bl_ix o j)[r]? = some (o + (1 + 11 * j + r)) := by
  unfold bl_ix
  rw [List.getElem?_map, List.getElem?_range h]
  rfl
theorem bl_ix_len (o j : Nat) : (bl_ix o j).length = 11 := by simp [bl_ix]
theorem bl_at {L : va_W} {x : Nat × va_E} {f : Nat → va_W} (hl : ∀ i, (f i).length = 11) {j r : Nat} (hj : j < 8) (hr : r < 11) : (L ++ (x :: (List.range 8).flatMap f))[L.length + (1 + 11 * j + r)]? = (f j)[r]? := by
  rw [List.getElem?_append_right (Nat.le_add_right _ _), Nat.add_sub_cancel_left, show 1 + 11 * j + r = (11 * j + r) + 1 by omega, List.getElem?_cons_succ]
  exact bl_get hl 8 j r hj hr
theorem bl_map {L : va_W} {x : Nat × va_E} {f : Nat → va_W} (hl : ∀ i, (f i).length = 11) {j : Nat} (hj : j < 8) : (bl_ix L.length j).map (fun i => (L ++ (x :: (List.range 8).flatMap f))[i]?) = (f j).map some := by
  unfold bl_ix
  rw [List.map_map, ← ct_rng (f j), hl]
  refine List.map_congr_left fun t ht => ?_
  exact bl_at hl hj (List.mem_range.mp ht)
/-- the cell at a place of the tail, by its house -/
theorem bl_split {L : va_W} {x : Nat × va_E} {f : Nat → va_W} (hl : ∀ i, (f i).length = 11) {k : Nat} {q : Nat × va_E} (h : (L ++ (x :: (List.range 8).flatMap f))[k]? = some q) : (k < L.length ∧ L[k]? = some q) ∨ (k = L.length ∧ q = x) ∨ ∃ i r : Nat, i < 8 ∧ r < 11 ∧ k = L.length + (1 + 11 * i + r) ∧ (f i)[r]? = some q := by
  by_cases h1 : k < L.length
  · rw [List.getElem?_append_left h1] at h
    exact Or.inl ⟨h1, h⟩
  · by_cases h2 : k = L.length
    · subst h2
      rw [List.getElem?_append_right (Nat.le_refl _), Nat.sub_self, List.getElem?_cons_zero] at h
      exact Or.inr (Or.inl ⟨rfl, (Option.some.inj h).symm⟩)
    · refine Or.inr (Or.inr ⟨(k - L.length - 1) / 11, (k - L.length - 1) % 11, ?_, Nat.mod_lt _ (by omega), by omega, ?_⟩)
      · have := (List.getElem?_eq_some_iff.mp h).1
        rw [List.length_append, List.length_cons, bl_len hl] at this
        omega
      · have h3 : (k - L.length - 1) / 11 < 8 := by
          have := (List.getElem?_eq_some_iff.mp h).1
          rw [List.length_append, List.length_cons, bl_len hl] at this
          omega
        rw [← bl_at (L := L) (x := x) hl h3 (Nat.mod_lt _ (by omega))]
        rw [show L.length + (1 + 11 * ((k - L.length - 1) / 11) + (k - L.length - 1) % 11) = k by omega]
        exact h
theorem bl_inj {P Q : List Nat} (hp : ∀ i j a : Nat, P[i]? = some a → P[j]? = some a → i = j) (hq : ∀ i j a : Nat, Q[i]? = some a → Q[j]? = some a → i = j) (hx : ∀ a ∈ P, a ∉ Q) : ∀ i j a : Nat, (P ++ Q)[i]? = some a → (P ++ Q)[j]? = some a → i = j := by
  intro i j a hi hj
  have key : ∀ i : Nat, (P ++ Q)[i]? = some a → (P[i]? = some a ∧ i < P.length) ∨ (P.length ≤ i ∧ Q[i - P.length]? = some a) := by
    intro i hi
    by_cases h : i < P.length
    · rw [List.getElem?_append_left h] at hi
      exact Or.inl ⟨hi, h⟩
    · rw [List.getElem?_append_right (by omega)] at hi
      exact Or.inr ⟨by omega, hi⟩
  rcases key i hi with ⟨h1, h2⟩ | ⟨h1, h2⟩ <;> rcases key j hj with ⟨h3, h4⟩ | ⟨h3, h4⟩
  · exact hp i j a h1 h3
  · exact absurd (List.mem_of_getElem? h4) (hx a (List.mem_of_getElem? h1))
  · exact absurd (List.mem_of_getElem? h2) (hx a (List.mem_of_getElem? h3))
  · have := hq _ _ a h2 h4
    omega
theorem bl_ix_inj (o j : Nat) : ∀ i k a : Nat, (bl_ix o j)[i]? = some a → (bl_ix o j)[k]? = some a → i = k := by
  intro i k a hi hk
  have h1 : i < 11 := by have := (List.getElem?_eq_some_iff.mp hi).1; rwa [bl_ix_len] at this
  have h2 : k < 11 := by have := (List.getElem?_eq_some_iff.mp hk).1; rwa [bl_ix_len] at this
  rw [bl_ix_get h1] at hi
  rw [bl_ix_get h2] at hk
  have := Option.some.inj (hi.trans hk.symm)
  omega
theorem bl_or {P Q : List Nat} {U V : va_W} (hl : P.length = U.length) {k : Nat} {q : Nat × va_E} (h : (∃ t : Nat, P[t]? = some k ∧ U[t]? = some q) ∨ (∃ t : Nat, Q[t]? = some k ∧ V[t]? = some q)) : ∃ j : Nat, (P ++ Q)[j]? = some k ∧ (U ++ V)[j]? = some q := by
  rcases h with ⟨t, h1, h2⟩ | ⟨t, h1, h2⟩
  · have := (List.getElem?_eq_some_iff.mp h1).1
    exact ⟨t, by rw [List.getElem?_append_left this]; exact h1, by rw [List.getElem?_append_left (by omega)]; exact h2⟩
  · refine ⟨P.length + t, ?_, ?_⟩
    · rw [List.getElem?_append_right (Nat.le_add_right _ _), Nat.add_sub_cancel_left]; exact h1
    · rw [List.getElem?_append_right (by omega), hl, Nat.add_sub_cancel_left]; exact h2
section CTB
variable {p : Program} {l : Launch} {e : Env} {R : Room} {s : State} {m : MethodId} {args : Array Value} {below : List Frame} {meth : Method} {c : Code} {H H0 : Heap} {locs : List Loc} {cells slots : Nat} {Q : State → Prop}
variable {cc bytes : ByteArray} {pc nL maxL index n ci q0 N b fr lo j : Nat} {ls : Array Slot} {D : va_G} {y : Nat → ClassId} {A : Nat → Prop} {L L' Lc Lc' : va_W} {x : Nat × va_E} {f f' : Nat → va_W} {Ts wd : List Cond} {own C : String} {T : u_T} {nm : MethodName} {ret : Option FieldType} {rv : Option Value} {As rest st0 : List Value} {fs : List Value} {a : Array Value}
/-- a method of the house at place j, with cells of L as its arguments' -/
theorem ct_callVK (hl : ∀ i, (f i).length = 11) (hl' : ∀ i, (f' i).length = 11) (hj : j < 8) (ho : ∀ i, i ≠ j → f' i = f i)
    (S : CallFix p m c cc nL s args Ts own) (hM : Ct l D y nm wd fr lo (.ref b :: As) (f j ++ Lc) (f' j ++ Lc') rv) (cw : CallW R s args own C index nm bytes maxL ret wd ({ frames := fr, cells := 0, slots := 0, locals := lo } : Room) 0 0 n) (hc : vwCl[ci]? = some (C, T, N)) (he : (f j ++ Lc)[q0]? = some (b, .inr (ci, fs))) (hn : As.length = n) (hsz : ls.size = nL) (hst : st0 = As.reverse ++ .ref b :: rest) (hW : (rest.map fun v => v.category).sum ≤ 8) (hdg : decode cc pc = .ok (.invokevirtual index, 3)) (hcs : cells ≤ R.cells ∧ slots ≤ R.slots)
    (hK : va_K D vwCl (dTy y) s) (hP : va_P D vwCl (L ++ (x :: (List.range 8).flatMap f)) H) (hD : va_D A (L ++ (x :: (List.range 8).flatMap f))) (hS : va_S A H0 H locs) (hA : ∀ q, H0.size ≤ q → A q) (iL : List Nat) (hC : iL.map (fun i => L[i]?) = Lc.map some) (hC' : iL.map (fun i => L'[i]?) = Lc'.map some) (hcn : va_nd iL = true) (hlen : L'.length = L.length) (hR : ∀ i : Nat, i ∉ iL → L'[i]? = L[i]?)
    (kk : ∀ (H1 : Heap) (locs1 : List Loc), va_P D vwCl (L' ++ (x :: (List.range 8).flatMap f')) H1 → va_D A (L' ++ (x :: (List.range 8).flatMap f')) → va_S A H0 H1 locs1 → W p l e R s m args below meth c H1 locs1 cells slots Q (F0 m (pc + 3) ls (rv.toList ++ rest))) : W p l e R s m args below meth c H locs cells slots Q (F0 m pc ls st0) := by
  have hlt : ∀ i ∈ iL, i < L.length := fun i h => ct_lt hC h
  have hC2 : (bl_ix L.length j ++ iL).map (fun i => (L ++ (x :: (List.range 8).flatMap f))[i]?) = (f j ++ Lc).map some := by
    rw [List.map_append, List.map_append, bl_map hl hj, ct_left hC]
  have hinj := bl_inj (P := bl_ix L.length j) (Q := iL) (bl_ix_inj _ _) (va_nd_inj iL hcn) (fun a h1 h2 => by have := bl_ix_mem.mp h1; have := hlt a h2; omega)
  refine ct_goP (va_runV S (hM H.size) cw (ct_preV hK (ct_sub hP hC2) (ct_subJ hD _ hC2 hinj) hc he) rfl hn hsz hst (lv_room hW) hdg hcs) hP hD hS hA _ hC2 ?_ kk
  intro k q hq
  rcases bl_split hl' hq with ⟨h1, h2⟩ | ⟨h1, h2⟩ | ⟨i, r, h1, h2, h3, h4⟩
  · by_cases hk : k ∈ iL
    · exact Or.inr (bl_or (by rw [bl_ix_len, hl']) (Or.inr (ct_at' hC' hk h2)))
    · refine Or.inl ⟨fun h => ?_, ?_⟩
      · rcases List.mem_append.mp h with h | h
        · have := bl_ix_mem.mp h
          omega
        · exact hk h
      · rw [List.getElem?_append_left (by omega), ← hR k hk]
        exact h2
  · refine Or.inl ⟨fun h => ?_, ?_⟩
    · rcases List.mem_append.mp h with h | h
      · have := bl_ix_mem.mp h
        omega
      · have := hlt k h
        omega
    · rw [List.getElem?_append_right (by omega), show k - L.length = 0 by omega, List.getElem?_cons_zero, h2]
  · by_cases hi : i = j
    · subst hi
      refine Or.inr (bl_or (by rw [bl_ix_len, hl']) (Or.inl ⟨r, ?_, h4⟩))
      rw [bl_ix_get h2, h3, hlen]
    · refine Or.inl ⟨fun h => ?_, ?_⟩
      · rcases List.mem_append.mp h with h | h
        · have := bl_ix_mem.mp h
          omega
        · have := hlt k h
          omega
      · rw [h3, hlen, bl_at hl h1 h2, ← ho i hi]
        exact h4
/-- a method of an object in L, with the house at place j as its argument -/
theorem ct_callVG (hl : ∀ i, (f i).length = 11) (hj : j < 8)
    (S : CallFix p m c cc nL s args Ts own) (hM : Ct l D y nm wd fr lo (.ref b :: As) (Lc ++ f j) (Lc' ++ f j) rv) (cw : CallW R s args own C index nm bytes maxL ret wd ({ frames := fr, cells := 0, slots := 0, locals := lo } : Room) 0 0 n) (hc : vwCl[ci]? = some (C, T, N)) (he : (Lc ++ f j)[q0]? = some (b, .inr (ci, fs))) (hn : As.length = n) (hsz : ls.size = nL) (hst : st0 = As.reverse ++ .ref b :: rest) (hW : (rest.map fun v => v.category).sum ≤ 8) (hdg : decode cc pc = .ok (.invokevirtual index, 3)) (hcs : cells ≤ R.cells ∧ slots ≤ R.slots)
    (hK : va_K D vwCl (dTy y) s) (hP : va_P D vwCl (L ++ (x :: (List.range 8).flatMap f)) H) (hD : va_D A (L ++ (x :: (List.range 8).flatMap f))) (hS : va_S A H0 H locs) (hA : ∀ q, H0.size ≤ q → A q) (iL : List Nat) (hC : iL.map (fun i => L[i]?) = Lc.map some) (hC' : iL.map (fun i => L'[i]?) = Lc'.map some) (hcn : va_nd iL = true) (hlen : L'.length = L.length) (hR : ∀ i : Nat, i ∉ iL → L'[i]? = L[i]?)
    (kk : ∀ (H1 : Heap) (locs1 : List Loc), va_P D vwCl (L' ++ (x :: (List.range 8).flatMap f)) H1 → va_D A (L' ++ (x :: (List.range 8).flatMap f)) → va_S A H0 H1 locs1 → W p l e R s m args below meth c H1 locs1 cells slots Q (F0 m (pc + 3) ls (rv.toList ++ rest))) : W p l e R s m args below meth c H locs cells slots Q (F0 m pc ls st0) := by
  have hlt : ∀ i ∈ iL, i < L.length := fun i h => ct_lt hC h
  have hC2 : (iL ++ bl_ix L.length j).map (fun i => (L ++ (x :: (List.range 8).flatMap f))[i]?) = (Lc ++ f j).map some := by
    rw [List.map_append, List.map_append, bl_map hl hj, ct_left hC]
  have hlc : iL.length = Lc'.length := by
    have := congrArg List.length hC'
    simpa using this
  have hinj := bl_inj (P := iL) (Q := bl_ix L.length j) (va_nd_inj iL hcn) (bl_ix_inj _ _) (fun a h1 h2 => by have := bl_ix_mem.mp h2; have := hlt a h1; omega)
  refine ct_goP (va_runV S (hM H.size) cw (ct_preV hK (ct_sub hP hC2) (ct_subJ hD _ hC2 hinj) hc he) rfl hn hsz hst (lv_room hW) hdg hcs) hP hD hS hA _ hC2 ?_ kk
  intro k q hq
  rcases bl_split hl hq with ⟨h1, h2⟩ | ⟨h1, h2⟩ | ⟨i, r, h1, h2, h3, h4⟩
  · by_cases hk : k ∈ iL
    · exact Or.inr (bl_or hlc (Or.inl (ct_at' hC' hk h2)))
    · refine Or.inl ⟨fun h => ?_, ?_⟩
      · rcases List.mem_append.mp h with h | h
        · exact hk h
        · have := bl_ix_mem.mp h
          omega
      · rw [List.getElem?_append_left (by omega), ← hR k hk]
        exact h2
  · refine Or.inl ⟨fun h => ?_, ?_⟩
    · rcases List.mem_append.mp h with h | h
      · have := hlt k h
        omega
      · have := bl_ix_mem.mp h
        omega
    · rw [List.getElem?_append_right (by omega), show k - L.length = 0 by omega, List.getElem?_cons_zero, h2]
  · by_cases hi : i = j
    · subst hi
      refine Or.inr (bl_or hlc (Or.inr ⟨r, ?_, h4⟩))
      rw [bl_ix_get h2, h3, hlen]
    · refine Or.inl ⟨fun h => ?_, ?_⟩
      · rcases List.mem_append.mp h with h | h
        · have := hlt k h
          omega
        · have := bl_ix_mem.mp h
          omega
      · rw [h3, hlen, bl_at hl h1 h2]
        exact h4
end CTB
def blF (y : Nat → ClassId) (ad : Nat → Nat) (k0 : (Nat → Int64)) (k1 : (Nat → Int32)) (k2 : (Nat → Int32)) (k3 : (Nat → Int32)) (k4 : (Nat → Int32)) (k5 : (Nat → Int32)) (k6 : (Nat → Int32)) (k7 : (Nat → Nat → UInt32)) (k8 : (Nat → Nat → Int32)) (k9 : (Nat → Nat → Int32)) (k10 : (Nat → Nat → Int32)) (k11 : (Nat → Nat → Int32)) (k12 : (Nat → Nat → Int32)) (k13 : (Nat → Nat → Int32)) (k14 : (Nat → Int32)) (k15 : (Nat → Nat → Int32)) (k16 : (Nat → Nat → Int32)) : Nat → va_W := fun i => w_X2 y (fun k => ad (1 + 11 * i + k)) (k0 i) (k1 i) (k2 i) (k3 i) (k4 i) (k5 i) (k6 i) (k7 i) (k8 i) (k9 i) (k10 i) (k11 i) (k12 i) (k13 i) (k14 i) (k15 i) (k16 i)
def w_blob (y : Nat → ClassId) (ad : Nat → Nat) (k0 : (Nat → Int64)) (k1 : (Nat → Int32)) (k2 : (Nat → Int32)) (k3 : (Nat → Int32)) (k4 : (Nat → Int32)) (k5 : (Nat → Int32)) (k6 : (Nat → Int32)) (k7 : (Nat → Nat → UInt32)) (k8 : (Nat → Nat → Int32)) (k9 : (Nat → Nat → Int32)) (k10 : (Nat → Nat → Int32)) (k11 : (Nat → Nat → Int32)) (k12 : (Nat → Nat → Int32)) (k13 : (Nat → Nat → Int32)) (k14 : (Nat → Int32)) (k15 : (Nat → Nat → Int32)) (k16 : (Nat → Nat → Int32)) : va_W := ((ad 0), .inl (y 3, 8, .inr (.inr (.inr (.inr (fun i => if i < 8 then some (ad (1 + 11 * i)) else none)))))) :: (List.range 8).flatMap (blF y ad k0 k1 k2 k3 k4 k5 k6 k7 k8 k9 k10 k11 k12 k13 k14 k15 k16)
theorem blF_len {y : Nat → ClassId} {ad : Nat → Nat} {k0 : (Nat → Int64)} {k1 : (Nat → Int32)} {k2 : (Nat → Int32)} {k3 : (Nat → Int32)} {k4 : (Nat → Int32)} {k5 : (Nat → Int32)} {k6 : (Nat → Int32)} {k7 : (Nat → Nat → UInt32)} {k8 : (Nat → Nat → Int32)} {k9 : (Nat → Nat → Int32)} {k10 : (Nat → Nat → Int32)} {k11 : (Nat → Nat → Int32)} {k12 : (Nat → Nat → Int32)} {k13 : (Nat → Nat → Int32)} {k14 : (Nat → Int32)} {k15 : (Nat → Nat → Int32)} {k16 : (Nat → Nat → Int32)} : ∀ i, (blF y ad k0 k1 k2 k3 k4 k5 k6 k7 k8 k9 k10 k11 k12 k13 k14 k15 k16 i).length = 11 := fun _ => rfl
theorem w_blob_len {y y2 : Nat → ClassId} {ad ad2 : Nat → Nat} {k0 : (Nat → Int64)} {k1 : (Nat → Int32)} {k2 : (Nat → Int32)} {k3 : (Nat → Int32)} {k4 : (Nat → Int32)} {k5 : (Nat → Int32)} {k6 : (Nat → Int32)} {k7 : (Nat → Nat → UInt32)} {k8 : (Nat → Nat → Int32)} {k9 : (Nat → Nat → Int32)} {k10 : (Nat → Nat → Int32)} {k11 : (Nat → Nat → Int32)} {k12 : (Nat → Nat → Int32)} {k13 : (Nat → Nat → Int32)} {k14 : (Nat → Int32)} {k15 : (Nat → Nat → Int32)} {k16 : (Nat → Nat → Int32)} {u0 : (Nat → Int64)} {u1 : (Nat → Int32)} {u2 : (Nat → Int32)} {u3 : (Nat → Int32)} {u4 : (Nat → Int32)} {u5 : (Nat → Int32)} {u6 : (Nat → Int32)} {u7 : (Nat → Nat → UInt32)} {u8 : (Nat → Nat → Int32)} {u9 : (Nat → Nat → Int32)} {u10 : (Nat → Nat → Int32)} {u11 : (Nat → Nat → Int32)} {u12 : (Nat → Nat → Int32)} {u13 : (Nat → Nat → Int32)} {u14 : (Nat → Int32)} {u15 : (Nat → Nat → Int32)} {u16 : (Nat → Nat → Int32)} : (w_blob y ad k0 k1 k2 k3 k4 k5 k6 k7 k8 k9 k10 k11 k12 k13 k14 k15 k16).length = (w_blob y2 ad2 u0 u1 u2 u3 u4 u5 u6 u7 u8 u9 u10 u11 u12 u13 u14 u15 u16).length := by
  unfold w_blob
  rw [List.length_cons, List.length_cons, bl_len blF_len, bl_len blF_len]
theorem blF_up {y : Nat → ClassId} {ad : Nat → Nat} {j : Nat} {k0 : (Nat → Int64)} {k1 : (Nat → Int32)} {k2 : (Nat → Int32)} {k3 : (Nat → Int32)} {k4 : (Nat → Int32)} {k5 : (Nat → Int32)} {k6 : (Nat → Int32)} {k7 : (Nat → Nat → UInt32)} {k8 : (Nat → Nat → Int32)} {k9 : (Nat → Nat → Int32)} {k10 : (Nat → Nat → Int32)} {k11 : (Nat → Nat → Int32)} {k12 : (Nat → Nat → Int32)} {k13 : (Nat → Nat → Int32)} {k14 : (Nat → Int32)} {k15 : (Nat → Nat → Int32)} {k16 : (Nat → Nat → Int32)} {z0 : Int64} {z1 : Int32} {z2 : Int32} {z3 : Int32} {z4 : Int32} {z5 : Int32} {z6 : Int32} {z7 : (Nat → UInt32)} {z8 : (Nat → Int32)} {z9 : (Nat → Int32)} {z10 : (Nat → Int32)} {z11 : (Nat → Int32)} {z12 : (Nat → Int32)} {z13 : (Nat → Int32)} {z14 : Int32} {z15 : (Nat → Int32)} {z16 : (Nat → Int32)} : blF y ad (va_up k0 j z0) (va_up k1 j z1) (va_up k2 j z2) (va_up k3 j z3) (va_up k4 j z4) (va_up k5 j z5) (va_up k6 j z6) (va_up k7 j z7) (va_up k8 j z8) (va_up k9 j z9) (va_up k10 j z10) (va_up k11 j z11) (va_up k12 j z12) (va_up k13 j z13) (va_up k14 j z14) (va_up k15 j z15) (va_up k16 j z16) j = w_X2 y (fun k => ad (1 + 11 * j + k)) z0 z1 z2 z3 z4 z5 z6 z7 z8 z9 z10 z11 z12 z13 z14 z15 z16 := by
  unfold blF
  simp only [va_up_self]
theorem blF_ne {y : Nat → ClassId} {ad : Nat → Nat} {i j : Nat} {k0 : (Nat → Int64)} {k1 : (Nat → Int32)} {k2 : (Nat → Int32)} {k3 : (Nat → Int32)} {k4 : (Nat → Int32)} {k5 : (Nat → Int32)} {k6 : (Nat → Int32)} {k7 : (Nat → Nat → UInt32)} {k8 : (Nat → Nat → Int32)} {k9 : (Nat → Nat → Int32)} {k10 : (Nat → Nat → Int32)} {k11 : (Nat → Nat → Int32)} {k12 : (Nat → Nat → Int32)} {k13 : (Nat → Nat → Int32)} {k14 : (Nat → Int32)} {k15 : (Nat → Nat → Int32)} {k16 : (Nat → Nat → Int32)} {z0 : Int64} {z1 : Int32} {z2 : Int32} {z3 : Int32} {z4 : Int32} {z5 : Int32} {z6 : Int32} {z7 : (Nat → UInt32)} {z8 : (Nat → Int32)} {z9 : (Nat → Int32)} {z10 : (Nat → Int32)} {z11 : (Nat → Int32)} {z12 : (Nat → Int32)} {z13 : (Nat → Int32)} {z14 : Int32} {z15 : (Nat → Int32)} {z16 : (Nat → Int32)} (h : i ≠ j) : blF y ad (va_up k0 j z0) (va_up k1 j z1) (va_up k2 j z2) (va_up k3 j z3) (va_up k4 j z4) (va_up k5 j z5) (va_up k6 j z6) (va_up k7 j z7) (va_up k8 j z8) (va_up k9 j z9) (va_up k10 j z10) (va_up k11 j z11) (va_up k12 j z12) (va_up k13 j z13) (va_up k14 j z14) (va_up k15 j z15) (va_up k16 j z16) i = blF y ad k0 k1 k2 k3 k4 k5 k6 k7 k8 k9 k10 k11 k12 k13 k14 k15 k16 i := by
  unfold blF
  simp only [va_up, if_neg h]
def w_X3_keep (y : Nat → ClassId) (a : Nat → Nat) (b : Nat → Nat) (p_next : Int32) (p_count : Int32) (o_shutBits : Int64) (o_airs : Int32) (o_crownedBits : Int32) (o_sitters : Int32) (o_onBits : Int32) (o_turn : Int32) (o_taken : Int32) (o_warmth : (Nat → UInt32)) (o_kind : (Nat → Int32)) (o_figure : (Nat → Int32)) (o_airCell : (Nat → Int32)) (o_way : (Nat → Int32)) (o_seat : (Nat → Int32)) (o_shawls : (Nat → Int32)) (o_count : Int32) (o_steps : (Nat → Int32)) (o_numbers : (Nat → Int32)) : va_W := [((a 0), .inr (2, [.ref (a 1), .int p_next, .int p_count])), ((b 0), .inr (1, [.ref (b 1), .long o_shutBits, .int o_airs, .ref (b 2), .ref (b 3), .ref (b 4), .ref (b 5), .int o_crownedBits, .int o_sitters, .ref (b 6), .ref (b 7), .int o_onBits, .int o_turn, .int o_taken, .ref (b 8)])), ((b 1), .inl (y 0, 36, .inr (.inr (.inl o_warmth)))), ((b 2), .inl (y 1, 5, .inl o_kind)), ((b 3), .inl (y 1, 5, .inl o_figure)), ((b 4), .inl (y 1, 5, .inl o_airCell)), ((b 5), .inl (y 1, 5, .inl o_way)), ((b 6), .inl (y 1, 6, .inl o_seat)), ((b 7), .inl (y 1, 6, .inl o_shawls)), ((b 8), .inr (0, [.ref (b 9), .ref (b 10), .int o_count])), ((b 9), .inl (y 1, 6, .inl o_steps)), ((b 10), .inl (y 1, 6, .inl o_numbers))]
noncomputable def f_X3_keep (p_next : Int32) (p_count : Int32) (o_shutBits : Int64) (o_airs : Int32) (o_crownedBits : Int32) (o_sitters : Int32) (o_onBits : Int32) (o_turn : Int32) (o_taken : Int32) (o_warmth : (Nat → UInt32)) (o_kind : (Nat → Int32)) (o_figure : (Nat → Int32)) (o_airCell : (Nat → Int32)) (o_way : (Nat → Int32)) (o_seat : (Nat → Int32)) (o_shawls : (Nat → Int32)) (o_count : Int32) (o_steps : (Nat → Int32)) (o_numbers : (Nat → Int32)) (p_k_shutBits : (Nat → Int64)) (p_k_airs : (Nat → Int32)) (p_k_crownedBits : (Nat → Int32)) (p_k_sitters : (Nat → Int32)) (p_k_onBits : (Nat → Int32)) (p_k_turn : (Nat → Int32)) (p_k_taken : (Nat → Int32)) (p_k_warmth : (Nat → Nat → UInt32)) (p_k_kind : (Nat → Nat → Int32)) (p_k_figure : (Nat → Nat → Int32)) (p_k_airCell : (Nat → Nat → Int32)) (p_k_way : (Nat → Nat → Int32)) (p_k_seat : (Nat → Nat → Int32)) (p_k_shawls : (Nat → Nat → Int32)) (p_k_count : (Nat → Int32)) (p_k_steps : (Nat → Nat → Int32)) (p_k_numbers : (Nat → Nat → Int32)) : Option (Int32 × Int32 × (Nat → Int64) × (Nat → Int32) × (Nat → Int32) × (Nat → Int32) × (Nat → Int32) × (Nat → Int32) × (Nat → Int32) × (Nat → Nat → UInt32) × (Nat → Nat → Int32) × (Nat → Nat → Int32) × (Nat → Nat → Int32) × (Nat → Nat → Int32) × (Nat → Nat → Int32) × (Nat → Nat → Int32) × (Nat → Int32) × (Nat → Nat → Int32) × (Nat → Nat → Int32)) := dq_gd (vp_in p_next 8) (dq_let p_next.toNatClampNeg (fun (j_2 : Nat) => dq_bd17 (f_X2_take (p_k_warmth j_2) (p_k_kind j_2) (p_k_figure j_2) (p_k_airCell j_2) (p_k_way j_2) (p_k_seat j_2) (p_k_shawls j_2) (p_k_steps j_2) (p_k_numbers j_2) o_shutBits o_airs o_crownedBits o_sitters o_onBits o_turn o_taken o_warmth o_kind o_figure o_airCell o_way o_seat o_shawls o_count o_steps o_numbers) (fun (p_k_shutBits_3 : Int64) (p_k_airs_4 : Int32) (p_k_crownedBits_5 : Int32) (p_k_sitters_6 : Int32) (p_k_onBits_7 : Int32) (p_k_turn_8 : Int32) (p_k_taken_9 : Int32) (p_k_warmth_10 : (Nat → UInt32)) (p_k_kind_11 : (Nat → Int32)) (p_k_figure_12 : (Nat → Int32)) (p_k_airCell_13 : (Nat → Int32)) (p_k_way_14 : (Nat → Int32)) (p_k_seat_15 : (Nat → Int32)) (p_k_shawls_16 : (Nat → Int32)) (p_k_count_17 : Int32) (p_k_steps_18 : (Nat → Int32)) (p_k_numbers_19 : (Nat → Int32)) => dq_let ((p_next + (1 : Int32)) - (p_next + (1 : Int32)) / (8 : Int32) * (8 : Int32)) (fun (x21 : Int32) => dq_let (if (8 : Int32) < (p_count + (1 : Int32)) then (8 : Int32) else (p_count + (1 : Int32))) (fun (x22 : Int32) => some (x21, x22, (va_up p_k_shutBits j_2 p_k_shutBits_3), (va_up p_k_airs j_2 p_k_airs_4), (va_up p_k_crownedBits j_2 p_k_crownedBits_5), (va_up p_k_sitters j_2 p_k_sitters_6), (va_up p_k_onBits j_2 p_k_onBits_7), (va_up p_k_turn j_2 p_k_turn_8), (va_up p_k_taken j_2 p_k_taken_9), (va_up p_k_warmth j_2 p_k_warmth_10), (va_up p_k_kind j_2 p_k_kind_11), (va_up p_k_figure j_2 p_k_figure_12), (va_up p_k_airCell j_2 p_k_airCell_13), (va_up p_k_way j_2 p_k_way_14), (va_up p_k_seat j_2 p_k_seat_15), (va_up p_k_shawls j_2 p_k_shawls_16), (va_up p_k_count j_2 p_k_count_17), (va_up p_k_steps j_2 p_k_steps_18), (va_up p_k_numbers j_2 p_k_numbers_19)))))))
def wA_X3_keep : List Cond := .code yX3_keep cX3_keep 2 none :: wsL_law
-- DraughtsTake$Past.keep(LDraughtsTake$House;)V
set_option maxHeartbeats 4000000 in
set_option maxRecDepth 100000 in
theorem m_X3_keep (l : Launch) (D : va_G) (y : Nat → ClassId) (a : (Nat → Nat)) (b : (Nat → Nat)) (p_next : Int32) (p_count : Int32) (o_shutBits : Int64) (o_airs : Int32) (o_crownedBits : Int32) (o_sitters : Int32) (o_onBits : Int32) (o_turn : Int32) (o_taken : Int32) (o_warmth : (Nat → UInt32)) (o_kind : (Nat → Int32)) (o_figure : (Nat → Int32)) (o_airCell : (Nat → Int32)) (o_way : (Nat → Int32)) (o_seat : (Nat → Int32)) (o_shawls : (Nat → Int32)) (o_count : Int32) (o_steps : (Nat → Int32)) (o_numbers : (Nat → Int32)) (p_k_shutBits : (Nat → Int64)) (p_k_airs : (Nat → Int32)) (p_k_crownedBits : (Nat → Int32)) (p_k_sitters : (Nat → Int32)) (p_k_onBits : (Nat → Int32)) (p_k_turn : (Nat → Int32)) (p_k_taken : (Nat → Int32)) (p_k_warmth : (Nat → Nat → UInt32)) (p_k_kind : (Nat → Nat → Int32)) (p_k_figure : (Nat → Nat → Int32)) (p_k_airCell : (Nat → Nat → Int32)) (p_k_way : (Nat → Nat → Int32)) (p_k_seat : (Nat → Nat → Int32)) (p_k_shawls : (Nat → Nat → Int32)) (p_k_count : (Nat → Int32)) (p_k_steps : (Nat → Nat → Int32)) (p_k_numbers : (Nat → Nat → Int32)) (z0 : Int32) (z1 : Int32) (z2 : (Nat → Int64)) (z3 : (Nat → Int32)) (z4 : (Nat → Int32)) (z5 : (Nat → Int32)) (z6 : (Nat → Int32)) (z7 : (Nat → Int32)) (z8 : (Nat → Int32)) (z9 : (Nat → Nat → UInt32)) (z10 : (Nat → Nat → Int32)) (z11 : (Nat → Nat → Int32)) (z12 : (Nat → Nat → Int32)) (z13 : (Nat → Nat → Int32)) (z14 : (Nat → Nat → Int32)) (z15 : (Nat → Nat → Int32)) (z16 : (Nat → Int32)) (z17 : (Nat → Nat → Int32)) (z18 : (Nat → Nat → Int32)) (hf : f_X3_keep p_next p_count o_shutBits o_airs o_crownedBits o_sitters o_onBits o_turn o_taken o_warmth o_kind o_figure o_airCell o_way o_seat o_shawls o_count o_steps o_numbers p_k_shutBits p_k_airs p_k_crownedBits p_k_sitters p_k_onBits p_k_turn p_k_taken p_k_warmth p_k_kind p_k_figure p_k_airCell p_k_way p_k_seat p_k_shawls p_k_count p_k_steps p_k_numbers = some (z0, z1, z2, z3, z4, z5, z6, z7, z8, z9, z10, z11, z12, z13, z14, z15, z16, z17, z18)) : Ct l D y yX3_keep wA_X3_keep 3 82 [.ref (a 0), .ref (b 0)] ((w_X3_keep y a b p_next p_count o_shutBits o_airs o_crownedBits o_sitters o_onBits o_turn o_taken o_warmth o_kind o_figure o_airCell o_way o_seat o_shawls o_count o_steps o_numbers) ++ (w_blob y (fun k => a (1 + k)) p_k_shutBits p_k_airs p_k_crownedBits p_k_sitters p_k_onBits p_k_turn p_k_taken p_k_warmth p_k_kind p_k_figure p_k_airCell p_k_way p_k_seat p_k_shawls p_k_count p_k_steps p_k_numbers)) ((w_X3_keep y a b z0 z1 o_shutBits o_airs o_crownedBits o_sitters o_onBits o_turn o_taken o_warmth o_kind o_figure o_airCell o_way o_seat o_shawls o_count o_steps o_numbers) ++ (w_blob y (fun k => a (1 + k)) z2 z3 z4 z5 z6 z7 z8 z9 z10 z11 z12 z13 z14 z15 z16 z17 z18)) none := by
  refine ct_head (cc := cX3_keep) (n := 2) (ret := none) (by decide) rfl (Nat.le_of_ble_eq_true rfl) ?_
  intro p e s m below meth c A ls hx hb hr hml hown hlocks hts hA hAe hP hK hD hl
  have hS : va_S A s.heap s.heap [] := va_S.rf
  have hl : lv_has ls 2 [(0, .ref (a 0)), (1, .ref (b 0))] := hl
  have hown : s.vm.findClass RX3 = some m.cls := hown
  have hts : ∀ w ∈ wsL_law, w.before [.ref (a 0), .ref (b 0)].toArray s = true := fun w h => hts w (List.mem_cons_of_mem _ h)
  unfold f_X3_keep at hf
  refine lv_aload_n hx hb dX3_keep_0 rfl (lv_at hl 0 rfl) ?_
  refine va_get (D := D) (ci := 2) (v := .ref (a 1)) (C := RX3) (T := TX3) (N := 3) hx hb hts iwX3 hown hK hP 0 rfl rfl 0 (by decide) (hts _ wl_62) (fun _ h9 => h9) rfl dX3_keep_1 ?_
  refine lv_aload_n hx hb dX3_keep_4 rfl (lv_at hl 0 rfl) ?_
  refine va_get (D := D) (ci := 2) (v := .int p_next) (C := RX3) (T := TX3) (N := 3) hx hb hts iwX3 hown hK hP 0 rfl rfl 1 (by decide) (hts _ wl_644) (fun _ h9 => h9) rfl dX3_keep_5 ?_
  obtain ⟨h1, hf⟩ := dq_g hf
  obtain ⟨j_2, ej_2⟩ : ∃ z : Nat, z = p_next.toNatClampNeg := ⟨_, rfl⟩
  have hf := dq_l hf j_2 ej_2
  have hj_2 : j_2 < 8 := by rw [ej_2]; exact Nat.not_le.mp fun q => h1 (Or.inr q)
  refine dq_aldH (cA := y 3) (n := 8) (b := (a (1 + (1 + 11 * j_2)))) (f := (fun i => if i < 8 then some (a (1 + (1 + 11 * i))) else none)) hx hb hK hP 12 3 rfl rfl h1 (by rw [← ej_2]; exact if_pos hj_2) dX3_keep_8 ?_
  refine lv_aload_n hx hb dX3_keep_9 rfl (lv_at hl 1 rfl) ?_
  obtain ⟨p_k_shutBits_3, p_k_airs_4, p_k_crownedBits_5, p_k_sitters_6, p_k_onBits_7, p_k_turn_8, p_k_taken_9, p_k_warmth_10, p_k_kind_11, p_k_figure_12, p_k_airCell_13, p_k_way_14, p_k_seat_15, p_k_shawls_16, p_k_count_17, p_k_steps_18, p_k_numbers_19, hy20, hf⟩ := dq_b17 hf
  refine ct_callVK (ci := 1) (q0 := 0) (f := (blF y (fun k => a (1 + k)) p_k_shutBits p_k_airs p_k_crownedBits p_k_sitters p_k_onBits p_k_turn p_k_taken p_k_warmth p_k_kind p_k_figure p_k_airCell p_k_way p_k_seat p_k_shawls p_k_count p_k_steps p_k_numbers)) (f' := (blF y (fun k => a (1 + k)) (va_up p_k_shutBits j_2 p_k_shutBits_3) (va_up p_k_airs j_2 p_k_airs_4) (va_up p_k_crownedBits j_2 p_k_crownedBits_5) (va_up p_k_sitters j_2 p_k_sitters_6) (va_up p_k_onBits j_2 p_k_onBits_7) (va_up p_k_turn j_2 p_k_turn_8) (va_up p_k_taken j_2 p_k_taken_9) (va_up p_k_warmth j_2 p_k_warmth_10) (va_up p_k_kind j_2 p_k_kind_11) (va_up p_k_figure j_2 p_k_figure_12) (va_up p_k_airCell j_2 p_k_airCell_13) (va_up p_k_way j_2 p_k_way_14) (va_up p_k_seat j_2 p_k_seat_15) (va_up p_k_shawls j_2 p_k_shawls_16) (va_up p_k_count j_2 p_k_count_17) (va_up p_k_steps j_2 p_k_steps_18) (va_up p_k_numbers j_2 p_k_numbers_19))) (own := RX3) (As := [.ref (b 0)]) (rest := []) (L := (w_X3_keep y a b p_next p_count o_shutBits o_airs o_crownedBits o_sitters o_onBits o_turn o_taken o_warmth o_kind o_figure o_airCell o_way o_seat o_shawls o_count o_steps o_numbers)) (L' := (w_X3_keep y a b p_next p_count o_shutBits o_airs o_crownedBits o_sitters o_onBits o_turn o_taken o_warmth o_kind o_figure o_airCell o_way o_seat o_shawls o_count o_steps o_numbers)) (Lc := (w_X2 y b o_shutBits o_airs o_crownedBits o_sitters o_onBits o_turn o_taken o_warmth o_kind o_figure o_airCell o_way o_seat o_shawls o_count o_steps o_numbers)) (Lc' := (w_X2 y b o_shutBits o_airs o_crownedBits o_sitters o_onBits o_turn o_taken o_warmth o_kind o_figure o_airCell o_way o_seat o_shawls o_count o_steps o_numbers)) (blF_len) (blF_len) hj_2 (fun i hi => blF_ne hi) ⟨hx, hb, hml, hown, hts⟩ (by rw [blF_up]; exact m_X2_take l D y (fun k => a (1 + (1 + 11 * j_2 + k))) b (p_k_shutBits j_2) (p_k_airs j_2) (p_k_crownedBits j_2) (p_k_sitters j_2) (p_k_onBits j_2) (p_k_turn j_2) (p_k_taken j_2) (p_k_warmth j_2) (p_k_kind j_2) (p_k_figure j_2) (p_k_airCell j_2) (p_k_way j_2) (p_k_seat j_2) (p_k_shawls j_2) (p_k_count j_2) (p_k_steps j_2) (p_k_numbers j_2) o_shutBits o_airs o_crownedBits o_sitters o_onBits o_turn o_taken o_warmth o_kind o_figure o_airCell o_way o_seat o_shawls o_count o_steps o_numbers p_k_shutBits_3 p_k_airs_4 p_k_crownedBits_5 p_k_sitters_6 p_k_onBits_7 p_k_turn_8 p_k_taken_9 p_k_warmth_10 p_k_kind_11 p_k_figure_12 p_k_airCell_13 p_k_way_14 p_k_seat_15 p_k_shawls_16 p_k_count_17 p_k_steps_18 p_k_numbers_19 hy20) (cwV 1 hts (gA_V wl_646 wl_177 wl_178 wl_14 wl_179) rfl rfl rfl (by decide +kernel) ⟨Nat.le_of_ble_eq_true rfl, Nat.le_of_ble_eq_true rfl⟩) rfl rfl rfl hl.1 rfl (Nat.le_of_ble_eq_true rfl) dX3_keep_10 ⟨Nat.zero_le _, Nat.zero_le _⟩ hK hP hD hS hA [1, 2, 3, 4, 5, 6, 7, 8, 9, 10, 11] rfl rfl (by decide) rfl (fun _ _ => rfl) (fun H locs hP hD hS => ?_)
  have hP : va_P D vwCl ((w_X3_keep y a b p_next p_count o_shutBits o_airs o_crownedBits o_sitters o_onBits o_turn o_taken o_warmth o_kind o_figure o_airCell o_way o_seat o_shawls o_count o_steps o_numbers) ++ (w_blob y (fun k => a (1 + k)) (va_up p_k_shutBits j_2 p_k_shutBits_3) (va_up p_k_airs j_2 p_k_airs_4) (va_up p_k_crownedBits j_2 p_k_crownedBits_5) (va_up p_k_sitters j_2 p_k_sitters_6) (va_up p_k_onBits j_2 p_k_onBits_7) (va_up p_k_turn j_2 p_k_turn_8) (va_up p_k_taken j_2 p_k_taken_9) (va_up p_k_warmth j_2 p_k_warmth_10) (va_up p_k_kind j_2 p_k_kind_11) (va_up p_k_figure j_2 p_k_figure_12) (va_up p_k_airCell j_2 p_k_airCell_13) (va_up p_k_way j_2 p_k_way_14) (va_up p_k_seat j_2 p_k_seat_15) (va_up p_k_shawls j_2 p_k_shawls_16) (va_up p_k_count j_2 p_k_count_17) (va_up p_k_steps j_2 p_k_steps_18) (va_up p_k_numbers j_2 p_k_numbers_19))) H := hP
  have hD : va_D A ((w_X3_keep y a b p_next p_count o_shutBits o_airs o_crownedBits o_sitters o_onBits o_turn o_taken o_warmth o_kind o_figure o_airCell o_way o_seat o_shawls o_count o_steps o_numbers) ++ (w_blob y (fun k => a (1 + k)) (va_up p_k_shutBits j_2 p_k_shutBits_3) (va_up p_k_airs j_2 p_k_airs_4) (va_up p_k_crownedBits j_2 p_k_crownedBits_5) (va_up p_k_sitters j_2 p_k_sitters_6) (va_up p_k_onBits j_2 p_k_onBits_7) (va_up p_k_turn j_2 p_k_turn_8) (va_up p_k_taken j_2 p_k_taken_9) (va_up p_k_warmth j_2 p_k_warmth_10) (va_up p_k_kind j_2 p_k_kind_11) (va_up p_k_figure j_2 p_k_figure_12) (va_up p_k_airCell j_2 p_k_airCell_13) (va_up p_k_way j_2 p_k_way_14) (va_up p_k_seat j_2 p_k_seat_15) (va_up p_k_shawls j_2 p_k_shawls_16) (va_up p_k_count j_2 p_k_count_17) (va_up p_k_steps j_2 p_k_steps_18) (va_up p_k_numbers j_2 p_k_numbers_19))) := hD
  refine lv_aload_n hx hb dX3_keep_13 rfl (lv_at hl 0 rfl) ?_
  refine lv_aload_n hx hb dX3_keep_14 rfl (lv_at hl 0 rfl) ?_
  refine va_get (D := D) (ci := 2) (v := .int p_next) (C := RX3) (T := TX3) (N := 3) hx hb hts iwX3 hown hK hP 0 rfl rfl 1 (by decide) (hts _ wl_644) (fun _ h9 => h9) rfl dX3_keep_15 ?_
  refine lv_iconst (v := 1) hx hb dX3_keep_18 (by decide) ?_
  refine lv_iadd hx hb dX3_keep_19 ?_
  refine lv_bipush (v := 8) hx hb dX3_keep_20 (by decide) ?_
  refine lv_irem hx hb dX3_keep_22 (by decide) ?_
  refine lv_topi (fun x21 ex21 => ?_)
  have hf := dq_l hf x21 ex21
  clear ex21
  refine va_put (D := D) (ci := 2) (v := .int x21) (ty := .int) (C := RX3) (T := TX3) (N := 3) hx hb hts iwX3 tyX3 tyX3_ok nmX3 hown hK hP hD hS 0 rfl rfl 1 (by decide) (hts _ wl_644) (fun _ h9 => h9) rfl (tyX3_ok 1 (by decide)) rfl rfl (Nat.le_of_ble_eq_true rfl) dX3_keep_23 (fun H locs hP hD hS => ?_)
  have hP : va_P D vwCl ((w_X3_keep y a b x21 p_count o_shutBits o_airs o_crownedBits o_sitters o_onBits o_turn o_taken o_warmth o_kind o_figure o_airCell o_way o_seat o_shawls o_count o_steps o_numbers) ++ (w_blob y (fun k => a (1 + k)) (va_up p_k_shutBits j_2 p_k_shutBits_3) (va_up p_k_airs j_2 p_k_airs_4) (va_up p_k_crownedBits j_2 p_k_crownedBits_5) (va_up p_k_sitters j_2 p_k_sitters_6) (va_up p_k_onBits j_2 p_k_onBits_7) (va_up p_k_turn j_2 p_k_turn_8) (va_up p_k_taken j_2 p_k_taken_9) (va_up p_k_warmth j_2 p_k_warmth_10) (va_up p_k_kind j_2 p_k_kind_11) (va_up p_k_figure j_2 p_k_figure_12) (va_up p_k_airCell j_2 p_k_airCell_13) (va_up p_k_way j_2 p_k_way_14) (va_up p_k_seat j_2 p_k_seat_15) (va_up p_k_shawls j_2 p_k_shawls_16) (va_up p_k_count j_2 p_k_count_17) (va_up p_k_steps j_2 p_k_steps_18) (va_up p_k_numbers j_2 p_k_numbers_19))) H := hP
  have hD : va_D A ((w_X3_keep y a b x21 p_count o_shutBits o_airs o_crownedBits o_sitters o_onBits o_turn o_taken o_warmth o_kind o_figure o_airCell o_way o_seat o_shawls o_count o_steps o_numbers) ++ (w_blob y (fun k => a (1 + k)) (va_up p_k_shutBits j_2 p_k_shutBits_3) (va_up p_k_airs j_2 p_k_airs_4) (va_up p_k_crownedBits j_2 p_k_crownedBits_5) (va_up p_k_sitters j_2 p_k_sitters_6) (va_up p_k_onBits j_2 p_k_onBits_7) (va_up p_k_turn j_2 p_k_turn_8) (va_up p_k_taken j_2 p_k_taken_9) (va_up p_k_warmth j_2 p_k_warmth_10) (va_up p_k_kind j_2 p_k_kind_11) (va_up p_k_figure j_2 p_k_figure_12) (va_up p_k_airCell j_2 p_k_airCell_13) (va_up p_k_way j_2 p_k_way_14) (va_up p_k_seat j_2 p_k_seat_15) (va_up p_k_shawls j_2 p_k_shawls_16) (va_up p_k_count j_2 p_k_count_17) (va_up p_k_steps j_2 p_k_steps_18) (va_up p_k_numbers j_2 p_k_numbers_19))) := hD
  refine lv_aload_n hx hb dX3_keep_26 rfl (lv_at hl 0 rfl) ?_
  refine lv_aload_n hx hb dX3_keep_27 rfl (lv_at hl 0 rfl) ?_
  refine va_get (D := D) (ci := 2) (v := .int p_count) (C := RX3) (T := TX3) (N := 3) hx hb hts iwX3 hown hK hP 0 rfl rfl 2 (by decide) (hts _ wl_353) (fun _ h9 => h9) rfl dX3_keep_28 ?_
  refine lv_iconst (v := 1) hx hb dX3_keep_31 (by decide) ?_
  refine lv_iadd hx hb dX3_keep_32 ?_
  refine lv_bipush (v := 8) hx hb dX3_keep_33 (by decide) ?_
  refine va_mmin hx hb (hml.trans hl.1.symm) hown (hts _ wl_645) (hts _ wl_314) (hts _ wl_293) (hts _ wl_315) (Nat.le_of_ble_eq_true rfl) (Nat.le_of_ble_eq_true rfl) (Nat.zero_le _) (Nat.zero_le _) dX3_keep_35 ?_
  refine lv_topi (fun x22 ex22 => ?_)
  have hf := dq_l hf x22 ex22
  clear ex22
  refine va_put (D := D) (ci := 2) (v := .int x22) (ty := .int) (C := RX3) (T := TX3) (N := 3) hx hb hts iwX3 tyX3 tyX3_ok nmX3 hown hK hP hD hS 0 rfl rfl 2 (by decide) (hts _ wl_353) (fun _ h9 => h9) rfl (tyX3_ok 2 (by decide)) rfl rfl (Nat.le_of_ble_eq_true rfl) dX3_keep_38 (fun H locs hP hD hS => ?_)
  have hP : va_P D vwCl ((w_X3_keep y a b x21 x22 o_shutBits o_airs o_crownedBits o_sitters o_onBits o_turn o_taken o_warmth o_kind o_figure o_airCell o_way o_seat o_shawls o_count o_steps o_numbers) ++ (w_blob y (fun k => a (1 + k)) (va_up p_k_shutBits j_2 p_k_shutBits_3) (va_up p_k_airs j_2 p_k_airs_4) (va_up p_k_crownedBits j_2 p_k_crownedBits_5) (va_up p_k_sitters j_2 p_k_sitters_6) (va_up p_k_onBits j_2 p_k_onBits_7) (va_up p_k_turn j_2 p_k_turn_8) (va_up p_k_taken j_2 p_k_taken_9) (va_up p_k_warmth j_2 p_k_warmth_10) (va_up p_k_kind j_2 p_k_kind_11) (va_up p_k_figure j_2 p_k_figure_12) (va_up p_k_airCell j_2 p_k_airCell_13) (va_up p_k_way j_2 p_k_way_14) (va_up p_k_seat j_2 p_k_seat_15) (va_up p_k_shawls j_2 p_k_shawls_16) (va_up p_k_count j_2 p_k_count_17) (va_up p_k_steps j_2 p_k_steps_18) (va_up p_k_numbers j_2 p_k_numbers_19))) H := hP
  have hD : va_D A ((w_X3_keep y a b x21 x22 o_shutBits o_airs o_crownedBits o_sitters o_onBits o_turn o_taken o_warmth o_kind o_figure o_airCell o_way o_seat o_shawls o_count o_steps o_numbers) ++ (w_blob y (fun k => a (1 + k)) (va_up p_k_shutBits j_2 p_k_shutBits_3) (va_up p_k_airs j_2 p_k_airs_4) (va_up p_k_crownedBits j_2 p_k_crownedBits_5) (va_up p_k_sitters j_2 p_k_sitters_6) (va_up p_k_onBits j_2 p_k_onBits_7) (va_up p_k_turn j_2 p_k_turn_8) (va_up p_k_taken j_2 p_k_taken_9) (va_up p_k_warmth j_2 p_k_warmth_10) (va_up p_k_kind j_2 p_k_kind_11) (va_up p_k_figure j_2 p_k_figure_12) (va_up p_k_airCell j_2 p_k_airCell_13) (va_up p_k_way j_2 p_k_way_14) (va_up p_k_seat j_2 p_k_seat_15) (va_up p_k_shawls j_2 p_k_shawls_16) (va_up p_k_count j_2 p_k_count_17) (va_up p_k_steps j_2 p_k_steps_18) (va_up p_k_numbers j_2 p_k_numbers_19))) := hD
  obtain ⟨rfl, rfl, rfl, rfl, rfl, rfl, rfl, rfl, rfl, rfl, rfl, rfl, rfl, rfl, rfl, rfl, rfl, rfl, rfl⟩ := dq_r19 hf
  exact ct_vret hx hb hr hlocks hAe hP hK hD hS dX3_keep_41
def w_X3_giveBack (y : Nat → ClassId) (a : Nat → Nat) (b : Nat → Nat) (p_next : Int32) (p_count : Int32) (o_shutBits : Int64) (o_airs : Int32) (o_crownedBits : Int32) (o_sitters : Int32) (o_onBits : Int32) (o_turn : Int32) (o_taken : Int32) (o_warmth : (Nat → UInt32)) (o_kind : (Nat → Int32)) (o_figure : (Nat → Int32)) (o_airCell : (Nat → Int32)) (o_way : (Nat → Int32)) (o_seat : (Nat → Int32)) (o_shawls : (Nat → Int32)) (o_count : Int32) (o_steps : (Nat → Int32)) (o_numbers : (Nat → Int32)) : va_W := [((a 0), .inr (2, [.ref (a 1), .int p_next, .int p_count])), ((b 0), .inr (1, [.ref (b 1), .long o_shutBits, .int o_airs, .ref (b 2), .ref (b 3), .ref (b 4), .ref (b 5), .int o_crownedBits, .int o_sitters, .ref (b 6), .ref (b 7), .int o_onBits, .int o_turn, .int o_taken, .ref (b 8)])), ((b 1), .inl (y 0, 36, .inr (.inr (.inl o_warmth)))), ((b 2), .inl (y 1, 5, .inl o_kind)), ((b 3), .inl (y 1, 5, .inl o_figure)), ((b 4), .inl (y 1, 5, .inl o_airCell)), ((b 5), .inl (y 1, 5, .inl o_way)), ((b 6), .inl (y 1, 6, .inl o_seat)), ((b 7), .inl (y 1, 6, .inl o_shawls)), ((b 8), .inr (0, [.ref (b 9), .ref (b 10), .int o_count])), ((b 9), .inl (y 1, 6, .inl o_steps)), ((b 10), .inl (y 1, 6, .inl o_numbers))]
noncomputable def f_X3_giveBack (p_next : Int32) (p_count : Int32) (o_warmth : (Nat → UInt32)) (o_kind : (Nat → Int32)) (o_figure : (Nat → Int32)) (o_airCell : (Nat → Int32)) (o_way : (Nat → Int32)) (o_seat : (Nat → Int32)) (o_shawls : (Nat → Int32)) (o_steps : (Nat → Int32)) (o_numbers : (Nat → Int32)) (p_k_shutBits : (Nat → Int64)) (p_k_airs : (Nat → Int32)) (p_k_crownedBits : (Nat → Int32)) (p_k_sitters : (Nat → Int32)) (p_k_onBits : (Nat → Int32)) (p_k_turn : (Nat → Int32)) (p_k_taken : (Nat → Int32)) (p_k_warmth : (Nat → Nat → UInt32)) (p_k_kind : (Nat → Nat → Int32)) (p_k_figure : (Nat → Nat → Int32)) (p_k_airCell : (Nat → Nat → Int32)) (p_k_way : (Nat → Nat → Int32)) (p_k_seat : (Nat → Nat → Int32)) (p_k_shawls : (Nat → Nat → Int32)) (p_k_count : (Nat → Int32)) (p_k_steps : (Nat → Nat → Int32)) (p_k_numbers : (Nat → Nat → Int32)) : Option (Int32 × Int32 × Int64 × Int32 × Int32 × Int32 × Int32 × Int32 × Int32 × (Nat → UInt32) × (Nat → Int32) × (Nat → Int32) × (Nat → Int32) × (Nat → Int32) × (Nat → Int32) × (Nat → Int32) × Int32 × (Nat → Int32) × (Nat → Int32)) := dq_let (((p_next + (8 : Int32)) - (1 : Int32)) - ((p_next + (8 : Int32)) - (1 : Int32)) / (8 : Int32) * (8 : Int32)) (fun (x1 : Int32) => dq_let (p_count - (1 : Int32)) (fun (x2 : Int32) => dq_gd (vp_in x1 8) (dq_let x1.toNatClampNeg (fun (j_4 : Nat) => dq_bd17 (f_X2_take o_warmth o_kind o_figure o_airCell o_way o_seat o_shawls o_steps o_numbers (p_k_shutBits j_4) (p_k_airs j_4) (p_k_crownedBits j_4) (p_k_sitters j_4) (p_k_onBits j_4) (p_k_turn j_4) (p_k_taken j_4) (p_k_warmth j_4) (p_k_kind j_4) (p_k_figure j_4) (p_k_airCell j_4) (p_k_way j_4) (p_k_seat j_4) (p_k_shawls j_4) (p_k_count j_4) (p_k_steps j_4) (p_k_numbers j_4)) (fun (o_shutBits_5 : Int64) (o_airs_6 : Int32) (o_crownedBits_7 : Int32) (o_sitters_8 : Int32) (o_onBits_9 : Int32) (o_turn_10 : Int32) (o_taken_11 : Int32) (o_warmth_12 : (Nat → UInt32)) (o_kind_13 : (Nat → Int32)) (o_figure_14 : (Nat → Int32)) (o_airCell_15 : (Nat → Int32)) (o_way_16 : (Nat → Int32)) (o_seat_17 : (Nat → Int32)) (o_shawls_18 : (Nat → Int32)) (o_count_19 : Int32) (o_steps_20 : (Nat → Int32)) (o_numbers_21 : (Nat → Int32)) => some (x1, x2, o_shutBits_5, o_airs_6, o_crownedBits_7, o_sitters_8, o_onBits_9, o_turn_10, o_taken_11, o_warmth_12, o_kind_13, o_figure_14, o_airCell_15, o_way_16, o_seat_17, o_shawls_18, o_count_19, o_steps_20, o_numbers_21))))))
def wA_X3_giveBack : List Cond := .code yX3_giveBack cX3_giveBack 2 none :: wsL_law
-- DraughtsTake$Past.giveBack(LDraughtsTake$House;)V
set_option maxHeartbeats 4000000 in
set_option maxRecDepth 100000 in
theorem m_X3_giveBack (l : Launch) (D : va_G) (y : Nat → ClassId) (a : (Nat → Nat)) (b : (Nat → Nat)) (p_next : Int32) (p_count : Int32) (o_shutBits : Int64) (o_airs : Int32) (o_crownedBits : Int32) (o_sitters : Int32) (o_onBits : Int32) (o_turn : Int32) (o_taken : Int32) (o_warmth : (Nat → UInt32)) (o_kind : (Nat → Int32)) (o_figure : (Nat → Int32)) (o_airCell : (Nat → Int32)) (o_way : (Nat → Int32)) (o_seat : (Nat → Int32)) (o_shawls : (Nat → Int32)) (o_count : Int32) (o_steps : (Nat → Int32)) (o_numbers : (Nat → Int32)) (p_k_shutBits : (Nat → Int64)) (p_k_airs : (Nat → Int32)) (p_k_crownedBits : (Nat → Int32)) (p_k_sitters : (Nat → Int32)) (p_k_onBits : (Nat → Int32)) (p_k_turn : (Nat → Int32)) (p_k_taken : (Nat → Int32)) (p_k_warmth : (Nat → Nat → UInt32)) (p_k_kind : (Nat → Nat → Int32)) (p_k_figure : (Nat → Nat → Int32)) (p_k_airCell : (Nat → Nat → Int32)) (p_k_way : (Nat → Nat → Int32)) (p_k_seat : (Nat → Nat → Int32)) (p_k_shawls : (Nat → Nat → Int32)) (p_k_count : (Nat → Int32)) (p_k_steps : (Nat → Nat → Int32)) (p_k_numbers : (Nat → Nat → Int32)) (z0 : Int32) (z1 : Int32) (z2 : Int64) (z3 : Int32) (z4 : Int32) (z5 : Int32) (z6 : Int32) (z7 : Int32) (z8 : Int32) (z9 : (Nat → UInt32)) (z10 : (Nat → Int32)) (z11 : (Nat → Int32)) (z12 : (Nat → Int32)) (z13 : (Nat → Int32)) (z14 : (Nat → Int32)) (z15 : (Nat → Int32)) (z16 : Int32) (z17 : (Nat → Int32)) (z18 : (Nat → Int32)) (hf : f_X3_giveBack p_next p_count o_warmth o_kind o_figure o_airCell o_way o_seat o_shawls o_steps o_numbers p_k_shutBits p_k_airs p_k_crownedBits p_k_sitters p_k_onBits p_k_turn p_k_taken p_k_warmth p_k_kind p_k_figure p_k_airCell p_k_way p_k_seat p_k_shawls p_k_count p_k_steps p_k_numbers = some (z0, z1, z2, z3, z4, z5, z6, z7, z8, z9, z10, z11, z12, z13, z14, z15, z16, z17, z18)) : Ct l D y yX3_giveBack wA_X3_giveBack 3 82 [.ref (a 0), .ref (b 0)] ((w_X3_giveBack y a b p_next p_count o_shutBits o_airs o_crownedBits o_sitters o_onBits o_turn o_taken o_warmth o_kind o_figure o_airCell o_way o_seat o_shawls o_count o_steps o_numbers) ++ (w_blob y (fun k => a (1 + k)) p_k_shutBits p_k_airs p_k_crownedBits p_k_sitters p_k_onBits p_k_turn p_k_taken p_k_warmth p_k_kind p_k_figure p_k_airCell p_k_way p_k_seat p_k_shawls p_k_count p_k_steps p_k_numbers)) ((w_X3_giveBack y a b z0 z1 z2 z3 z4 z5 z6 z7 z8 z9 z10 z11 z12 z13 z14 z15 z16 z17 z18) ++ (w_blob y (fun k => a (1 + k)) p_k_shutBits p_k_airs p_k_crownedBits p_k_sitters p_k_onBits p_k_turn p_k_taken p_k_warmth p_k_kind p_k_figure p_k_airCell p_k_way p_k_seat p_k_shawls p_k_count p_k_steps p_k_numbers)) none := by
  refine ct_head (cc := cX3_giveBack) (n := 2) (ret := none) (by decide) rfl (Nat.le_of_ble_eq_true rfl) ?_
  intro p e s m below meth c A ls hx hb hr hml hown hlocks hts hA hAe hP hK hD hl
  have hS : va_S A s.heap s.heap [] := va_S.rf
  have hl : lv_has ls 2 [(0, .ref (a 0)), (1, .ref (b 0))] := hl
  have hown : s.vm.findClass RX3 = some m.cls := hown
  have hts : ∀ w ∈ wsL_law, w.before [.ref (a 0), .ref (b 0)].toArray s = true := fun w h => hts w (List.mem_cons_of_mem _ h)
  unfold f_X3_giveBack at hf
  refine lv_aload_n hx hb dX3_giveBack_0 rfl (lv_at hl 0 rfl) ?_
  refine lv_aload_n hx hb dX3_giveBack_1 rfl (lv_at hl 0 rfl) ?_
  refine va_get (D := D) (ci := 2) (v := .int p_next) (C := RX3) (T := TX3) (N := 3) hx hb hts iwX3 hown hK hP 0 rfl rfl 1 (by decide) (hts _ wl_644) (fun _ h9 => h9) rfl dX3_giveBack_2 ?_
  refine lv_bipush (v := 8) hx hb dX3_giveBack_5 (by decide) ?_
  refine lv_iadd hx hb dX3_giveBack_7 ?_
  refine lv_iconst (v := 1) hx hb dX3_giveBack_8 (by decide) ?_
  refine lv_isub hx hb dX3_giveBack_9 ?_
  refine lv_bipush (v := 8) hx hb dX3_giveBack_10 (by decide) ?_
  refine lv_irem hx hb dX3_giveBack_12 (by decide) ?_
  refine lv_topi (fun x1 ex1 => ?_)
  have hf := dq_l hf x1 ex1
  clear ex1
  refine va_put (D := D) (ci := 2) (v := .int x1) (ty := .int) (C := RX3) (T := TX3) (N := 3) hx hb hts iwX3 tyX3 tyX3_ok nmX3 hown hK hP hD hS 0 rfl rfl 1 (by decide) (hts _ wl_644) (fun _ h9 => h9) rfl (tyX3_ok 1 (by decide)) rfl rfl (Nat.le_of_ble_eq_true rfl) dX3_giveBack_13 (fun H locs hP hD hS => ?_)
  have hP : va_P D vwCl ((w_X3_giveBack y a b x1 p_count o_shutBits o_airs o_crownedBits o_sitters o_onBits o_turn o_taken o_warmth o_kind o_figure o_airCell o_way o_seat o_shawls o_count o_steps o_numbers) ++ (w_blob y (fun k => a (1 + k)) p_k_shutBits p_k_airs p_k_crownedBits p_k_sitters p_k_onBits p_k_turn p_k_taken p_k_warmth p_k_kind p_k_figure p_k_airCell p_k_way p_k_seat p_k_shawls p_k_count p_k_steps p_k_numbers)) H := hP
  have hD : va_D A ((w_X3_giveBack y a b x1 p_count o_shutBits o_airs o_crownedBits o_sitters o_onBits o_turn o_taken o_warmth o_kind o_figure o_airCell o_way o_seat o_shawls o_count o_steps o_numbers) ++ (w_blob y (fun k => a (1 + k)) p_k_shutBits p_k_airs p_k_crownedBits p_k_sitters p_k_onBits p_k_turn p_k_taken p_k_warmth p_k_kind p_k_figure p_k_airCell p_k_way p_k_seat p_k_shawls p_k_count p_k_steps p_k_numbers)) := hD
  refine lv_aload_n hx hb dX3_giveBack_16 rfl (lv_at hl 0 rfl) ?_
  refine lv_dup hx hb dX3_giveBack_17 rfl ?_
  refine va_get (D := D) (ci := 2) (v := .int p_count) (C := RX3) (T := TX3) (N := 3) hx hb hts iwX3 hown hK hP 0 rfl rfl 2 (by decide) (hts _ wl_353) (fun _ h9 => h9) rfl dX3_giveBack_18 ?_
  refine lv_iconst (v := 1) hx hb dX3_giveBack_21 (by decide) ?_
  refine lv_isub hx hb dX3_giveBack_22 ?_
  refine lv_topi (fun x2 ex2 => ?_)
  have hf := dq_l hf x2 ex2
  clear ex2
  refine va_put (D := D) (ci := 2) (v := .int x2) (ty := .int) (C := RX3) (T := TX3) (N := 3) hx hb hts iwX3 tyX3 tyX3_ok nmX3 hown hK hP hD hS 0 rfl rfl 2 (by decide) (hts _ wl_353) (fun _ h9 => h9) rfl (tyX3_ok 2 (by decide)) rfl rfl (Nat.le_of_ble_eq_true rfl) dX3_giveBack_23 (fun H locs hP hD hS => ?_)
  have hP : va_P D vwCl ((w_X3_giveBack y a b x1 x2 o_shutBits o_airs o_crownedBits o_sitters o_onBits o_turn o_taken o_warmth o_kind o_figure o_airCell o_way o_seat o_shawls o_count o_steps o_numbers) ++ (w_blob y (fun k => a (1 + k)) p_k_shutBits p_k_airs p_k_crownedBits p_k_sitters p_k_onBits p_k_turn p_k_taken p_k_warmth p_k_kind p_k_figure p_k_airCell p_k_way p_k_seat p_k_shawls p_k_count p_k_steps p_k_numbers)) H := hP
  have hD : va_D A ((w_X3_giveBack y a b x1 x2 o_shutBits o_airs o_crownedBits o_sitters o_onBits o_turn o_taken o_warmth o_kind o_figure o_airCell o_way o_seat o_shawls o_count o_steps o_numbers) ++ (w_blob y (fun k => a (1 + k)) p_k_shutBits p_k_airs p_k_crownedBits p_k_sitters p_k_onBits p_k_turn p_k_taken p_k_warmth p_k_kind p_k_figure p_k_airCell p_k_way p_k_seat p_k_shawls p_k_count p_k_steps p_k_numbers)) := hD
  refine lv_aload_n hx hb dX3_giveBack_26 rfl (lv_at hl 1 rfl) ?_
  refine lv_aload_n hx hb dX3_giveBack_27 rfl (lv_at hl 0 rfl) ?_
  refine va_get (D := D) (ci := 2) (v := .ref (a 1)) (C := RX3) (T := TX3) (N := 3) hx hb hts iwX3 hown hK hP 0 rfl rfl 0 (by decide) (hts _ wl_62) (fun _ h9 => h9) rfl dX3_giveBack_28 ?_
  refine lv_aload_n hx hb dX3_giveBack_31 rfl (lv_at hl 0 rfl) ?_
  refine va_get (D := D) (ci := 2) (v := .int x1) (C := RX3) (T := TX3) (N := 3) hx hb hts iwX3 hown hK hP 0 rfl rfl 1 (by decide) (hts _ wl_644) (fun _ h9 => h9) rfl dX3_giveBack_32 ?_
  obtain ⟨h3, hf⟩ := dq_g hf
  obtain ⟨j_4, ej_4⟩ : ∃ z : Nat, z = x1.toNatClampNeg := ⟨_, rfl⟩
  have hf := dq_l hf j_4 ej_4
  have hj_4 : j_4 < 8 := by rw [ej_4]; exact Nat.not_le.mp fun q => h3 (Or.inr q)
  refine dq_aldH (cA := y 3) (n := 8) (b := (a (1 + (1 + 11 * j_4)))) (f := (fun i => if i < 8 then some (a (1 + (1 + 11 * i))) else none)) hx hb hK hP 12 3 rfl rfl h3 (by rw [← ej_4]; exact if_pos hj_4) dX3_giveBack_35 ?_
  obtain ⟨o_shutBits_5, o_airs_6, o_crownedBits_7, o_sitters_8, o_onBits_9, o_turn_10, o_taken_11, o_warmth_12, o_kind_13, o_figure_14, o_airCell_15, o_way_16, o_seat_17, o_shawls_18, o_count_19, o_steps_20, o_numbers_21, hy22, hf⟩ := dq_b17 hf
  refine ct_callVG (ci := 1) (q0 := 0) (f := (blF y (fun k => a (1 + k)) p_k_shutBits p_k_airs p_k_crownedBits p_k_sitters p_k_onBits p_k_turn p_k_taken p_k_warmth p_k_kind p_k_figure p_k_airCell p_k_way p_k_seat p_k_shawls p_k_count p_k_steps p_k_numbers)) (own := RX3) (As := [.ref (a (1 + (1 + 11 * j_4)))]) (rest := []) (L := (w_X3_giveBack y a b x1 x2 o_shutBits o_airs o_crownedBits o_sitters o_onBits o_turn o_taken o_warmth o_kind o_figure o_airCell o_way o_seat o_shawls o_count o_steps o_numbers)) (L' := (w_X3_giveBack y a b x1 x2 o_shutBits_5 o_airs_6 o_crownedBits_7 o_sitters_8 o_onBits_9 o_turn_10 o_taken_11 o_warmth_12 o_kind_13 o_figure_14 o_airCell_15 o_way_16 o_seat_17 o_shawls_18 o_count_19 o_steps_20 o_numbers_21)) (Lc := (w_X2 y b o_shutBits o_airs o_crownedBits o_sitters o_onBits o_turn o_taken o_warmth o_kind o_figure o_airCell o_way o_seat o_shawls o_count o_steps o_numbers)) (Lc' := (w_X2 y b o_shutBits_5 o_airs_6 o_crownedBits_7 o_sitters_8 o_onBits_9 o_turn_10 o_taken_11 o_warmth_12 o_kind_13 o_figure_14 o_airCell_15 o_way_16 o_seat_17 o_shawls_18 o_count_19 o_steps_20 o_numbers_21)) (blF_len) hj_4 ⟨hx, hb, hml, hown, hts⟩ (m_X2_take l D y b (fun k => a (1 + (1 + 11 * j_4 + k))) o_shutBits o_airs o_crownedBits o_sitters o_onBits o_turn o_taken o_warmth o_kind o_figure o_airCell o_way o_seat o_shawls o_count o_steps o_numbers (p_k_shutBits j_4) (p_k_airs j_4) (p_k_crownedBits j_4) (p_k_sitters j_4) (p_k_onBits j_4) (p_k_turn j_4) (p_k_taken j_4) (p_k_warmth j_4) (p_k_kind j_4) (p_k_figure j_4) (p_k_airCell j_4) (p_k_way j_4) (p_k_seat j_4) (p_k_shawls j_4) (p_k_count j_4) (p_k_steps j_4) (p_k_numbers j_4) o_shutBits_5 o_airs_6 o_crownedBits_7 o_sitters_8 o_onBits_9 o_turn_10 o_taken_11 o_warmth_12 o_kind_13 o_figure_14 o_airCell_15 o_way_16 o_seat_17 o_shawls_18 o_count_19 o_steps_20 o_numbers_21 hy22) (cwV 1 hts (gA_V wl_646 wl_177 wl_178 wl_14 wl_179) rfl rfl rfl (by decide +kernel) ⟨Nat.le_of_ble_eq_true rfl, Nat.le_of_ble_eq_true rfl⟩) rfl rfl rfl hl.1 rfl (Nat.le_of_ble_eq_true rfl) dX3_giveBack_36 ⟨Nat.zero_le _, Nat.zero_le _⟩ hK hP hD hS hA [1, 2, 3, 4, 5, 6, 7, 8, 9, 10, 11] rfl rfl (by decide) rfl (fun i hi => by
      by_cases h0 : i = 0
      · subst h0; rfl
      · by_cases h1 : i < 12
        · exact absurd (by simp only [List.mem_cons, List.not_mem_nil, or_false]; omega) hi
        · rw [List.getElem?_eq_none (by show 12 ≤ i; omega), List.getElem?_eq_none (by show 12 ≤ i; omega)]) (fun H locs hP hD hS => ?_)
  have hP : va_P D vwCl ((w_X3_giveBack y a b x1 x2 o_shutBits_5 o_airs_6 o_crownedBits_7 o_sitters_8 o_onBits_9 o_turn_10 o_taken_11 o_warmth_12 o_kind_13 o_figure_14 o_airCell_15 o_way_16 o_seat_17 o_shawls_18 o_count_19 o_steps_20 o_numbers_21) ++ (w_blob y (fun k => a (1 + k)) p_k_shutBits p_k_airs p_k_crownedBits p_k_sitters p_k_onBits p_k_turn p_k_taken p_k_warmth p_k_kind p_k_figure p_k_airCell p_k_way p_k_seat p_k_shawls p_k_count p_k_steps p_k_numbers)) H := hP
  have hD : va_D A ((w_X3_giveBack y a b x1 x2 o_shutBits_5 o_airs_6 o_crownedBits_7 o_sitters_8 o_onBits_9 o_turn_10 o_taken_11 o_warmth_12 o_kind_13 o_figure_14 o_airCell_15 o_way_16 o_seat_17 o_shawls_18 o_count_19 o_steps_20 o_numbers_21) ++ (w_blob y (fun k => a (1 + k)) p_k_shutBits p_k_airs p_k_crownedBits p_k_sitters p_k_onBits p_k_turn p_k_taken p_k_warmth p_k_kind p_k_figure p_k_airCell p_k_way p_k_seat p_k_shawls p_k_count p_k_steps p_k_numbers)) := hD
  obtain ⟨rfl, rfl, rfl, rfl, rfl, rfl, rfl, rfl, rfl, rfl, rfl, rfl, rfl, rfl, rfl, rfl, rfl, rfl, rfl⟩ := dq_r19 hf
  exact ct_vret hx hb hr hlocks hAe hP hK hD hS dX3_giveBack_39
def w_X3_forget (y : Nat → ClassId) (a : Nat → Nat) (p_next : Int32) (p_count : Int32) : va_W := [((a 0), .inr (2, [.ref (a 1), .int p_next, .int p_count]))]
noncomputable def f_X3_forget  : Option Int32 := some (0 : Int32)
def wA_X3_forget : List Cond := .code yX3_forget cX3_forget 1 none :: wsL_law
-- DraughtsTake$Past.forget()V
set_option maxHeartbeats 4000000 in
set_option maxRecDepth 100000 in
theorem m_X3_forget (l : Launch) (D : va_G) (y : Nat → ClassId) (a : (Nat → Nat)) (p_next : Int32) (p_count : Int32) (z0 : Int32) (hf : f_X3_forget = some z0) : Ct l D y yX3_forget wA_X3_forget 0 0 [.ref (a 0)] (w_X3_forget y a p_next p_count) (w_X3_forget y a p_next z0) none := by
  refine ct_head (cc := cX3_forget) (n := 1) (ret := none) (by decide) rfl (Nat.le_of_ble_eq_true rfl) ?_
  intro p e s m below meth c A ls hx hb hr hml hown hlocks hts hA hAe hP hK hD hl
  have hS : va_S A s.heap s.heap [] := va_S.rf
  have hl : lv_has ls 1 [(0, .ref (a 0))] := hl
  have hown : s.vm.findClass RX3 = some m.cls := hown
  have hts : ∀ w ∈ wsL_law, w.before [.ref (a 0)].toArray s = true := fun w h => hts w (List.mem_cons_of_mem _ h)
  unfold f_X3_forget at hf
  refine lv_aload_n hx hb dX3_forget_0 rfl (lv_at hl 0 rfl) ?_
  refine lv_iconst (v := 0) hx hb dX3_forget_1 (by decide) ?_
  refine va_put (D := D) (ci := 2) (v := .int (0 : Int32)) (ty := .int) (C := RX3) (T := TX3) (N := 3) hx hb hts iwX3 tyX3 tyX3_ok nmX3 hown hK hP hD hS 0 rfl rfl 2 (by decide) (hts _ wl_353) (fun _ h9 => h9) rfl (tyX3_ok 2 (by decide)) rfl rfl (Nat.le_of_ble_eq_true rfl) dX3_forget_2 (fun H locs hP hD hS => ?_)
  have hP : va_P D vwCl (w_X3_forget y a p_next (0 : Int32)) H := hP
  have hD : va_D A (w_X3_forget y a p_next (0 : Int32)) := hD
  obtain rfl := dq_r1 hf
  exact ct_vret hx hb hr hlocks hAe hP hK hD hS dX3_forget_5
