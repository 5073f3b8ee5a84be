/-! a table of rows, made at once -/
theorem ci_Dn {A : Nat → Prop} {ws Z : va_W} {n : Nat} (hD : va_D A ws) (hlt : ∀ (k : Nat) (q : Nat × va_E), ws[k]? = some q → q.1 < n) (hA : ∀ i, n ≤ i → A i) (hZ : ∀ (k : Nat) (q : Nat × va_E), Z[k]? = some q → q.1 = n + k) : va_D A (ws ++ Z) := by
  have hw : ∀ (k : Nat) (q : Nat × va_E), (ws ++ Z)[k]? = some q → (k < ws.length ∧ ws[k]? = some q) ∨ (ws.length ≤ k ∧ Z[k - ws.length]? = some q) := by
    intro k q h
    by_cases hk : k < ws.length
    · rw [List.getElem?_append_left hk] at h
      exact Or.inl ⟨hk, h⟩
    · rw [List.getElem?_append_right (by omega)] at h
      exact Or.inr ⟨by omega, h⟩
  refine ⟨fun i j x z hx hz e => ?_, fun k q hq => ?_⟩
  · rcases hw i x hx with ⟨h1, h2⟩ | ⟨h1, h2⟩ <;> rcases hw j z hz with ⟨h3, h4⟩ | ⟨h3, h4⟩
    · exact hD.1 i j x z h2 h4 e
    · have := hlt _ _ h2
      have := hZ _ _ h4
      omega
    · have := hlt _ _ h4
      have := hZ _ _ h2
      omega
    · have := hZ _ _ h2
      have := hZ _ _ h4
      omega
  · rcases hw k q hq with ⟨h1, h2⟩ | ⟨h1, h2⟩
    · exact hD.2 _ _ h2
    · have := hZ _ _ h2
      exact hA _ (by omega)
theorem vr_outer (c : ClassId) (N h0 : Nat) : ∀ i : Nat, Jvm.Free.Multi.outerC c N h0 i = arrV c N (fun j => va_rf (if j < i then some (h0 + 1 + j) else none))
  | 0 => by
    show ({ cls := c, slots := Array.replicate N .null, vm := .none } : Cell) = _
    rw [arrV_new]
    refine congrArg (arrV c N) (funext fun j => ?_)
    simp [va_rf]
  | i + 1 => by
    show (Jvm.Free.Multi.outerC c N h0 i).setSlot i (.ref (h0 + 1 + i)) = _
    rw [vr_outer c N h0 i, arrV_store]
    refine congrArg (arrV c N) (funext fun j => ?_)
    by_cases e : j = i
    · subst e
      simp [updV, va_rf]
    · by_cases h : j < i
      · simp [updV, e, h, Nat.lt_succ_of_lt h]
      · simp [updV, e, h, show ¬ j < i + 1 by omega]
section CMN
variable {p : Program} {l : Launch} {e : Env} {R : Room} {s : State} {m : MethodId} {args : Array Value} {below : List Frame} {meth : Method} {c : Code} {H H0 : Heap} {locs : List Loc} {cells slots : Nat} {Q : State → Prop}
variable {cc : ByteArray} {pc index : Nat} {ls : Array Slot} {D : va_G} {y : Nat → ClassId} {A : Nat → Prop} {ws : va_W} {own : String} {rest : List Value}
theorem ci_mna (hexec : p.tables.exec = Jvm.exec) (hb : c.code = cc) (hown : s.vm.findClass own = some m.cls) (hclink : (Cond.classLink own index "[[I").before args s = true) (hover : (Cond.arrayOver (.array .int)).before args s = true) (harr : (Cond.arrayClass .int).before args s = true)
    (hK : va_K D vwCl (dTy y) s) (hP : va_P D vwCl ws H) (hD : va_D A ws) (hS : va_S A H0 H locs) (hA : ∀ q, H0.size ≤ q → A q) (hcells : cells + 4 ≤ R.cells) (hslots : slots + 39 ≤ R.slots) (hdg : decode cc pc = .ok (.multianewarray index 2, 4))
    (kk : ∀ (q : Nat) (H1 : Heap), va_P D vwCl (ws ++ [(q, .inl (y 4, 3, .inr (.inr (.inr (.inr (fun i => if i < 3 then some (q + 1 + i) else none)))))), (q + 1, .inl (y 1, 12, .inl (fun _ => 0))), (q + 2, .inl (y 1, 12, .inl (fun _ => 0))), (q + 3, .inl (y 1, 12, .inl (fun _ => 0)))]) H1 → va_D A (ws ++ [(q, .inl (y 4, 3, .inr (.inr (.inr (.inr (fun i => if i < 3 then some (q + 1 + i) else none)))))), (q + 1, .inl (y 1, 12, .inl (fun _ => 0))), (q + 2, .inl (y 1, 12, .inl (fun _ => 0))), (q + 3, .inl (y 1, 12, .inl (fun _ => 0)))]) → va_S A H0 H1 locs →
      W p l e R s m args below meth c H1 locs (cells + 4) (slots + 39) Q (F0 m (pc + 4) ls (.ref q :: rest))) : W p l e R s m args below meth c H locs cells slots Q (F0 m pc ls (.int 12 :: .int 3 :: rest)) := by
  intro T hT Xs
  have c3 : (3 : Int32).toNatClampNeg = 3 := by decide
  have c12 : (12 : Int32).toNatClampNeg = 12 := by decide
  obtain ⟨vm₁, cA, comp, -, fA, fC, hO, -, X', step⟩ := Xs.multianewarray2F (n := 3) (k := 12) (ty := .int) (rest := rest) hexec hown hclink hover harr (g := F0 m pc ls (.int 12 :: .int 3 :: rest)) rfl (by rw [hb]; exact hdg) rfl (by decide) (by decide) (by decide) (by decide) (by decide) rfl rfl (by rw [c3]; exact hcells) (by rw [c3, c12]; exact hslots)
  have e4 : cA = y 4 := Option.some.inj (fA.symm.trans (show s.vm.findClass ("[" ++ (FieldType.array .int).toString) = some (y 4) from (hK.2 4 (y 4, .array .int) rfl).2))
  have e1 : comp = y 1 := Option.some.inj (fC.symm.trans (va_nm_int (hK.2 1 (y 1, .int) rfl).2))
  subst e4
  subst e1
  rw [c3, c12] at X' step
  generalize hF : Jvm.Free.Multi.fill (T.setVm vm₁) (y 4) (y 1) 3 12 (defaultValue .int) 3 = G at X' step
  have hTh : (T.setVm vm₁).heap = H := hT
  obtain ⟨f1, f2, -, -⟩ := Jvm.Free.Multi.fill_facts (T.setVm vm₁) (y 4) (y 1) 3 12 (defaultValue .int) 3
  rw [hF, hTh] at f1 f2
  have hold : ∀ x : Nat, x < H.size → G.heap[x]? = H[x]? := fun x hx => by
    have := Jvm.Free.Multi.fill_old (T.setVm vm₁) (y 4) (y 1) 3 12 (defaultValue .int) (a := x) (by rw [hTh]; exact hx) 3
    rw [hF, hTh] at this
    exact this
  have hz : Jvm.Free.Multi.innerC (y 1) 12 (defaultValue .int) = vp_cell (y 1) (12, .inl (fun _ => 0)) := by
    show _ = arrV (y 1) 12 (fun _ => .int 0)
    first
      | exact arrV_new ..
      | exact (arrV_new ..).symm
      | rw [← arrV_new]; rfl
      | rw [arrV_new]; rfl
  have hrow : ∀ j : Nat, j < 3 → G.heap[H.size + 1 + j]? = some (vp_cell (y 1) (12, .inl (fun _ => 0))) := fun j hj => by
    have := Jvm.Free.Multi.fill_inner (T.setVm vm₁) (y 4) (y 1) 3 12 (defaultValue .int) 3 j hj
    rw [hF, hTh, hz] at this
    exact this
  have hout : Jvm.Free.Multi.outerC (y 4) 3 H.size 3 = vp_cell (y 4) (3, .inr (.inr (.inr (.inr (fun i => if i < 3 then some (H.size + 1 + i) else none))))) := by
    rw [vp_cell_q]
    exact vr_outer (y 4) 3 H.size 3
  rw [hout] at f2
  have hP0 : va_P D vwCl ws G.heap := hP.kept (fun k9 x hx => hold x.1 ((hP k9 x hx).lt))
  have hr0 := hrow 0 (by omega)
  have hr1 := hrow 1 (by omega)
  have hr2 := hrow 2 (by omega)
  have hZP : va_P D vwCl [(H.size, .inl (y 4, 3, .inr (.inr (.inr (.inr (fun i => if i < 3 then some (H.size + 1 + i) else none)))))), (H.size + 1, .inl (y 1, 12, .inl (fun _ => 0))), (H.size + 2, .inl (y 1, 12, .inl (fun _ => 0))), (H.size + 3, .inl (y 1, 12, .inl (fun _ => 0)))] G.heap := by
    intro k9 x hx
    match k9, hx with
    | 0, hx => cases hx; exact f2
    | 1, hx => cases hx; exact hr0
    | 2, hx => cases hx; exact hr1
    | 3, hx => cases hx; exact hr2
    | k + 4, hx => simp at hx
  have hlt : ∀ (k : Nat) (q : Nat × va_E), ws[k]? = some q → q.1 < H.size := fun k q hq => (hP k q hq).lt
  obtain ⟨t2, a1, b1⟩ := kk H.size G.heap (hP0.app hZP) (ci_Dn hD hlt (fun i hi => hA i (Nat.le_trans hS.1 hi)) (fun k q h => by
      match k, h with
      | 0, h => cases h; rfl
      | 1, h => cases h; rfl
      | 2, h => cases h; rfl
      | 3, h => cases h; rfl
      | k + 4, h => simp at h)) ⟨Nat.le_trans hS.1 (by omega), fun x h1 h2 => (hold x (Nat.lt_of_lt_of_le h1 hS.1)).trans (hS.2.1 x h1 h2), hS.2.2⟩ G rfl X'
  rw [← hT] at a1
  exact ⟨t2, step t2 a1, b1⟩
end CMN
