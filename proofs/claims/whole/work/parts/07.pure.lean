/-! THE PURE FORM of a method: what it computes, in the order of its bytecode, as an option: none where a place is out of its row, a divisor is 0, a float is no number, or the steps run out. -/
noncomputable def dq_if {α : Type} (c : Prop) (a b : Option α) : Option α := @ite _ c (Classical.propDecidable c) a b
theorem dq_t {α : Type} {c : Prop} {a b : Option α} {r : α} (h : dq_if c a b = some r) (hc : c) : a = some r := by
  unfold dq_if at h
  rwa [if_pos hc] at h
theorem dq_f {α : Type} {c : Prop} {a b : Option α} {r : α} (h : dq_if c a b = some r) (hc : ¬ c) : b = some r := by
  unfold dq_if at h
  rwa [if_neg hc] at h
noncomputable def dq_gd {α : Type} (c : Prop) (a : Option α) : Option α := dq_if c a none
theorem dq_g {α : Type} {c : Prop} {a : Option α} {r : α} (h : dq_gd c a = some r) : c ∧ a = some r := by
  by_cases hc : c
  · exact ⟨hc, dq_t h hc⟩
  · exact absurd (dq_f h hc) (by simp)
def dq_let {β α : Type} (x : β) (f : β → Option α) : Option α := f x
theorem dq_l {β α : Type} {x : β} {f : β → Option α} {r : α} (h : dq_let x f = some r) : ∀ y : β, y = x → f y = some r := fun y e => by
  subst e
  exact h
def dq_bd {β α : Type} (x : Option β) (f : β → Option α) : Option α := x.bind f
theorem dq_b {β α : Type} {x : Option β} {f : β → Option α} {r : α} (h : dq_bd x f = some r) : ∃ y : β, x = some y ∧ f y = some r := by
  unfold dq_bd at h
  cases x with
  | none => cases h
  | some y => exact ⟨y, rfl, h⟩
theorem dq_s {α : Type} {x r : α} (h : some x = some r) : x = r := Option.some.inj h
