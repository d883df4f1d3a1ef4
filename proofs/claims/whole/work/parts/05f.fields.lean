/-- the field words of each class are in the tables -/
theorem inX : ∀ (ci : Nat) (q : vw_C), classes[ci]? = some q → ∀ w ∈ u_ws q.1 q.2.1 q.2.2, w ∈ wT := by
  intro ci q hq w hw
  have h : ∀ q ∈ classes, ∀ w ∈ u_ws q.1 q.2.1 q.2.2, w ∈ lw_tbl ∧ okW w = true := by decide +kernel
  exact List.mem_filter.mpr (h q (List.mem_of_getElem? hq) w hw)
theorem tyX_all : ∀ (ci : Nat) (q : vw_C), classes[ci]? = some q → ∀ k, k < q.2.2 → parseFieldDescriptor (q.2.1 k).2.2.1 = some (tyOf ci k) := by
  intro ci q hq
  have hlt : ci < 13 := (List.getElem?_eq_some_iff.mp hq).1
  have h : ∀ ci : Fin 13, ∀ k, k < (classes[ci.val]).2.2 → parseFieldDescriptor ((classes[ci.val]).2.1 k).2.2.1 = some (tyOf ci.val k) := by decide +kernel
  have e : classes[ci] = q := Option.some.inj ((List.getElem?_eq_getElem hlt).symm.trans hq)
  intro k hk
  have := h ⟨ci, hlt⟩ k (by simpa [e] using hk)
  simpa [e] using this
theorem nmX_all : ∀ (ci : Nat) (q : vw_C), classes[ci]? = some q → ∀ a, a < q.2.2 → ∀ b, b < q.2.2 → a ≠ b → (q.2.1 a).2.1 ≠ (q.2.1 b).2.1 := by
  intro ci q hq
  have hlt : ci < 13 := (List.getElem?_eq_some_iff.mp hq).1
  have e : classes[ci] = q := Option.some.inj ((List.getElem?_eq_getElem hlt).symm.trans hq)
  have h : ∀ c ∈ classes, ∀ a, a < c.2.2 → ∀ b, b < c.2.2 → a ≠ b → (c.2.1 a).2.1 ≠ (c.2.1 b).2.1 := by decide +kernel
  exact h q (List.mem_of_getElem? hq)
