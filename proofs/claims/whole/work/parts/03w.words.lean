/-! the words of the tables that every method of the claim is given: those that stay true as the tables warm -/
def goodB (w : Cond) : Bool := (w.onTables && w.keeps) || (match w with
  | .arrayClass _ => true
  | _ => false)
def okW (w : Cond) : Bool := goodB w || (match w with
  | .methodLinkNest _ _ _ _ => true
  | .castable _ _ => true
  | .arrayOver (.object _) => true
  | _ => false)
def gW : List Cond := lw_tbl.filter goodB
def wT : List Cond := lw_tbl.filter okW
theorem inT {w : Cond} (i : Nat) (h : lw_tbl[i]? = some w) (h2 : okW w = true) : w ∈ wT := List.mem_filter.mpr ⟨List.mem_of_getElem? h, h2⟩
theorem gW_good : ∀ w ∈ gW, w ∈ wT ∧ ((w.onTables && w.keeps) = true ∨ ∃ ty, w = .arrayClass ty) := by
  intro w hw
  obtain ⟨h1, h2⟩ := List.mem_filter.mp hw
  refine ⟨List.mem_filter.mpr ⟨h1, by unfold okW; rw [h2]; rfl⟩, ?_⟩
  unfold goodB at h2
  rcases Bool.or_eq_true _ _ ▸ h2 with h | h
  · exact .inl h
  · cases w <;> first | exact .inr ⟨_, rfl⟩ | cases h
/-- String constants: class, place in its pool, text -/
def strT : Nat → String × Nat × String := fun j => match j with
  | 0 => ("NamelessPost$CoverReader", 115, "at")
  | 1 => ("NamelessPost$CoverReader", 121, "me")
  | 2 => ("NamelessPost$CoverReader", 123, "not")
  | 3 => ("NamelessPost$CoverReader", 125, "and")
  | 4 => ("NamelessPost$CoverReader", 127, "or")
  | 5 => ("NamelessPost$CoverReader", 129, "only")
  | 6 => ("NamelessPost$CoverReader", 130, "then")
  | 7 => ("NamelessPostModel", 305, "only")
  | 8 => ("NamelessPostModel", 307, "then")
  | 9 => ("NamelessPostModel", 266, "not")
  | 10 => ("NamelessPostModel", 288, "me")
  | 11 => ("NamelessPostModel", 290, "at")
  | 12 => ("NamelessPostModel", 301, "and")
  | _ => ("NamelessPostModel", 303, "or")
theorem inL0 {w : Cond} (h : w ∈ k2_sels lw_privs) : w ∈ lw_tbl := List.mem_append_left _ h
theorem inL1 {w : Cond} (h : w ∈ tables_1_1) : w ∈ lw_tbl := List.mem_append_right _ (List.mem_append_left _ h)
theorem inL2 {w : Cond} (h : w ∈ tables_1_2) : w ∈ lw_tbl := List.mem_append_right _ (List.mem_append_right _ (List.mem_append_left _ h))
theorem inL3 {w : Cond} (h : w ∈ tables_1_3) : w ∈ lw_tbl := List.mem_append_right _ (List.mem_append_right _ (List.mem_append_right _ (List.mem_append_left _ h)))
theorem inL4 {w : Cond} (h : w ∈ tables_1_4) : w ∈ lw_tbl := List.mem_append_right _ (List.mem_append_right _ (List.mem_append_right _ (List.mem_append_right _ (List.mem_append_left _ h))))
theorem inL5 {w : Cond} (h : w ∈ tables_1_5) : w ∈ lw_tbl := List.mem_append_right _ (List.mem_append_right _ (List.mem_append_right _ (List.mem_append_right _ (List.mem_append_right _ (List.mem_append_left _ h)))))
theorem inL6 {w : Cond} (h : w ∈ tables_1_6) : w ∈ lw_tbl := List.mem_append_right _ (List.mem_append_right _ (List.mem_append_right _ (List.mem_append_right _ (List.mem_append_right _ (List.mem_append_right _ (List.mem_append_left _ h))))))
theorem inL7 {w : Cond} (h : w ∈ tables_1_7) : w ∈ lw_tbl := List.mem_append_right _ (List.mem_append_right _ (List.mem_append_right _ (List.mem_append_right _ (List.mem_append_right _ (List.mem_append_right _ (List.mem_append_right _ (List.mem_append_left _ h)))))))
theorem inL8 {w : Cond} (h : w ∈ tables_1_8) : w ∈ lw_tbl := List.mem_append_right _ (List.mem_append_right _ (List.mem_append_right _ (List.mem_append_right _ (List.mem_append_right _ (List.mem_append_right _ (List.mem_append_right _ (List.mem_append_right _ (h))))))))
theorem inT0 {w : Cond} (h : w ∈ k2_sels lw_privs) (h2 : okW w = true) : w ∈ wT := List.mem_filter.mpr ⟨inL0 h, h2⟩
theorem inT1 {w : Cond} (h : w ∈ tables_1_1) (h2 : okW w = true) : w ∈ wT := List.mem_filter.mpr ⟨inL1 h, h2⟩
theorem inT2 {w : Cond} (h : w ∈ tables_1_2) (h2 : okW w = true) : w ∈ wT := List.mem_filter.mpr ⟨inL2 h, h2⟩
theorem inT3 {w : Cond} (h : w ∈ tables_1_3) (h2 : okW w = true) : w ∈ wT := List.mem_filter.mpr ⟨inL3 h, h2⟩
theorem inT4 {w : Cond} (h : w ∈ tables_1_4) (h2 : okW w = true) : w ∈ wT := List.mem_filter.mpr ⟨inL4 h, h2⟩
theorem inT5 {w : Cond} (h : w ∈ tables_1_5) (h2 : okW w = true) : w ∈ wT := List.mem_filter.mpr ⟨inL5 h, h2⟩
theorem inT6 {w : Cond} (h : w ∈ tables_1_6) (h2 : okW w = true) : w ∈ wT := List.mem_filter.mpr ⟨inL6 h, h2⟩
theorem inT7 {w : Cond} (h : w ∈ tables_1_7) (h2 : okW w = true) : w ∈ wT := List.mem_filter.mpr ⟨inL7 h, h2⟩
theorem inT8 {w : Cond} (h : w ∈ tables_1_8) (h2 : okW w = true) : w ∈ wT := List.mem_filter.mpr ⟨inL8 h, h2⟩
