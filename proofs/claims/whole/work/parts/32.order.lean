/-! THE ORDER OF CHANGES: by days, those of one day as told -/
def insP (key : Nat → Int) : Nat → Int → Nat
  | 0, _ => 0
  | n + 1, d => if key n > d then insP key n d else n + 1
theorem insP_le (key : Nat → Int) : ∀ n d, insP key n d ≤ n := by
  intro n
  induction n with
  | zero => intro d; exact Nat.le_refl _
  | succ n ih =>
    intro d
    unfold insP
    split
    · exact Nat.le_succ_of_le (ih d)
    · exact Nat.le_refl _
theorem insP_gt (key : Nat → Int) : ∀ n d i, insP key n d ≤ i → i < n → d < key i := by
  intro n
  induction n with
  | zero => intro d i _ h; omega
  | succ n ih =>
    intro d i h1 h2
    unfold insP at h1
    split at h1
    · by_cases e : i = n
      · subst e; assumption
      · exact ih d i h1 (by omega)
    · omega
theorem insP_before (key : Nat → Int) : ∀ n d, 0 < insP key n d → key (insP key n d - 1) ≤ d := by
  intro n
  induction n with
  | zero => intro d h; exact absurd h (by unfold insP; omega)
  | succ n ih =>
    intro d h
    unfold insP at h ⊢
    split at h
    · rename_i c
      rw [if_pos c]
      exact ih d h
    · rename_i c
      rw [if_neg c]
      simp only [Nat.add_sub_cancel]
      omega
theorem insP_congr {key key' : Nat → Int} : ∀ {n : Nat} {d : Int}, (∀ i, i < n → key i = key' i) → insP key n d = insP key' n d := by
  intro n
  induction n with
  | zero => intros; rfl
  | succ n ih =>
    intro d h
    unfold insP
    rw [h n (by omega), ih (fun i hi => h i (by omega))]
def insF {α : Type} (a : Nat → α) (p : Nat) (x : α) : Nat → α := fun i => if i < p then a i else if i = p then x else a (i - 1)
/-- which change stands at a place, n told; D: their days -/
def srtF (D : Nat → Int) : Nat → Nat → Nat
  | 0 => fun _ => 0
  | n + 1 => insF (srtF D n) (insP (fun j => D (srtF D n j)) n (D n)) n
theorem srtF_lt (D : Nat → Int) : ∀ n i, i < n → srtF D n i < n := by
  intro n
  induction n with
  | zero => intro i h; omega
  | succ n ih =>
    intro i hi
    have hp := insP_le (fun j => D (srtF D n j)) n (D n)
    show insF _ _ _ i < _
    unfold insF
    split
    · have := ih i (by omega); omega
    · split
      · omega
      · have := ih (i - 1) (by omega); omega
theorem srtF_sorted (D : Nat → Int) : ∀ n i, i + 1 < n → D (srtF D n i) ≤ D (srtF D n (i + 1)) := by
  intro n
  induction n with
  | zero => intro i h; omega
  | succ n ih =>
    intro i hi
    have hp := insP_le (fun j => D (srtF D n j)) n (D n)
    have hg := insP_gt (fun j => D (srtF D n j)) n (D n)
    have hb := insP_before (fun j => D (srtF D n j)) n (D n)
    show D (insF _ _ _ i) ≤ D (insF _ _ _ (i + 1))
    generalize insP (fun j => D (srtF D n j)) n (D n) = p at *
    unfold insF
    by_cases h1 : i + 1 < p
    · rw [if_pos (by omega), if_pos h1]
      exact ih i (by omega)
    · by_cases h2 : i + 1 = p
      · rw [if_pos (by omega), if_neg (by omega), if_pos h2]
        have := hb (by omega)
        rw [show p - 1 = i by omega] at this
        exact this
      · by_cases h3 : i = p
        · rw [if_neg (by omega), if_pos h3, if_neg (by omega), if_neg (by omega)]
          have := hg (i + 1 - 1) (by omega) (by omega)
          omega
        · rw [if_neg (by omega), if_neg (by omega), if_neg (by omega), if_neg (by omega)]
          have := ih (i - 1) (by omega)
          rw [show i - 1 + 1 = i by omega] at this
          exact this
theorem srtF_mono (D : Nat → Int) (n : Nat) : ∀ {i j : Nat}, i ≤ j → j < n → D (srtF D n i) ≤ D (srtF D n j) := by
  intro i j h
  induction j with
  | zero => intro _; rw [show i = 0 by omega]; exact Int.le_refl _
  | succ j ih =>
    intro hj
    by_cases e : i = j + 1
    · subst e; exact Int.le_refl _
    · have h1 := ih (by omega) (by omega)
      have h2 := srtF_sorted D n j hj
      omega
theorem srtF_congr {D D' : Nat → Int} : ∀ {n : Nat}, (∀ i, i < n → D i = D' i) → ∀ i, i < n → srtF D n i = srtF D' n i := by
  intro n
  induction n with
  | zero => intro _ i h; omega
  | succ n ih =>
    intro h i hi
    have h0 := ih (fun i hi => h i (by omega))
    have e : insP (fun j => D (srtF D n j)) n (D n) = insP (fun j => D' (srtF D' n j)) n (D' n) := by
      rw [h n (by omega)]
      refine insP_congr fun j hj => ?_
      rw [h0 j hj, h _ (by have := srtF_lt D' n j hj; omega)]
    show insF _ _ _ i = insF _ _ _ i
    rw [e]
    have hp := insP_le (fun j => D' (srtF D' n j)) n (D' n)
    unfold insF
    split
    · exact h0 i (by omega)
    · split
      · rfl
      · exact h0 (i - 1) (by omega)
/-- how many changes hold on a day -/
def dnF (K : Nat → Int) (d : Int) : Nat → Nat
  | 0 => 0
  | n + 1 => if dnF K d n = n ∧ K n ≤ d then n + 1 else dnF K d n
theorem dnF_le (K : Nat → Int) (d : Int) : ∀ n, dnF K d n ≤ n := by
  intro n
  induction n with
  | zero => exact Nat.le_refl _
  | succ n ih => unfold dnF; split <;> omega
theorem dnF_in (K : Nat → Int) (d : Int) : ∀ n i, i < dnF K d n → K i ≤ d := by
  intro n
  induction n with
  | zero => intro i h; exact absurd h (by unfold dnF; omega)
  | succ n ih =>
    intro i h
    unfold dnF at h
    split at h
    · rename_i c
      by_cases e : i = n
      · subst e; exact c.2
      · exact ih i (by omega)
    · exact ih i h
theorem dnF_out (K : Nat → Int) (d : Int) : ∀ n, dnF K d n < n → d < K (dnF K d n) := by
  intro n
  induction n with
  | zero => intro h; omega
  | succ n ih =>
    intro h
    unfold dnF at h ⊢
    split at h
    · omega
    · rename_i c
      rw [if_neg c]
      by_cases e : dnF K d n = n
      · rw [e]
        by_cases e2 : K n ≤ d
        · exact absurd ⟨e, e2⟩ c
        · omega
      · have := dnF_le K d n
        exact ih (by omega)
theorem dnF_eq {K : Nat → Int} {d : Int} {n m : Nat} (hm : m ≤ n) (h1 : ∀ i, i < m → K i ≤ d) (h2 : m < n → d < K m) : dnF K d n = m := by
  have a := dnF_le K d n
  by_cases e : dnF K d n = m
  · exact e
  · by_cases e2 : dnF K d n < m
    · have := dnF_out K d n (by omega)
      have := h1 _ e2
      omega
    · have := dnF_in K d n m (by omega)
      have := h2 (by omega)
      omega
