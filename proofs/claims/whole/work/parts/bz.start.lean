/-! the state at the start -/
def Q0 : QT := fun f i => if f = 51 ∧ i < 17 then 1 else 0
theorem q0 {f i : Nat} (h : f ≠ 51) : Q0 f i = 0 := if_neg fun c => h c.1
theorem q0_w {i : Nat} (h : i < 17) : Q0 51 i = 1 := if_pos ⟨rfl, h⟩
theorem J0_hi {f k i : Nat} (h : 47 < f ∨ f = 3) : J0 f k i = Q0 f i := by
  by_cases e : f = 51
  · subst e
    show (if i < 17 then (1 : Int) else 0) = _
    by_cases c : i < 17
    · rw [if_pos c, q0_w c]
    · rw [if_neg c]; exact (if_neg fun x => c x.2).symm
  · rw [q0 e]
    unfold J0
    split <;> first | omega | rfl
theorem rd_0 (a b : Int) : rd Q0 a b = 0 := rfl
theorem Dk_0 : ∀ k a b, Dk Q0 k a b = if a = b then 0 else 1000 := by
  intro k
  induction k with
  | zero => intro a b; unfold Dk; rw [rd_0, if_pos rfl]
  | succ k ih =>
    intro a b
    unfold Dk
    rw [ih, ih, ih]
    by_cases e : a = b
    · subst e
      rw [if_pos rfl]
      by_cases c : a = k
      · rw [if_pos c, if_pos c.symm, if_neg (by decide)]
      · rw [if_neg c, if_neg (show ¬ k = a from fun x => c x.symm), if_neg (by decide)]
    · rw [if_neg e]
      by_cases c : a = k
      · rw [if_pos c, if_neg (show ¬ k = b by omega), if_neg (by decide)]
      · rw [if_neg c]
        by_cases c2 : k = b
        · rw [if_pos c2, if_neg (by decide)]
        · rw [if_neg c2, if_neg (by decide)]
theorem WFA_0 : WFA Q0 := by
  have w1 : WFc Q0 := ⟨by rw [q0 (by omega)]; omega, by rw [q0 (by omega)]; omega, fun p _ => by rw [q0 (by omega)]; omega, fun j hj => by
    have : nCh Q0 = 0 := rfl
    omega⟩
  have w2 : WFr Q0 := ⟨by rw [q0 (by omega)]; omega, fun k hk => by
    have : nRd Q0 = 0 := rfl
    omega⟩
  have w3 : WFk Q0 := fun r _ => by
    rw [q0 (by omega), bI_ext (q := fun _ => false) (fun i _ => tb_zero _), bI_false]
  have w4 : WFp Q0 := fun r p _ _ h => by
    rw [q0 (by omega), tb_zero] at h
    cases h
  have w5 : WFl Q0 := ⟨by rw [q0 (by omega)]; omega, by rw [q0 (by omega)]; omega, fun i hi => by
    have : nLt Q0 = 0 := rfl
    omega⟩
  refine ⟨⟨w1, w2, w3, w4, w5, fun r _ _ => q0 (by omega), fun i hi => by rw [q0_w hi]; omega, by rw [q0 (by omega)]; omega, fun i _ => by rw [q0 (by omega)]; omega⟩, ⟨by rw [q0 (by omega)]; omega, fun c hc => by
    have : nCv Q0 = 0 := rfl
    omega⟩, ⟨by rw [q0 (by omega)]; omega, fun i => by rw [q0 (by omega)]; omega⟩, fun f i h1 h2 h3 => ?_, fun k _ => .inl (q0 (by omega)), fun c => ⟨.inl (q0 (by omega)), .inl (q0 (by omega))⟩⟩
  by_cases e : f = 51
  · subst e
    have h4 : 17 ≤ i := h3
    exact if_neg fun c => by omega
  · exact q0 e
section ST
variable {M : Mem} {cn : Nat → Nat} {nc ns : Nat}
theorem Holds_0 (h : ∀ f k i, M.1 f k i = J0 f k i) : HoldsQ Q0 M.1 := ⟨fun f i hp => by rw [h, J0_hi (by unfold perF at hp; omega)], fun i hi => by
  have : nCh Q0 = 0 := rfl
  omega⟩
theorem RelC_0 (hI : ∀ f k i, M.1 f k i = J0 f k i) (hR : ∀ f k i, M.2.1 f k i = R00 f k i) (hc : ∀ f, cCnt M.2.2 f = cn f) (h1 : cn 4 = 1 ∧ cn 5 = 9 ∧ cn 13 = 0 ∧ cn 14 = 0) (h2 : cn 29 = 0 ∧ cn 30 = 0 ∧ cn 31 = 0 ∧ cn 32 = 0 ∧ cn 47 = 0) (h3 : cn 33 = 1 ∧ cn 34 = 1 ∧ cn 35 = 1 ∧ cn 36 = 1 ∧ cn 37 = 1 ∧ cn 38 = 1 ∧ cn 39 = 1) : RelC Q0 M := by
  have hS : Sh M.2.1 := Sh_R00.congr fun f k i _ => hR f k i
  have z : ∀ f k i, (f = 4 ∨ f = 33 ∨ f = 34 ∨ f = 35 ∨ f = 36 ∨ f = 39 ∨ f = 2 ∨ f = 16 ∨ f = 24 ∨ f = 8) → M.1 f k i = 0 := fun f k i hf => by
    rw [hI]
    unfold J0
    split <;> first | omega | rfl
  have e5 : M.1 6 0 2 = -1 := hI _ _ _
  have e14 : cCnt M.2.2 14 = 0 := (hc _).trans h1.2.2.2
  have wl : LenC Q0 M.1 := fun a b ha hb => by
    rw [hI]
    show (if 8 * a + b < 64 then (if (8 * a + b) / 8 = (8 * a + b) % 8 then (0 : Int) else 1000) else 0) = Dk Q0 8 a b
    rw [Dk_0, if_pos (by omega)]
    by_cases e : a = b
    · rw [if_pos e, if_pos (by omega)]
    · rw [if_neg e, if_neg (by omega)]
  have wn : ∀ a b, a < 8 → b < 8 → M.1 46 0 (8 * a + b) = nx Q0 a b := fun a b ha hb => by
    rw [hI]
    show (if 8 * a + b < 64 then (-1 : Int) else 0) = _
    rw [if_pos (by omega)]
    unfold nx
    rw [if_pos]
    by_cases e : a = b
    · exact .inl e
    · right
      show 1000 ≤ Dk Q0 8 a b
      rw [Dk_0, if_neg e]
      omega
  have rds : RoadsC Q0 M.1 0 := fun a b _ _ => z _ _ _ (by omega)
  refine ⟨⟨⟨hS, ⟨z _ _ _ (by omega), z _ _ _ (by omega), fun p _ => z _ _ _ (by omega), fun i hi => ?_⟩, ⟨⟨by omega, by rw [e5]; exact Int.le_trans (by decide) (Int.natCast_nonneg _), by omega⟩, by omega, ⟨by rw [hc, e14]; exact h2.1, by rw [hc, e14]; exact h2.2.1, by rw [hc, e14]; exact h2.2.2.1, by rw [hc, e14]; exact h2.2.2.2.1⟩, fun i hi => ?_, fun n hn => by omega, fun n hn => by omega⟩, FitC.no (z _ _ _ (by omega)) (fun j _ => z _ _ _ (by omega)), ⟨z _ _ _ (by omega), ⟨(hc _).trans h1.2.2.1, (hc _).trans h2.2.2.2.2⟩, fun c hc' => ?_⟩, fun r _ => z _ _ _ (by omega)⟩, ⟨wl, wn⟩, rds⟩, ⟨⟨z _ _ _ (by omega), z _ _ _ (by omega), z _ _ _ (by omega), z _ _ _ (by omega)⟩, fun i _ => z _ _ _ (by omega), rds, fun i hi => ?_, fun i _ => z _ _ _ (by omega), fun i hi => ?_, fun i _ => z _ _ _ (by omega), ⟨z _ _ _ (by omega), z _ _ _ (by omega)⟩, fun i hi => ?_, fun i hi => ?_⟩, ⟨z _ _ _ (by omega), fun i _ => z _ _ _ (by omega)⟩, ⟨fun k _ => .inl ⟨q0 (by omega), hR _ _ _⟩, fun k k' j _ _ e => ?_⟩, ⟨fun f hf => ?_, ?_, ?_⟩⟩
  · have : nCh Q0 = 0 := rfl
    omega
  · rw [e14, if_neg (by omega)]; exact hR _ _ _
  · have : nCv Q0 = 0 := rfl
    omega
  · have : nCh Q0 = 0 := rfl
    omega
  · rw [hI, q0_w hi]
    show (if i < 17 then (1 : Int) else 0) = 1
    rw [if_pos hi]
  · rw [hR]
    show (if i < 8 then some (5, i) else none) = some (5, i)
    rw [if_pos hi]
  · have : nLt Q0 = 0 := rfl
    omega
  · rw [hR] at e
    cases e
  · rw [hc, hc, h1.1]
    rcases hf with rfl | rfl | rfl | rfl | rfl | rfl | rfl
    · exact h3.1
    · exact h3.2.1
    · exact h3.2.2.1
    · exact h3.2.2.2.1
    · exact h3.2.2.2.2.1
    · exact h3.2.2.2.2.2.1
    · exact h3.2.2.2.2.2.2
  · rw [hc, hc, h1.1, h1.2.1]
  · rw [hc, h1.1]
    exact Nat.le_refl _
end ST
