/-! the lowest of a set -/
set_option maxRecDepth 4000 in
theorem xX11_leastOf_0 {l : Launch} {G : Gt} {d : Nat} {M M' : Mem} {r : Option Vl} {x0 : Int} (h : 
    (¬ (x0 = 0) → (InR (-x0) ∧ InR ((aAnd x0 (-x0)) - 1)) ∧ (∃ (r_5 : Int) (M_3 : Mem), Cl l G d mJ6_bitCount_0f7a4 [vI ((aAnd x0 (-x0)) - 1)] M (some (vI r_5)) M_3 ∧ r = some (vI r_5) ∧ M' = M_3)) ∧ (x0 = 0 → r = some (vI (-1)) ∧ M' = M)) : Cl l G (d + 1) mX11_leastOf [vI x0] M r M' := by
  show Ex l G (d + 1) mX11_leastOf 0 [some (vI x0)] [] M r M'
  refine r_iload_n 1 dX11_leastOf_0 rfl rfl ?_
  refine r_if_ne 4 8 dX11_leastOf_1 rfl rfl (fun c => ?_) (fun c => ?_)
  · have h := h.1 (c)
    obtain ⟨⟨o_1, o_2⟩, h⟩ := h
    refine r_iload_n 9 dX11_leastOf_8 rfl rfl ?_
    refine r_iload_n 10 dX11_leastOf_9 rfl rfl ?_
    refine r_ineg 11 dX11_leastOf_10 rfl o_1 ?_
    refine r_iand 12 dX11_leastOf_11 rfl ?_
    refine r_iconst 13 dX11_leastOf_12 rfl (InR_of rfl) ?_
    refine r_isub 14 dX11_leastOf_13 rfl o_2 ?_
    obtain ⟨r_5, M_3, hc_4, h⟩ := h
    refine c_1 [vI ((aAnd x0 (-x0)) - 1)] [] 17 dX11_leastOf_14 rfl rfl mo_J6_bitCount_0f7a4 ml_11_368 rfl rfl hc_4 ?_
    exact r_iret dX11_leastOf_17 rfl (.inl rfl) h.1 h.2
  · have h := h.2 (Decidable.not_not.mp c)
    refine r_iconst 5 dX11_leastOf_4 rfl (InR_of rfl) ?_
    refine r_goto 17 dX11_leastOf_5 rfl ?_
    exact r_iret dX11_leastOf_17 rfl (.inl rfl) h.1 h.2

theorem low_bit : ∀ (j x : Nat), x.testBit j = true → (∀ i, i < j → x.testBit i = false) → ∀ i, (x - 1).testBit i = if i < j then true else if i = j then false else x.testBit i := by
  intro j
  induction j with
  | zero =>
    intro x h1 _ i
    rw [Nat.testBit_zero] at h1
    have h1 := of_decide_eq_true h1
    cases i with
    | zero => rw [Nat.testBit_zero]; simp; omega
    | succ i =>
      rw [Nat.testBit_add_one, Nat.testBit_add_one, show (x - 1) / 2 = x / 2 by omega]
      simp
  | succ j ih =>
    intro x h1 h0 i
    have h2 := h0 0 (by omega)
    rw [Nat.testBit_zero] at h2
    have h2 := of_decide_eq_false h2
    rw [Nat.testBit_add_one] at h1
    have hx : x / 2 ≠ 0 := fun e => by rw [e, Nat.zero_testBit] at h1; cases h1
    have h3 := ih (x / 2) h1 (fun i hi => by have := h0 (i + 1) (by omega); rwa [Nat.testBit_add_one] at this)
    cases i with
    | zero => rw [Nat.testBit_zero]; simp; omega
    | succ i =>
      rw [Nat.testBit_add_one, Nat.testBit_add_one, show (x - 1) / 2 = x / 2 - 1 by omega, h3 i]
      simp only [Nat.add_lt_add_iff_right, Nat.add_right_cancel_iff]
theorem neg_not {x : Nat} (h : x < 2147483648) (h0 : x ≠ 0) : -(x : Int) = aXor ((x - 1 : Nat) : Int) (-1) := by
  refine tb_ext (by unfold InR; omega) (aXor_in _ _) fun i hi => ?_
  rw [tb_not _ hi]
  unfold tb
  have e : u32 (-(x : Int)) = 2 ^ 32 - (x - 1 + 1) := by unfold u32; omega
  rw [e, u32_nat (by omega), Int.toNat_natCast, Nat.testBit_two_pow_sub_succ (by omega)]
  simp [hi]
theorem low_and {n j : Nat} {f : Nat → Bool} (hn : n ≤ 30) (hj : j < n) (h1 : f j = true) (h0 : ∀ i, i < j → f i = false) : aAnd (bI n f) (-(bI n f)) = aShl 1 (j : Int) := by
  have hlt := bset_lt n f
  have h31 : 2 ^ n ≤ 2 ^ 30 := Nat.pow_le_pow_right (by omega) hn
  have hb : (bset n f).testBit j = true := by rw [bset_bit]; simp [hj, h1]
  have hne : bset n f ≠ 0 := fun e => by rw [e, Nat.zero_testBit] at hb; cases hb
  have hl := low_bit j (bset n f) hb (fun i hi => by rw [bset_bit, h0 i hi]; simp)
  refine tb_ext (aAnd_in _ _) (aShl_in _ _) fun i hi => ?_
  rw [tb_one_shl (by omega) (by omega), tb_and]
  unfold bI
  rw [neg_not (by omega) hne, tb_not _ hi, tb_nat (by omega), tb_nat (by omega), hl i, bset_bit]
  by_cases c : i < j
  · simp [c, h0 i c]; omega
  · by_cases c2 : i = j
    · subst c2; simp [hj, h1]
    · rw [if_neg c, if_neg c2]
      cases decide (i < n) <;> cases f i <;> simp <;> omega
theorem least_or (f : Nat → Bool) : ∀ n, (∀ i, i < n → f i = false) ∨ ∃ j, j < n ∧ f j = true ∧ ∀ i, i < j → f i = false := by
  intro n
  induction n with
  | zero => exact .inl fun i hi => by omega
  | succ n ih =>
    rcases ih with h | ⟨j, h1, h2, h3⟩
    · cases e : f n with
      | true => exact .inr ⟨n, by omega, e, h⟩
      | false =>
        refine .inl fun i hi => ?_
        by_cases c : i = n
        · rw [c]; exact e
        · exact h i (by omega)
    · exact .inr ⟨j, by omega, h2, h3⟩
section LE
variable {l : Launch} {G : Gt} {d : Nat} {M : Mem}
theorem KX11_leastOf {n : Nat} {f : Nat → Bool} (hn : n ≤ 16) : Cl l G (d + 1) mX11_leastOf [vI (bI n f)] M (some (vI (firstF f n))) M := by
  rcases least_or f n with h | ⟨j, h1, h2, h3⟩
  · have e := (bI_zero_iff (n := n) (by omega) f).mpr h
    refine xX11_leastOf_0 ⟨fun c => absurd e c, fun _ => ⟨by rw [firstF_none h], rfl⟩⟩
  · have hne : ¬ bI n f = 0 := fun e => by
      have := (bI_zero_iff (n := n) (by omega) f).mp e j h1
      rw [h2] at this
      cases this
    have hin := bI_in (n := n) (by omega) f
    have hnn := bI_nn (n := n) (p := f)
    refine xX11_leastOf_0 ⟨fun _ => ?_, fun c => absurd c hne⟩
    rw [low_and (by omega) h1 h2 h3, pow_sub_one (by omega)]
    refine ⟨⟨by unfold InR at *; omega, bI_in (by omega) _⟩, (cnt (fun _ => true) j : Int), M, KJ6_bits (by omega), ?_, rfl⟩
    rw [firstF_at h3 h2 h1]
    have hall : ∀ m, cnt (fun _ => true) m = m := by
      intro m
      induction m with
      | zero => rfl
      | succ m ih => rw [show cnt (fun _ => true) (m + 1) = cnt (fun _ => true) m + 1 from rfl, ih]
    rw [hall]
theorem KX12_lowestF {n : Nat} {f : Nat → Bool} (hn : n ≤ 31) (h : ¬ bI n f = 0) : Cl l G (d + 1) mX12_lowest [vI (bI n f)] M (some (vI (firstF f n))) M := by
  rcases least_or f n with e | ⟨j, h1, h2, h3⟩
  · exact absurd ((bI_zero_iff hn f).mpr e) h
  · rw [firstF_at h3 h2 h1]
    exact KX12_lowest hn h1 h2 h3
end LE
