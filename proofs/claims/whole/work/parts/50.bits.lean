/-! sets of people: and, or, without, how many -/
set_option maxRecDepth 4000 in
theorem xX12_bits_0 {l : Launch} {G : Gt} {d : Nat} {M M' : Mem} {r : Option Vl} {x0 : Int} (h : 
    Ex l G d mX12_bits 4 [some (vI x0), some (vI 0), some (vI x0)] [] M r M') : Cl l G d mX12_bits [vI x0] M r M' := by
  show Ex l G d mX12_bits 0 [some (vI x0), none, none] [] M r M'
  refine r_iconst 1 dX12_bits_0 rfl (InR_of rfl) ?_
  refine r_istore_n (ls' := [some (vI x0), some (vI 0), none]) 2 dX12_bits_1 rfl rfl rfl rfl ?_
  refine r_iload_n 3 dX12_bits_2 rfl rfl ?_
  refine r_istore_n (ls' := [some (vI x0), some (vI 0), some (vI x0)]) 4 dX12_bits_3 rfl rfl rfl rfl ?_
  exact h
set_option maxRecDepth 4000 in
theorem xX12_bits_4 {l : Launch} {G : Gt} {d : Nat} {M M' : Mem} {r : Option Vl} {x0 : Int} {x1 : Int} {x2 : Int} (h : 
    (x2 = 0 → r = some (vI x1) ∧ M' = M) ∧ (¬ (x2 = 0) → (InR (x1 + 1) ∧ InR (x2 - 1)) ∧ Ex l G d mX12_bits 4 [some (vI x0), some (vI (x1 + 1)), some (vI (aAnd x2 (x2 - 1)))] [] M r M')) : Ex l G d mX12_bits 4 [some (vI x0), some (vI x1), some (vI x2)] [] M r M' := by
  refine r_iload_n 5 dX12_bits_4 rfl rfl ?_
  refine r_if_eq 8 20 dX12_bits_5 rfl rfl (fun c => ?_) (fun c => ?_)
  · have h := h.1 (c)
    refine r_iload_n 21 dX12_bits_20 rfl rfl ?_
    exact r_iret dX12_bits_21 rfl (.inl rfl) h.1 h.2
  · have h := h.2 (c)
    obtain ⟨⟨o_1, o_2⟩, h⟩ := h
    refine r_iinc (ls' := [some (vI x0), some (vI (x1 + 1)), some (vI x2)]) 11 dX12_bits_8 rfl rfl rfl rfl o_1 rfl ?_
    refine r_iload_n 12 dX12_bits_11 rfl rfl ?_
    refine r_iload_n 13 dX12_bits_12 rfl rfl ?_
    refine r_iconst 14 dX12_bits_13 rfl (InR_of rfl) ?_
    refine r_isub 15 dX12_bits_14 rfl o_2 ?_
    refine r_iand 16 dX12_bits_15 rfl ?_
    refine r_istore_n (ls' := [some (vI x0), some (vI (x1 + 1)), some (vI (aAnd x2 (x2 - 1)))]) 17 dX12_bits_16 rfl rfl rfl rfl ?_
    refine r_goto 4 dX12_bits_17 rfl ?_
    exact h

set_option maxRecDepth 4000 in
theorem xX12_lowest_0 {l : Launch} {G : Gt} {d : Nat} {M M' : Mem} {r : Option Vl} {x0 : Int} (h : 
    Ex l G (d + 1) mX12_lowest 2 [some (vI x0), some (vI 0)] [] M r M') : Cl l G (d + 1) mX12_lowest [vI x0] M r M' := by
  show Ex l G (d + 1) mX12_lowest 0 [some (vI x0), none] [] M r M'
  refine r_iconst 1 dX12_lowest_0 rfl (InR_of rfl) ?_
  refine r_istore_n (ls' := [some (vI x0), some (vI 0)]) 2 dX12_lowest_1 rfl rfl rfl rfl ?_
  exact h
set_option maxRecDepth 4000 in
theorem xX12_lowest_2 {l : Launch} {G : Gt} {d : Nat} {M M' : Mem} {r : Option Vl} {x0 : Int} {x1 : Int} (h : 
    ((0 ≤ x0 ∧ 0 ≤ x1 ∧ x1 < 32)) ∧ ((tb x0 x1 = true → r = some (vI x1) ∧ M' = M) ∧ (¬ (tb x0 x1 = true) → (InR (x1 + 1)) ∧ Ex l G (d + 1) mX12_lowest 2 [some (vI x0), some (vI (x1 + 1))] [] M r M'))) : Ex l G (d + 1) mX12_lowest 2 [some (vI x0), some (vI x1)] [] M r M' := by
  obtain ⟨o_1, h⟩ := h
  refine r_iload_n 3 dX12_lowest_2 rfl rfl ?_
  refine r_iload_n 4 dX12_lowest_3 rfl rfl ?_
  refine c_1 [vI x0, vI x1] [] 7 dX12_lowest_4 rfl rfl mo_X12_has ml_12_148 rfl rfl (KX12_has o_1) ?_
  refine r_if_ne 10 16 dX12_lowest_7 rfl rfl (fun c => ?_) (fun c => ?_)
  · have h := h.1 (b2_1.mp c)
    refine r_iload_n 17 dX12_lowest_16 rfl rfl ?_
    exact r_iret dX12_lowest_17 rfl (.inl rfl) h.1 h.2
  · have h := h.2 (b2_0.mp (Decidable.not_not.mp c))
    obtain ⟨o_2, h⟩ := h
    refine r_iinc (ls' := [some (vI x0), some (vI (x1 + 1))]) 13 dX12_lowest_10 rfl rfl rfl rfl o_2 rfl ?_
    refine r_goto 2 dX12_lowest_13 rfl ?_
    exact h

theorem bI_and {n : Nat} (h : n ≤ 31) (p q : Nat → Bool) : aAnd (bI n p) (bI n q) = bI n (fun i => p i && q i) := by
  refine bI_of h (aAnd_in _ _) fun i hi => ?_
  rw [tb_and, tb_bI h, tb_bI h]
  cases decide (i < n) <;> simp
theorem bI_or {n : Nat} (h : n ≤ 31) (p q : Nat → Bool) : aOr (bI n p) (bI n q) = bI n (fun i => p i || q i) := by
  refine bI_of h (aOr_in _ _) fun i hi => ?_
  rw [tb_or, tb_bI h, tb_bI h]
  cases decide (i < n) <;> simp
theorem bI_diff {n : Nat} (h : n ≤ 31) (p q : Nat → Bool) : aAnd (bI n p) (aXor (bI n q) (-1)) = bI n (fun i => p i && !q i) := by
  refine bI_of h (aAnd_in _ _) fun i hi => ?_
  rw [tb_and, tb_not _ hi, tb_bI h, tb_bI h]
  cases decide (i < n) <;> simp
theorem bI_one {n s : Nat} (h : n ≤ 31) (hs : s < n) : aShl 1 (s : Int) = bI n (fun i => decide (i = s)) := by
  refine bI_of h (aShl_in _ _) fun i hi => ?_
  rw [tb_one_shl (by omega) (by omega)]
  by_cases e : i = s
  · subst e; simp [hs]
  · simp [e]; omega
theorem bI_zero_iff {n : Nat} (h : n ≤ 31) (p : Nat → Bool) : bI n p = 0 ↔ ∀ i, i < n → p i = false := by
  constructor
  · intro e i hi
    have := tb_bI h p i
    rw [e, tb_zero] at this
    simpa [hi] using this.symm
  · intro e
    have := bI_ext (p := p) (q := fun _ => false) e
    rw [this]
    exact (bI_of (p := fun _ => false) h (by unfold InR; omega) fun i _ => by rw [tb_zero]; simp).symm
theorem cnt_ext {p q : Nat → Bool} : ∀ {n : Nat}, (∀ i, i < n → p i = q i) → cnt p n = cnt q n := by
  intro n
  induction n with
  | zero => intros; rfl
  | succ n ih => intro h; unfold cnt; rw [ih fun i hi => h i (by omega), h n (by omega)]
theorem cnt_low {p : Nat → Bool} : ∀ {n : Nat}, cnt p (n + 1) = (if p 0 then 1 else 0) + cnt (fun i => p (i + 1)) n := by
  intro n
  induction n with
  | zero => unfold cnt; simp [cnt]
  | succ n ih =>
    rw [show cnt p (n + 1 + 1) = cnt p (n + 1) + (if p (n + 1) then 1 else 0) from rfl, ih]
    rw [show cnt (fun i => p (i + 1)) (n + 1) = cnt (fun i => p (i + 1)) n + (if p (n + 1) then 1 else 0) from rfl]
    omega
theorem pc_step : ∀ n x : Nat, x < 2 ^ n → x ≠ 0 → cnt (fun i => (x &&& (x - 1)).testBit i) n + 1 = cnt (fun i => x.testBit i) n := by
  intro n
  induction n with
  | zero => intro x h1 h2; omega
  | succ n ih =>
    intro x h1 h2
    rw [cnt_low, cnt_low]
    simp only [Nat.testBit_and]
    simp only [Nat.testBit_add_one, Nat.testBit_zero]
    rw [Nat.pow_succ] at h1
    by_cases c : x % 2 = 1
    · rw [show (x - 1) / 2 = x / 2 by omega]
      simp [c, show ¬ (x - 1) % 2 = 1 by omega, show (x - 1) % 2 = 0 by omega]
      omega
    · have h3 := ih (x / 2) (by omega) (by omega)
      rw [show (x - 1) / 2 = x / 2 - 1 by omega]
      simp only [Nat.testBit_and] at h3
      simp [c]
      omega
theorem cnt_bset {n : Nat} {p : Nat → Bool} : cnt (fun i => (bset n p).testBit i) n = cnt p n := cnt_ext fun i hi => by rw [bset_bit]; simp [hi]
theorem cnt_none {p : Nat → Bool} : ∀ {n : Nat}, (∀ i, i < n → p i = false) → cnt p n = 0 := by
  intro n
  induction n with
  | zero => intros; rfl
  | succ n ih => intro h; unfold cnt; rw [ih fun i hi => h i (by omega), h n (by omega)]; rfl
theorem and_nat {a b : Nat} (ha : a < 2147483648) (hb : b < 2147483648) : aAnd (a : Int) (b : Int) = ((a &&& b : Nat) : Int) := by
  rw [← s32_u32 (aAnd_in _ _), u32_and, u32_nat (by omega), u32_nat (by omega), s32_nat (Nat.lt_of_le_of_lt Nat.and_le_left ha)]
section BT
variable {l : Launch} {G : Gt} {d : Nat} {M : Mem}
theorem KX12_bits {n : Nat} {f : Nat → Bool} (hn : n ≤ 31) : Cl l G d mX12_bits [vI (bI n f)] M (some (vI (cnt f n : Int))) M := by
  have key : ∀ (m : Nat) (x : Nat) (s : Int), x < 2 ^ n → cnt (fun i => x.testBit i) n = m → 0 ≤ s → s + m ≤ 100 → Ex l G d mX12_bits 4 [some (vI (bI n f)), some (vI s), some (vI (x : Int))] [] M (some (vI (s + m))) M := by
    intro m
    induction m with
    | zero =>
      intro x s hx hc h0 h1
      have e : x = 0 := by
        by_cases e : x = 0
        · exact e
        · have := pc_step n x hx e; omega
      subst e
      exact xX12_bits_4 ⟨fun _ => ⟨by simp, rfl⟩, fun c => absurd rfl c⟩
    | succ m ih =>
      intro x s hx hc h0 h1
      have h31 : 2 ^ n ≤ 2 ^ 31 := Nat.pow_le_pow_right (by omega) hn
      have e : x ≠ 0 := fun e => by
        subst e
        have := cnt_none (p := fun i => (0 : Nat).testBit i) (n := n) (fun i _ => Nat.zero_testBit i)
        omega
      have hp := pc_step n x hx e
      have hle := cnt_le (fun i => x.testBit i) n
      have e1 : ((x : Int) - 1) = ((x - 1 : Nat) : Int) := by omega
      have hl : x &&& (x - 1) ≤ x := Nat.and_le_left
      refine xX12_bits_4 ⟨fun c => absurd c (by omega), fun _ => ⟨⟨by unfold InR; omega, by unfold InR; omega⟩, ?_⟩⟩
      rw [e1, and_nat (by omega) (by omega)]
      have h := ih (x &&& (x - 1)) (s + 1) (by omega) (by omega) (by omega) ?_
      · rw [show s + 1 + (m : Int) = s + ((m + 1 : Nat) : Int) by omega] at h
        exact h
      · omega
  have h := key (cnt f n) (bset n f) 0 (bset_lt n f) cnt_bset (by omega) (by have := cnt_le f n; omega)
  rw [Int.zero_add] at h
  exact xX12_bits_0 h
theorem KX12_lowest {n j : Nat} {f : Nat → Bool} (hn : n ≤ 31) (hj : j < n) (h1 : f j = true) (h0 : ∀ i, i < j → f i = false) : Cl l G (d + 1) mX12_lowest [vI (bI n f)] M (some (vI (j : Int))) M := by
  refine xX12_lowest_0 ?_
  refine loopUp (P := fun i => Ex l G (d + 1) mX12_lowest 2 [some (vI (bI n f)), some (vI (i : Int))] [] M (some (vI (j : Int))) M) 0 j (Nat.zero_le _) ?_ ?_
  · intro i _ hi ih
    have ht := tb_bI hn f i
    rw [h0 i hi] at ht
    refine xX12_lowest_2 ⟨⟨bI_nn, by omega, by omega⟩, fun c => absurd c (by rw [ht]; simp), fun _ => ⟨by unfold InR; omega, ih⟩⟩
  · have ht := tb_bI hn f j
    rw [h1] at ht
    refine xX12_lowest_2 ⟨⟨bI_nn, by omega, by omega⟩, fun _ => ⟨rfl, rfl⟩, fun c => absurd (by rw [ht]; simp [hj]) c⟩
end BT
