set_option maxRecDepth 4000 in
theorem xJ6_bitCount_0f7a4_0 {l : Launch} {G : Gt} {d : Nat} {M M' : Mem} {r : Option Vl} {x0 : Int} (h : 
    (InR (x0 - (aAnd (aUshr x0 1) 1431655765)) ∧ InR ((aAnd (x0 - (aAnd (aUshr x0 1) 1431655765)) 858993459) + (aAnd (aUshr (x0 - (aAnd (aUshr x0 1) 1431655765)) 2) 858993459)) ∧ InR (((aAnd (x0 - (aAnd (aUshr x0 1) 1431655765)) 858993459) + (aAnd (aUshr (x0 - (aAnd (aUshr x0 1) 1431655765)) 2) 858993459)) + (aUshr ((aAnd (x0 - (aAnd (aUshr x0 1) 1431655765)) 858993459) + (aAnd (aUshr (x0 - (aAnd (aUshr x0 1) 1431655765)) 2) 858993459)) 4)) ∧ InR ((aAnd (((aAnd (x0 - (aAnd (aUshr x0 1) 1431655765)) 858993459) + (aAnd (aUshr (x0 - (aAnd (aUshr x0 1) 1431655765)) 2) 858993459)) + (aUshr ((aAnd (x0 - (aAnd (aUshr x0 1) 1431655765)) 858993459) + (aAnd (aUshr (x0 - (aAnd (aUshr x0 1) 1431655765)) 2) 858993459)) 4)) 252645135) + (aUshr (aAnd (((aAnd (x0 - (aAnd (aUshr x0 1) 1431655765)) 858993459) + (aAnd (aUshr (x0 - (aAnd (aUshr x0 1) 1431655765)) 2) 858993459)) + (aUshr ((aAnd (x0 - (aAnd (aUshr x0 1) 1431655765)) 858993459) + (aAnd (aUshr (x0 - (aAnd (aUshr x0 1) 1431655765)) 2) 858993459)) 4)) 252645135) 8)) ∧ InR (((aAnd (((aAnd (x0 - (aAnd (aUshr x0 1) 1431655765)) 858993459) + (aAnd (aUshr (x0 - (aAnd (aUshr x0 1) 1431655765)) 2) 858993459)) + (aUshr ((aAnd (x0 - (aAnd (aUshr x0 1) 1431655765)) 858993459) + (aAnd (aUshr (x0 - (aAnd (aUshr x0 1) 1431655765)) 2) 858993459)) 4)) 252645135) + (aUshr (aAnd (((aAnd (x0 - (aAnd (aUshr x0 1) 1431655765)) 858993459) + (aAnd (aUshr (x0 - (aAnd (aUshr x0 1) 1431655765)) 2) 858993459)) + (aUshr ((aAnd (x0 - (aAnd (aUshr x0 1) 1431655765)) 858993459) + (aAnd (aUshr (x0 - (aAnd (aUshr x0 1) 1431655765)) 2) 858993459)) 4)) 252645135) 8)) + (aUshr ((aAnd (((aAnd (x0 - (aAnd (aUshr x0 1) 1431655765)) 858993459) + (aAnd (aUshr (x0 - (aAnd (aUshr x0 1) 1431655765)) 2) 858993459)) + (aUshr ((aAnd (x0 - (aAnd (aUshr x0 1) 1431655765)) 858993459) + (aAnd (aUshr (x0 - (aAnd (aUshr x0 1) 1431655765)) 2) 858993459)) 4)) 252645135) + (aUshr (aAnd (((aAnd (x0 - (aAnd (aUshr x0 1) 1431655765)) 858993459) + (aAnd (aUshr (x0 - (aAnd (aUshr x0 1) 1431655765)) 2) 858993459)) + (aUshr ((aAnd (x0 - (aAnd (aUshr x0 1) 1431655765)) 858993459) + (aAnd (aUshr (x0 - (aAnd (aUshr x0 1) 1431655765)) 2) 858993459)) 4)) 252645135) 8)) 16))) ∧ r = some (vI (aAnd (((aAnd (((aAnd (x0 - (aAnd (aUshr x0 1) 1431655765)) 858993459) + (aAnd (aUshr (x0 - (aAnd (aUshr x0 1) 1431655765)) 2) 858993459)) + (aUshr ((aAnd (x0 - (aAnd (aUshr x0 1) 1431655765)) 858993459) + (aAnd (aUshr (x0 - (aAnd (aUshr x0 1) 1431655765)) 2) 858993459)) 4)) 252645135) + (aUshr (aAnd (((aAnd (x0 - (aAnd (aUshr x0 1) 1431655765)) 858993459) + (aAnd (aUshr (x0 - (aAnd (aUshr x0 1) 1431655765)) 2) 858993459)) + (aUshr ((aAnd (x0 - (aAnd (aUshr x0 1) 1431655765)) 858993459) + (aAnd (aUshr (x0 - (aAnd (aUshr x0 1) 1431655765)) 2) 858993459)) 4)) 252645135) 8)) + (aUshr ((aAnd (((aAnd (x0 - (aAnd (aUshr x0 1) 1431655765)) 858993459) + (aAnd (aUshr (x0 - (aAnd (aUshr x0 1) 1431655765)) 2) 858993459)) + (aUshr ((aAnd (x0 - (aAnd (aUshr x0 1) 1431655765)) 858993459) + (aAnd (aUshr (x0 - (aAnd (aUshr x0 1) 1431655765)) 2) 858993459)) 4)) 252645135) + (aUshr (aAnd (((aAnd (x0 - (aAnd (aUshr x0 1) 1431655765)) 858993459) + (aAnd (aUshr (x0 - (aAnd (aUshr x0 1) 1431655765)) 2) 858993459)) + (aUshr ((aAnd (x0 - (aAnd (aUshr x0 1) 1431655765)) 858993459) + (aAnd (aUshr (x0 - (aAnd (aUshr x0 1) 1431655765)) 2) 858993459)) 4)) 252645135) 8)) 16)) 63)) ∧ M' = M) : Cl l G d mJ6_bitCount_0f7a4 [vI x0] M r M' := by
  show Ex l G d mJ6_bitCount_0f7a4 0 [some (vI x0)] [] M r M'
  obtain ⟨⟨o_1, o_2, o_3, o_4, o_5⟩, h⟩ := h
  refine r_iload_n 1 dJ6_bitCount_0f7a4_0 rfl rfl ?_
  refine r_iload_n 2 dJ6_bitCount_0f7a4_1 rfl rfl ?_
  refine r_iconst 3 dJ6_bitCount_0f7a4_2 rfl (InR_of rfl) ?_
  refine r_iushr 4 dJ6_bitCount_0f7a4_3 rfl ⟨by decide, by decide⟩ ?_
  refine r_ldcw (n := 1431655765) 7 dJ6_bitCount_0f7a4_4 rfl (inT4 (List.mem_of_getElem? (i := 59) rfl) rfl) (by decide +kernel) (InR_of rfl) ?_
  refine r_iand 8 dJ6_bitCount_0f7a4_7 rfl ?_
  refine r_isub 9 dJ6_bitCount_0f7a4_8 rfl o_1 ?_
  refine r_istore_n (ls' := [some (vI (x0 - (aAnd (aUshr x0 1) 1431655765)))]) 10 dJ6_bitCount_0f7a4_9 rfl rfl rfl rfl ?_
  refine r_iload_n 11 dJ6_bitCount_0f7a4_10 rfl rfl ?_
  refine r_ldcw (n := 858993459) 14 dJ6_bitCount_0f7a4_11 rfl (inT4 (List.mem_of_getElem? (i := 60) rfl) rfl) (by decide +kernel) (InR_of rfl) ?_
  refine r_iand 15 dJ6_bitCount_0f7a4_14 rfl ?_
  refine r_iload_n 16 dJ6_bitCount_0f7a4_15 rfl rfl ?_
  refine r_iconst 17 dJ6_bitCount_0f7a4_16 rfl (InR_of rfl) ?_
  refine r_iushr 18 dJ6_bitCount_0f7a4_17 rfl ⟨by decide, by decide⟩ ?_
  refine r_ldcw (n := 858993459) 21 dJ6_bitCount_0f7a4_18 rfl (inT4 (List.mem_of_getElem? (i := 60) rfl) rfl) (by decide +kernel) (InR_of rfl) ?_
  refine r_iand 22 dJ6_bitCount_0f7a4_21 rfl ?_
  refine r_iadd 23 dJ6_bitCount_0f7a4_22 rfl o_2 ?_
  refine r_istore_n (ls' := [some (vI ((aAnd (x0 - (aAnd (aUshr x0 1) 1431655765)) 858993459) + (aAnd (aUshr (x0 - (aAnd (aUshr x0 1) 1431655765)) 2) 858993459)))]) 24 dJ6_bitCount_0f7a4_23 rfl rfl rfl rfl ?_
  refine r_iload_n 25 dJ6_bitCount_0f7a4_24 rfl rfl ?_
  refine r_iload_n 26 dJ6_bitCount_0f7a4_25 rfl rfl ?_
  refine r_iconst 27 dJ6_bitCount_0f7a4_26 rfl (InR_of rfl) ?_
  refine r_iushr 28 dJ6_bitCount_0f7a4_27 rfl ⟨by decide, by decide⟩ ?_
  refine r_iadd 29 dJ6_bitCount_0f7a4_28 rfl o_3 ?_
  refine r_ldcw (n := 252645135) 32 dJ6_bitCount_0f7a4_29 rfl (inT4 (List.mem_of_getElem? (i := 61) rfl) rfl) (by decide +kernel) (InR_of rfl) ?_
  refine r_iand 33 dJ6_bitCount_0f7a4_32 rfl ?_
  refine r_istore_n (ls' := [some (vI (aAnd (((aAnd (x0 - (aAnd (aUshr x0 1) 1431655765)) 858993459) + (aAnd (aUshr (x0 - (aAnd (aUshr x0 1) 1431655765)) 2) 858993459)) + (aUshr ((aAnd (x0 - (aAnd (aUshr x0 1) 1431655765)) 858993459) + (aAnd (aUshr (x0 - (aAnd (aUshr x0 1) 1431655765)) 2) 858993459)) 4)) 252645135))]) 34 dJ6_bitCount_0f7a4_33 rfl rfl rfl rfl ?_
  refine r_iload_n 35 dJ6_bitCount_0f7a4_34 rfl rfl ?_
  refine r_iload_n 36 dJ6_bitCount_0f7a4_35 rfl rfl ?_
  refine r_bipush 38 dJ6_bitCount_0f7a4_36 rfl rfl ?_
  refine r_iushr 39 dJ6_bitCount_0f7a4_38 rfl ⟨by decide, by decide⟩ ?_
  refine r_iadd 40 dJ6_bitCount_0f7a4_39 rfl o_4 ?_
  refine r_istore_n (ls' := [some (vI ((aAnd (((aAnd (x0 - (aAnd (aUshr x0 1) 1431655765)) 858993459) + (aAnd (aUshr (x0 - (aAnd (aUshr x0 1) 1431655765)) 2) 858993459)) + (aUshr ((aAnd (x0 - (aAnd (aUshr x0 1) 1431655765)) 858993459) + (aAnd (aUshr (x0 - (aAnd (aUshr x0 1) 1431655765)) 2) 858993459)) 4)) 252645135) + (aUshr (aAnd (((aAnd (x0 - (aAnd (aUshr x0 1) 1431655765)) 858993459) + (aAnd (aUshr (x0 - (aAnd (aUshr x0 1) 1431655765)) 2) 858993459)) + (aUshr ((aAnd (x0 - (aAnd (aUshr x0 1) 1431655765)) 858993459) + (aAnd (aUshr (x0 - (aAnd (aUshr x0 1) 1431655765)) 2) 858993459)) 4)) 252645135) 8)))]) 41 dJ6_bitCount_0f7a4_40 rfl rfl rfl rfl ?_
  refine r_iload_n 42 dJ6_bitCount_0f7a4_41 rfl rfl ?_
  refine r_iload_n 43 dJ6_bitCount_0f7a4_42 rfl rfl ?_
  refine r_bipush 45 dJ6_bitCount_0f7a4_43 rfl rfl ?_
  refine r_iushr 46 dJ6_bitCount_0f7a4_45 rfl ⟨by decide, by decide⟩ ?_
  refine r_iadd 47 dJ6_bitCount_0f7a4_46 rfl o_5 ?_
  refine r_istore_n (ls' := [some (vI (((aAnd (((aAnd (x0 - (aAnd (aUshr x0 1) 1431655765)) 858993459) + (aAnd (aUshr (x0 - (aAnd (aUshr x0 1) 1431655765)) 2) 858993459)) + (aUshr ((aAnd (x0 - (aAnd (aUshr x0 1) 1431655765)) 858993459) + (aAnd (aUshr (x0 - (aAnd (aUshr x0 1) 1431655765)) 2) 858993459)) 4)) 252645135) + (aUshr (aAnd (((aAnd (x0 - (aAnd (aUshr x0 1) 1431655765)) 858993459) + (aAnd (aUshr (x0 - (aAnd (aUshr x0 1) 1431655765)) 2) 858993459)) + (aUshr ((aAnd (x0 - (aAnd (aUshr x0 1) 1431655765)) 858993459) + (aAnd (aUshr (x0 - (aAnd (aUshr x0 1) 1431655765)) 2) 858993459)) 4)) 252645135) 8)) + (aUshr ((aAnd (((aAnd (x0 - (aAnd (aUshr x0 1) 1431655765)) 858993459) + (aAnd (aUshr (x0 - (aAnd (aUshr x0 1) 1431655765)) 2) 858993459)) + (aUshr ((aAnd (x0 - (aAnd (aUshr x0 1) 1431655765)) 858993459) + (aAnd (aUshr (x0 - (aAnd (aUshr x0 1) 1431655765)) 2) 858993459)) 4)) 252645135) + (aUshr (aAnd (((aAnd (x0 - (aAnd (aUshr x0 1) 1431655765)) 858993459) + (aAnd (aUshr (x0 - (aAnd (aUshr x0 1) 1431655765)) 2) 858993459)) + (aUshr ((aAnd (x0 - (aAnd (aUshr x0 1) 1431655765)) 858993459) + (aAnd (aUshr (x0 - (aAnd (aUshr x0 1) 1431655765)) 2) 858993459)) 4)) 252645135) 8)) 16)))]) 48 dJ6_bitCount_0f7a4_47 rfl rfl rfl rfl ?_
  refine r_iload_n 49 dJ6_bitCount_0f7a4_48 rfl rfl ?_
  refine r_bipush 51 dJ6_bitCount_0f7a4_49 rfl rfl ?_
  refine r_iand 52 dJ6_bitCount_0f7a4_51 rfl ?_
  exact r_iret dJ6_bitCount_0f7a4_52 rfl (.inl rfl) h.1 h.2

theorem bck_all : ∀ (n x m : Nat), bck n x m = true → ∀ f : Nat → Bool, bcN (x + bset n f) = m + cnt f n ∧ bc1 (x + bset n f) ≤ 2000000000 ∧ bc2 (bc1 (x + bset n f)) ≤ 1000000000 := by
  intro n
  induction n with
  | zero =>
    intro x m h f
    unfold bck at h
    rw [Bool.and_eq_true, Bool.and_eq_true] at h
    exact ⟨Nat.eq_of_beq_eq_true h.1.1, Nat.le_of_ble_eq_true h.1.2, Nat.le_of_ble_eq_true h.2⟩
  | succ n ih =>
    intro x m h f
    unfold bck at h
    rw [Bool.and_eq_true] at h
    rw [show bset (n + 1) f = bset n f + (if f n then 2 ^ n else 0) from rfl, show cnt f (n + 1) = cnt f n + (if f n then 1 else 0) from rfl]
    by_cases c : f n = true
    · have h2 := ih _ _ h.2 f
      rw [if_pos c, if_pos c, show x + (bset n f + 2 ^ n) = x + 2 ^ n + bset n f by omega]
      refine ⟨?_, h2.2⟩
      rw [h2.1]; omega
    · have h2 := ih _ _ h.1 f
      rw [if_neg c, if_neg c, Nat.add_zero, Nat.add_zero]
      exact h2
theorem ushr_nat {a s : Nat} (ha : a < 2147483648) : aUshr (a : Int) (s : Int) = ((a / 2 ^ s : Nat) : Int) := by
  unfold aUshr
  rw [u32_nat (by omega), s32_nat (Nat.lt_of_le_of_lt (Nat.div_le_self _ _) ha), Int.toNat_natCast]
theorem KJ6_bits16 {l : Launch} {G : Gt} {d : Nat} {M : Mem} {f : Nat → Bool} : Cl l G d mJ6_bitCount_0f7a4 [vI (bI 16 f)] M (some (vI (cnt f 16 : Int))) M := by
  have hx := bset_lt 16 f
  have hc := bck_all 16 0 0 bck16 f
  rw [Nat.zero_add, Nat.zero_add] at hc
  have eX : bI 16 f = ((bset 16 f : Nat) : Int) := rfl
  obtain ⟨X, hX⟩ : ∃ X, bset 16 f = X := ⟨_, rfl⟩
  rw [hX] at hc hx eX
  rw [eX]
  obtain ⟨hc1, hc2, hc3⟩ := hc
  have hl1 : (X / 2 &&& 1431655765) ≤ X / 2 := Nat.and_le_left
  have e1 : (X : Int) - aAnd (aUshr (X : Int) 1) 1431655765 = ((bc1 X : Nat) : Int) := by
    have u : aUshr (X : Int) 1 = ((X / 2 : Nat) : Int) := ushr_nat (s := 1) (by omega)
    have a : aAnd ((X / 2 : Nat) : Int) 1431655765 = ((X / 2 &&& 1431655765 : Nat) : Int) := and_nat (b := 1431655765) (by omega) (by omega)
    rw [u, a]
    unfold bc1
    omega
  obtain ⟨Y, hY⟩ : ∃ Y, bc1 X = Y := ⟨_, rfl⟩
  have e2 : aAnd (Y : Int) 858993459 + aAnd (aUshr (Y : Int) 2) 858993459 = ((bc2 Y : Nat) : Int) := by
    have u : aUshr (Y : Int) 2 = ((Y / 4 : Nat) : Int) := ushr_nat (s := 2) (by omega)
    have a : aAnd ((Y / 4 : Nat) : Int) 858993459 = ((Y / 4 &&& 858993459 : Nat) : Int) := and_nat (b := 858993459) (by omega) (by omega)
    have a2 : aAnd (Y : Int) 858993459 = ((Y &&& 858993459 : Nat) : Int) := and_nat (b := 858993459) (by omega) (by omega)
    rw [u, a, a2]
    unfold bc2
    omega
  rw [hY] at hc2 hc3 e1
  obtain ⟨Z, hZ⟩ : ∃ Z, bc2 Y = Z := ⟨_, rfl⟩
  rw [hZ] at hc3 e2
  have e3 : (Z : Int) + aUshr (Z : Int) 4 = ((Z + Z / 16 : Nat) : Int) := by
    have u : aUshr (Z : Int) 4 = ((Z / 16 : Nat) : Int) := ushr_nat (s := 4) (by omega)
    rw [u]
    omega
  have e4 : aAnd ((Z + Z / 16 : Nat) : Int) 252645135 = ((bc3 Z : Nat) : Int) := and_nat (b := 252645135) (by omega) (by omega)
  have hl3 : bc3 Z ≤ 252645135 := by unfold bc3; exact Nat.and_le_right
  obtain ⟨W, hW⟩ : ∃ W, bc3 Z = W := ⟨_, rfl⟩
  rw [hW] at e4 hl3
  have e5 : (W : Int) + aUshr (W : Int) 8 = ((bc4 W : Nat) : Int) := by
    have u : aUshr (W : Int) 8 = ((W / 256 : Nat) : Int) := ushr_nat (s := 8) (by omega)
    rw [u]
    unfold bc4
    omega
  have hl4 : bc4 W ≤ 300000000 := by unfold bc4; omega
  obtain ⟨V, hV⟩ : ∃ V, bc4 W = V := ⟨_, rfl⟩
  rw [hV] at e5 hl4
  have e6 : (V : Int) + aUshr (V : Int) 16 = ((bc5 V : Nat) : Int) := by
    have u : aUshr (V : Int) 16 = ((V / 65536 : Nat) : Int) := ushr_nat (s := 16) (by omega)
    rw [u]
    unfold bc5
    omega
  have hl5 : bc5 V ≤ 400000000 := by unfold bc5; omega
  have e7 : aAnd ((bc5 V : Nat) : Int) 63 = ((bc5 V &&& 63 : Nat) : Int) := and_nat (b := 63) (by omega) (by omega)
  have e8 : bc5 V &&& 63 = cnt f 16 := by rw [← hc1]; unfold bcN; rw [hY, hZ, hW, hV]
  refine xJ6_bitCount_0f7a4_0 ?_
  simp only [e1, e2, e3, e4, e5, e6, e7, e8]
  refine ⟨⟨by unfold InR; omega, by unfold InR; omega, by unfold InR; omega, by unfold InR; omega, by unfold InR; omega⟩, by trivial, by trivial⟩
theorem KJ6_bits {l : Launch} {G : Gt} {d : Nat} {M : Mem} {n : Nat} {f : Nat → Bool} (hn : n ≤ 16) : Cl l G d mJ6_bitCount_0f7a4 [vI (bI n f)] M (some (vI (cnt f n : Int))) M := by
  have h := KJ6_bits16 (l := l) (G := G) (d := d) (M := M) (f := fun i => decide (i < n) && f i)
  have e1 : bI n f = bI 16 (fun i => decide (i < n) && f i) := by
    rw [← bI_len hn (fun i h1 _ => by simp; omega)]
    exact bI_ext fun i hi => by simp [hi]
  have e2 : ∀ m, n ≤ m → cnt (fun i => decide (i < n) && f i) m = cnt f n := by
    intro m hm
    induction m with
    | zero => rw [show n = 0 by omega]; rfl
    | succ m ih =>
      by_cases e : n = m + 1
      · rw [e]; exact cnt_ext fun i hi => by simp [hi]
      · rw [show cnt (fun i => decide (i < n) && f i) (m + 1) = cnt (fun i => decide (i < n) && f i) m + (if (decide (m < n) && f m) = true then 1 else 0) from rfl, ih (by omega)]
        simp [show ¬ m < n by omega]
  rw [e1, ← e2 16 hn]
  exact h
