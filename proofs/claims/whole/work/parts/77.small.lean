/-! small changes and questions: knows, worth, told, end, letters, letter, count -/
set_option maxRecDepth 4000 in
theorem xX12_knows_0 {l : Launch} {G : Gt} {d : Nat} {M M' : Mem} {r : Option Vl} {x1 : Int} {x2 : Int} {x3 : Int} (hS : Sh M.2.1) (h : 
    (InR ((M.1 48 0 0) - 1)) ∧ ((¬ (0 ≤ x1 ∧ x1 < (M.1 48 0 0)) → r = some (vI 0) ∧ M' = M) ∧ (0 ≤ x1 ∧ x1 < (M.1 48 0 0) → (InR ((M.1 48 0 0) - 1)) ∧ ((¬ (0 ≤ x2 ∧ x2 < (M.1 48 0 0)) → r = some (vI 0) ∧ M' = M) ∧ (0 ≤ x2 ∧ x2 < (M.1 48 0 0) → (x1 = x2 → r = some (vI 0) ∧ M' = M) ∧ (¬ (x1 = x2) → ((0 ≤ x1 ∧ x1 < 12) ∧ (0 ≤ (M.1 50 0 x1.toNat) ∧ 0 ≤ x2 ∧ x2 < 32)) ∧ ((¬ ((if tb (M.1 50 0 x1.toNat) x2 = true then 1 else 0 : Int) = x3) → ((0 ≤ x1 ∧ x1 < 12) ∧ (0 ≤ x2 ∧ x2 < 32)) ∧ r = some (vI 1) ∧ M' = ((upI M.1 50 0 x1.toNat (aXor (M.1 50 0 x1.toNat) (aShl 1 x2))), M.2.1, M.2.2)) ∧ ((if tb (M.1 50 0 x1.toNat) x2 = true then 1 else 0 : Int) = x3 → r = some (vI 0) ∧ M' = M)))))))) : Cl l G (d + 2) mX12_knows [vR (some (3, 0)), vI x1, vI x2, vI x3] M r M' := by
  show Ex l G (d + 2) mX12_knows 0 [some (vR (some (3, 0))), some (vI x1), some (vI x2), some (vI x3)] [] M r M'
  obtain ⟨o_1, h⟩ := h
  refine r_aload_n 1 dX12_knows_0 rfl rfl ?_
  refine r_iload_n 2 dX12_knows_1 rfl rfl ?_
  refine v_1 (ci := 12) (C := (RX12, TX12, 68)) [vI x1] [] 5 dX12_knows_2 rfl rfl rfl rfl rfl mo_X12_isPerson ml_12_175 rfl rfl (KX12_isPerson hS o_1) ?_
  refine r_if_eq 8 35 dX12_knows_5 rfl rfl (fun c => ?_) (fun c => ?_)
  · have h := h.1 (b2_0.mp c)
    refine r_iconst 36 dX12_knows_35 rfl (InR_of rfl) ?_
    exact r_iret dX12_knows_36 rfl (.inr ⟨rfl, (.inl rfl)⟩) h.1 h.2
  · have h := h.2 (b2_1.mp c)
    obtain ⟨o_2, h⟩ := h
    refine r_aload_n 9 dX12_knows_8 rfl rfl ?_
    refine r_iload_n 10 dX12_knows_9 rfl rfl ?_
    refine v_1 (ci := 12) (C := (RX12, TX12, 68)) [vI x2] [] 13 dX12_knows_10 rfl rfl rfl rfl rfl mo_X12_isPerson ml_12_175 rfl rfl (KX12_isPerson hS o_2) ?_
    refine r_if_eq 16 35 dX12_knows_13 rfl rfl (fun c => ?_) (fun c => ?_)
    · have h := h.1 (b2_0.mp c)
      refine r_iconst 36 dX12_knows_35 rfl (InR_of rfl) ?_
      exact r_iret dX12_knows_36 rfl (.inr ⟨rfl, (.inl rfl)⟩) h.1 h.2
    · have h := h.2 (b2_1.mp c)
      refine r_iload_n 17 dX12_knows_16 rfl rfl ?_
      refine r_iload_n 18 dX12_knows_17 rfl rfl ?_
      refine r_icmp_eq 21 35 dX12_knows_18 rfl rfl (fun c => ?_) (fun c => ?_)
      · have h := h.1 (c)
        refine r_iconst 36 dX12_knows_35 rfl (InR_of rfl) ?_
        exact r_iret dX12_knows_36 rfl (.inr ⟨rfl, (.inl rfl)⟩) h.1 h.2
      · have h := h.2 (c)
        obtain ⟨⟨o_3, o_4⟩, h⟩ := h
        refine r_aload_n 22 dX12_knows_21 rfl rfl ?_
        refine g_R 25 dX12_knows_22 rfl rfl rfl fr_12_16 (sh_12_3 hS) ?_
        refine r_iload_n 26 dX12_knows_25 rfl rfl ?_
        refine a_I 12 27 dX12_knows_26 rfl rfl rfl rfl o_3 rfl ?_
        refine r_iload_n 28 dX12_knows_27 rfl rfl ?_
        refine c_1 [vI (M.1 50 0 x1.toNat), vI x2] [] 31 dX12_knows_28 rfl rfl mo_X12_has ml_12_148 rfl rfl (KX12_has o_4) ?_
        refine r_iload_n 32 dX12_knows_31 rfl rfl ?_
        refine r_icmp_ne 35 37 dX12_knows_32 rfl rfl (fun c => ?_) (fun c => ?_)
        · have h := h.1 (c)
          obtain ⟨⟨o_5, o_6⟩, h⟩ := h
          refine r_aload_n 38 dX12_knows_37 rfl rfl ?_
          refine g_R 41 dX12_knows_38 rfl rfl rfl fr_12_16 (sh_12_3 hS) ?_
          refine r_iload_n 42 dX12_knows_41 rfl rfl ?_
          refine r_dup2 43 dX12_knows_42 rfl rfl ?_
          refine a_I 12 44 dX12_knows_43 rfl rfl rfl rfl o_5 rfl ?_
          refine r_iconst 45 dX12_knows_44 rfl (InR_of rfl) ?_
          refine r_iload_n 46 dX12_knows_45 rfl rfl ?_
          refine r_ishl 47 dX12_knows_46 rfl o_6 ?_
          refine r_ixor 48 dX12_knows_47 rfl ?_
          refine s_I 12 49 dX12_knows_48 rfl rfl (by decide) rfl rfl o_5 ?_
          refine r_iconst 50 dX12_knows_49 rfl (InR_of rfl) ?_
          exact r_iret dX12_knows_50 rfl (.inr ⟨rfl, (.inr rfl)⟩) h.1 h.2
        · have h := h.2 (Decidable.not_not.mp c)
          refine r_iconst 36 dX12_knows_35 rfl (InR_of rfl) ?_
          exact r_iret dX12_knows_36 rfl (.inr ⟨rfl, (.inl rfl)⟩) h.1 h.2

set_option maxRecDepth 4000 in
theorem xX11_knows_0 {l : Launch} {G : Gt} {d : Nat} {M M' : Mem} {r : Option Vl} {x1 : Int} {x2 : Int} {x3 : Int} (hS : Sh M.2.1) (h : 
    (¬ ((0 ≤ x1 ∧ x1 < (M.1 4 0 0)) ∧ (0 ≤ x2 ∧ x2 < (M.1 4 0 0)) ∧ ¬ x1 = x2) → r = some (vI 0) ∧ M' = M) ∧ ((0 ≤ x1 ∧ x1 < (M.1 4 0 0)) ∧ (0 ≤ x2 ∧ x2 < (M.1 4 0 0)) ∧ ¬ x1 = x2 → ((0 ≤ x1 ∧ x1 < 12) ∧ (0 ≤ (M.1 36 0 x1.toNat) ∧ 0 ≤ x2 ∧ x2 < 32)) ∧ ((¬ ((if tb (M.1 36 0 x1.toNat) x2 = true then 1 else 0 : Int) = x3) → ((0 ≤ x1 ∧ x1 < 12) ∧ (0 ≤ x2 ∧ x2 < 32)) ∧ r = some (vI 1) ∧ M' = ((upI M.1 36 0 x1.toNat (aXor (M.1 36 0 x1.toNat) (aShl 1 x2))), M.2.1, M.2.2)) ∧ ((if tb (M.1 36 0 x1.toNat) x2 = true then 1 else 0 : Int) = x3 → r = some (vI 0) ∧ M' = M)))) : Cl l G (d + 2) mX11_knows [vR (some (2, 0)), vI x1, vI x2, vI x3] M r M' := by
  show Ex l G (d + 2) mX11_knows 0 [some (vR (some (2, 0))), some (vI x1), some (vI x2), some (vI x3)] [] M r M'
  refine r_aload_n 1 dX11_knows_0 rfl rfl ?_
  refine r_iload_n 2 dX11_knows_1 rfl rfl ?_
  refine r_iload_n 3 dX11_knows_2 rfl rfl ?_
  refine v_1 (ci := 11) (C := (RX11, TX11, 16)) [vI x1, vI x2] [] 6 dX11_knows_3 rfl rfl rfl rfl rfl mo_X11_areTwo ml_11_130 rfl rfl (KX11_areTwo hS) ?_
  refine r_if_eq 9 26 dX11_knows_6 rfl rfl (fun c => ?_) (fun c => ?_)
  · have h := h.1 (b2_0.mp c)
    refine r_iconst 27 dX11_knows_26 rfl (InR_of rfl) ?_
    exact r_iret dX11_knows_27 rfl (.inr ⟨rfl, (.inl rfl)⟩) h.1 h.2
  · have h := h.2 (b2_1.mp c)
    obtain ⟨⟨o_1, o_2⟩, h⟩ := h
    refine r_aload_n 10 dX11_knows_9 rfl rfl ?_
    refine g_R 13 dX11_knows_10 rfl rfl rfl fr_11_12 (sh_11_0 hS) ?_
    refine g_R 16 dX11_knows_13 rfl rfl rfl fr_11_138 (sh_8_6 hS _) ?_
    refine r_iload_n 17 dX11_knows_16 rfl rfl ?_
    refine a_I 12 18 dX11_knows_17 rfl rfl rfl rfl o_1 rfl ?_
    refine r_iload_n 19 dX11_knows_18 rfl rfl ?_
    refine c_1 [vI (M.1 36 0 x1.toNat), vI x2] [] 22 dX11_knows_19 rfl rfl mo_X11_hasBit ml_11_141 rfl rfl (KX11_hasBit o_2) ?_
    refine r_iload_n 23 dX11_knows_22 rfl rfl ?_
    refine r_icmp_ne 26 28 dX11_knows_23 rfl rfl (fun c => ?_) (fun c => ?_)
    · have h := h.1 (c)
      obtain ⟨⟨o_3, o_4⟩, h⟩ := h
      refine r_aload_n 29 dX11_knows_28 rfl rfl ?_
      refine g_R 32 dX11_knows_29 rfl rfl rfl fr_11_12 (sh_11_0 hS) ?_
      refine g_R 35 dX11_knows_32 rfl rfl rfl fr_11_138 (sh_8_6 hS _) ?_
      refine r_iload_n 36 dX11_knows_35 rfl rfl ?_
      refine r_dup2 37 dX11_knows_36 rfl rfl ?_
      refine a_I 12 38 dX11_knows_37 rfl rfl rfl rfl o_3 rfl ?_
      refine r_iconst 39 dX11_knows_38 rfl (InR_of rfl) ?_
      refine r_iload_n 40 dX11_knows_39 rfl rfl ?_
      refine r_ishl 41 dX11_knows_40 rfl o_4 ?_
      refine r_ixor 42 dX11_knows_41 rfl ?_
      refine s_I 12 43 dX11_knows_42 rfl rfl (by decide) rfl rfl o_3 ?_
      refine r_iconst 44 dX11_knows_43 rfl (InR_of rfl) ?_
      exact r_iret dX11_knows_44 rfl (.inr ⟨rfl, (.inr rfl)⟩) h.1 h.2
    · have h := h.2 (Decidable.not_not.mp c)
      refine r_iconst 27 dX11_knows_26 rfl (InR_of rfl) ?_
      exact r_iret dX11_knows_27 rfl (.inr ⟨rfl, (.inl rfl)⟩) h.1 h.2

set_option maxRecDepth 4000 in
theorem xX12_worth_0 {l : Launch} {G : Gt} {d : Nat} {M M' : Mem} {r : Option Vl} {x1 : Int} {x2 : Int} (hS : Sh M.2.1) (h : 
    (¬ (0 ≤ x1 ∧ x1 ≤ 16) → r = some (vI (-1)) ∧ M' = M) ∧ (0 ≤ x1 ∧ x1 ≤ 16 → (0 ≤ x2 ∧ x2 ≤ 99 → ((0 ≤ x1 ∧ x1 < 17)) ∧ r = some (vI (M.1 51 0 x1.toNat)) ∧ M' = ((upI M.1 51 0 x1.toNat x2), M.2.1, M.2.2)) ∧ (¬ (0 ≤ x2 ∧ x2 ≤ 99) → r = some (vI (-1)) ∧ M' = M))) : Cl l G (d + 1) mX12_worth [vR (some (3, 0)), vI x1, vI x2] M r M' := by
  show Ex l G (d + 1) mX12_worth 0 [some (vR (some (3, 0))), some (vI x1), some (vI x2), none] [] M r M'
  refine r_iload_n 1 dX12_worth_0 rfl rfl ?_
  refine r_i2l 2 dX12_worth_1 rfl ?_
  refine r_lconst (x := 0) 3 dX12_worth_2 rfl (by decide +kernel) (InR_of rfl) ?_
  refine r_ldc2 (n := 16) 6 dX12_worth_3 rfl (inT6 (List.mem_of_getElem? (i := 124) rfl) rfl) (by decide +kernel) (InR_of rfl) ?_
  refine c_1 [vL x1, vL 0, vL 16] [] 9 dX12_worth_6 rfl rfl mo_X12_in ml_12_154 rfl rfl (KX12_in) ?_
  refine r_if_eq 12 24 dX12_worth_9 rfl rfl (fun c => ?_) (fun c => ?_)
  · have h := h.1 (b2_0.mp c)
    refine r_iconst 25 dX12_worth_24 rfl (InR_of rfl) ?_
    exact r_iret dX12_worth_25 rfl (.inl rfl) h.1 h.2
  · have h := h.2 (b2_1.mp c)
    refine r_iload_n 13 dX12_worth_12 rfl rfl ?_
    refine r_i2l 14 dX12_worth_13 rfl ?_
    refine r_lconst (x := 0) 15 dX12_worth_14 rfl (by decide +kernel) (InR_of rfl) ?_
    refine r_ldc2 (n := 99) 18 dX12_worth_15 rfl (inT6 (List.mem_of_getElem? (i := 125) rfl) rfl) (by decide +kernel) (InR_of rfl) ?_
    refine c_1 [vL x2, vL 0, vL 99] [] 21 dX12_worth_18 rfl rfl mo_X12_in ml_12_154 rfl rfl (KX12_in) ?_
    refine r_if_ne 24 26 dX12_worth_21 rfl rfl (fun c => ?_) (fun c => ?_)
    · have h := h.1 (b2_1.mp c)
      obtain ⟨o_1, h⟩ := h
      refine r_aload_n 27 dX12_worth_26 rfl rfl ?_
      refine g_R 30 dX12_worth_27 rfl rfl rfl fr_12_19 (sh_12_4 hS) ?_
      refine r_iload_n 31 dX12_worth_30 rfl rfl ?_
      refine a_I 17 32 dX12_worth_31 rfl rfl rfl rfl o_1 rfl ?_
      refine r_istore_n (ls' := [some (vR (some (3, 0))), some (vI x1), some (vI x2), some (vI (M.1 51 0 x1.toNat))]) 33 dX12_worth_32 rfl rfl rfl rfl ?_
      refine r_aload_n 34 dX12_worth_33 rfl rfl ?_
      refine g_R 37 dX12_worth_34 rfl rfl rfl fr_12_19 (sh_12_4 hS) ?_
      refine r_iload_n 38 dX12_worth_37 rfl rfl ?_
      refine r_iload_n 39 dX12_worth_38 rfl rfl ?_
      refine s_I 17 40 dX12_worth_39 rfl rfl (by decide) rfl rfl o_1 ?_
      refine r_iload_n 41 dX12_worth_40 rfl rfl ?_
      exact r_iret dX12_worth_41 rfl (.inl rfl) h.1 h.2
    · have h := h.2 (b2_0.mp (Decidable.not_not.mp c))
      refine r_iconst 25 dX12_worth_24 rfl (InR_of rfl) ?_
      exact r_iret dX12_worth_25 rfl (.inl rfl) h.1 h.2

set_option maxRecDepth 4000 in
theorem xX11_worth_0 {l : Launch} {G : Gt} {d : Nat} {M M' : Mem} {r : Option Vl} {x1 : Int} {x2 : Int} (hS : Sh M.2.1) (h : 
    (x1 < 0 → r = some (vI (-1)) ∧ M' = M) ∧ (¬ (x1 < 0) → (16 < x1 → r = some (vI (-1)) ∧ M' = M) ∧ (¬ (16 < x1) → (x2 < 0 → r = some (vI (-1)) ∧ M' = M) ∧ (¬ (x2 < 0) → (x2 ≤ 99 → ((0 ≤ x1 ∧ x1 < 17)) ∧ r = some (vI (M.1 37 0 x1.toNat)) ∧ M' = ((upI M.1 37 0 x1.toNat x2), M.2.1, M.2.2)) ∧ (¬ (x2 ≤ 99) → r = some (vI (-1)) ∧ M' = M))))) : Cl l G d mX11_worth [vR (some (2, 0)), vI x1, vI x2] M r M' := by
  show Ex l G d mX11_worth 0 [some (vR (some (2, 0))), some (vI x1), some (vI x2), none] [] M r M'
  refine r_iload_n 1 dX11_worth_0 rfl rfl ?_
  refine r_if_lt 4 20 dX11_worth_1 rfl rfl (fun c => ?_) (fun c => ?_)
  · have h := h.1 (c)
    refine r_iconst 21 dX11_worth_20 rfl (InR_of rfl) ?_
    exact r_iret dX11_worth_21 rfl (.inl rfl) h.1 h.2
  · have h := h.2 (c)
    refine r_iload_n 5 dX11_worth_4 rfl rfl ?_
    refine r_bipush 7 dX11_worth_5 rfl rfl ?_
    refine r_icmp_gt 10 20 dX11_worth_7 rfl rfl (fun c => ?_) (fun c => ?_)
    · have h := h.1 (c)
      refine r_iconst 21 dX11_worth_20 rfl (InR_of rfl) ?_
      exact r_iret dX11_worth_21 rfl (.inl rfl) h.1 h.2
    · have h := h.2 (c)
      refine r_iload_n 11 dX11_worth_10 rfl rfl ?_
      refine r_if_lt 14 20 dX11_worth_11 rfl rfl (fun c => ?_) (fun c => ?_)
      · have h := h.1 (c)
        refine r_iconst 21 dX11_worth_20 rfl (InR_of rfl) ?_
        exact r_iret dX11_worth_21 rfl (.inl rfl) h.1 h.2
      · have h := h.2 (c)
        refine r_iload_n 15 dX11_worth_14 rfl rfl ?_
        refine r_bipush 17 dX11_worth_15 rfl rfl ?_
        refine r_icmp_le 20 22 dX11_worth_17 rfl rfl (fun c => ?_) (fun c => ?_)
        · have h := h.1 (c)
          obtain ⟨o_1, h⟩ := h
          refine r_aload_n 23 dX11_worth_22 rfl rfl ?_
          refine g_R 26 dX11_worth_23 rfl rfl rfl fr_11_12 (sh_11_0 hS) ?_
          refine g_R 29 dX11_worth_26 rfl rfl rfl fr_11_144 (sh_8_7 hS _) ?_
          refine r_iload_n 30 dX11_worth_29 rfl rfl ?_
          refine a_I 17 31 dX11_worth_30 rfl rfl rfl rfl o_1 rfl ?_
          refine r_istore_n (ls' := [some (vR (some (2, 0))), some (vI x1), some (vI x2), some (vI (M.1 37 0 x1.toNat))]) 32 dX11_worth_31 rfl rfl rfl rfl ?_
          refine r_aload_n 33 dX11_worth_32 rfl rfl ?_
          refine g_R 36 dX11_worth_33 rfl rfl rfl fr_11_12 (sh_11_0 hS) ?_
          refine g_R 39 dX11_worth_36 rfl rfl rfl fr_11_144 (sh_8_7 hS _) ?_
          refine r_iload_n 40 dX11_worth_39 rfl rfl ?_
          refine r_iload_n 41 dX11_worth_40 rfl rfl ?_
          refine s_I 17 42 dX11_worth_41 rfl rfl (by decide) rfl rfl o_1 ?_
          refine r_iload_n 43 dX11_worth_42 rfl rfl ?_
          exact r_iret dX11_worth_43 rfl (.inl rfl) h.1 h.2
        · have h := h.2 (c)
          refine r_iconst 21 dX11_worth_20 rfl (InR_of rfl) ?_
          exact r_iret dX11_worth_21 rfl (.inl rfl) h.1 h.2

set_option maxRecDepth 4000 in
theorem xX12_told_0 {l : Launch} {G : Gt} {d : Nat} {M M' : Mem} {r : Option Vl} {x1 : Int} (hS : Sh M.2.1) (h : 
    (¬ (x1 = (-1)) → (¬ (0 ≤ x1 ∧ x1 < 8) → r = some (vI (-2)) ∧ M' = M) ∧ (0 ≤ x1 ∧ x1 < 8 → (¬ ((M.1 48 0 4) = 20) → ((0 ≤ (M.1 48 0 4) ∧ (M.1 48 0 4) < 20) ∧ InR ((M.1 48 0 4) + 1)) ∧ r = some (vI ((M.1 48 0 4) + 1)) ∧ M' = ((upI (upI M.1 52 0 (M.1 48 0 4).toNat x1) 48 0 4 ((M.1 48 0 4) + 1)), M.2.1, M.2.2)) ∧ ((M.1 48 0 4) = 20 → r = some (vI (-2)) ∧ M' = M))) ∧ (x1 = (-1) → r = some (vI 0) ∧ M' = ((upI M.1 48 0 4 0), M.2.1, M.2.2))) : Cl l G (d + 2) mX12_told [vR (some (3, 0)), vI x1] M r M' := by
  show Ex l G (d + 2) mX12_told 0 [some (vR (some (3, 0))), some (vI x1)] [] M r M'
  refine r_iload_n 1 dX12_told_0 rfl rfl ?_
  refine r_iconst 2 dX12_told_1 rfl (InR_of rfl) ?_
  refine r_icmp_ne 5 14 dX12_told_2 rfl rfl (fun c => ?_) (fun c => ?_)
  · have h := h.1 (c)
    refine r_iload_n 15 dX12_told_14 rfl rfl ?_
    refine c_1 [vI x1] [] 18 dX12_told_15 rfl rfl mo_X12_isPlace ml_12_160 rfl rfl (KX12_isPlace) ?_
    refine r_if_eq 21 32 dX12_told_18 rfl rfl (fun c => ?_) (fun c => ?_)
    · have h := h.1 (b2_0.mp c)
      refine r_bipush 34 dX12_told_32 rfl rfl ?_
      exact r_iret dX12_told_34 rfl (.inl rfl) h.1 h.2
    · have h := h.2 (b2_1.mp c)
      refine r_aload_n 22 dX12_told_21 rfl rfl ?_
      refine g_R 25 dX12_told_22 rfl rfl rfl fr_12_7 (sh_12_1 hS) ?_
      refine r_iconst 26 dX12_told_25 rfl (InR_of rfl) ?_
      refine a_I 6 27 dX12_told_26 rfl rfl rfl rfl ⟨by decide, by decide⟩ rfl ?_
      refine r_bipush 29 dX12_told_27 rfl rfl ?_
      refine r_icmp_ne 32 35 dX12_told_29 rfl rfl (fun c => ?_) (fun c => ?_)
      · have h := h.1 (c)
        obtain ⟨⟨o_1, o_2⟩, h⟩ := h
        refine r_aload_n 36 dX12_told_35 rfl rfl ?_
        refine g_R 39 dX12_told_36 rfl rfl rfl fr_12_22 (sh_12_5 hS) ?_
        refine r_aload_n 40 dX12_told_39 rfl rfl ?_
        refine g_R 43 dX12_told_40 rfl rfl rfl fr_12_7 (sh_12_1 hS) ?_
        refine r_iconst 44 dX12_told_43 rfl (InR_of rfl) ?_
        refine a_I 6 45 dX12_told_44 rfl rfl rfl rfl ⟨by decide, by decide⟩ rfl ?_
        refine r_iload_n 46 dX12_told_45 rfl rfl ?_
        refine s_I 20 47 dX12_told_46 rfl rfl (by decide) rfl rfl o_1 ?_
        refine r_aload_n 48 dX12_told_47 rfl rfl ?_
        refine g_R 51 dX12_told_48 rfl rfl rfl fr_12_7 (mR_0 (sh_12_1 hS)) ?_
        refine r_iconst 52 dX12_told_51 rfl (InR_of rfl) ?_
        refine r_dup2 53 dX12_told_52 rfl rfl ?_
        refine a_I 6 54 dX12_told_53 rfl rfl rfl rfl ⟨by decide, by decide⟩ (mI_0 (upI_f rfl)) ?_
        refine r_iconst 55 dX12_told_54 rfl (InR_of rfl) ?_
        refine r_iadd 56 dX12_told_55 rfl o_2 ?_
        refine s_I 6 57 dX12_told_56 rfl rfl (by decide) rfl rfl ⟨by decide, by decide⟩ ?_
        refine r_aload_n 58 dX12_told_57 rfl rfl ?_
        refine g_R 61 dX12_told_58 rfl rfl rfl fr_12_7 (mR_0 (sh_12_1 hS)) ?_
        refine r_iconst 62 dX12_told_61 rfl (InR_of rfl) ?_
        refine a_I 6 63 dX12_told_62 rfl rfl rfl rfl ⟨by decide, by decide⟩ (mI_0 (upI_s)) ?_
        exact r_iret dX12_told_63 rfl (.inl rfl) h.1 h.2
      · have h := h.2 (Decidable.not_not.mp c)
        refine r_bipush 34 dX12_told_32 rfl rfl ?_
        exact r_iret dX12_told_34 rfl (.inl rfl) h.1 h.2
  · have h := h.2 (Decidable.not_not.mp c)
    refine r_aload_n 6 dX12_told_5 rfl rfl ?_
    refine g_R 9 dX12_told_6 rfl rfl rfl fr_12_7 (sh_12_1 hS) ?_
    refine r_iconst 10 dX12_told_9 rfl (InR_of rfl) ?_
    refine r_iconst 11 dX12_told_10 rfl (InR_of rfl) ?_
    refine s_I 6 12 dX12_told_11 rfl rfl (by decide) rfl rfl ⟨by decide, by decide⟩ ?_
    refine r_iconst 13 dX12_told_12 rfl (InR_of rfl) ?_
    exact r_iret dX12_told_13 rfl (.inl rfl) h.1 h.2

set_option maxRecDepth 4000 in
theorem xX11_told_0 {l : Launch} {G : Gt} {d : Nat} {M M' : Mem} {r : Option Vl} {x1 : Int} (hS : Sh M.2.1) (h : 
    (¬ (x1 = (-1)) → (¬ (0 ≤ x1 ∧ x1 < 8) → r = some (vI (-2)) ∧ M' = M) ∧ (0 ≤ x1 ∧ x1 < 8 → ((M.1 4 0 11) < 20 → ((0 ≤ (M.1 4 0 11) ∧ (M.1 4 0 11) < 20) ∧ InR ((M.1 4 0 11) + 1)) ∧ r = some (vI ((M.1 4 0 11) + 1)) ∧ M' = ((upI (upI M.1 39 0 (M.1 4 0 11).toNat x1) 4 0 11 ((M.1 4 0 11) + 1)), M.2.1, M.2.2)) ∧ (¬ ((M.1 4 0 11) < 20) → r = some (vI (-2)) ∧ M' = M))) ∧ (x1 = (-1) → r = some (vI 0) ∧ M' = ((upI M.1 4 0 11 0), M.2.1, M.2.2))) : Cl l G (d + 1) mX11_told [vR (some (2, 0)), vI x1] M r M' := by
  show Ex l G (d + 1) mX11_told 0 [some (vR (some (2, 0))), some (vI x1)] [] M r M'
  refine r_iload_n 1 dX11_told_0 rfl rfl ?_
  refine r_iconst 2 dX11_told_1 rfl (InR_of rfl) ?_
  refine r_icmp_ne 5 15 dX11_told_2 rfl rfl (fun c => ?_) (fun c => ?_)
  · have h := h.1 (c)
    refine r_iload_n 16 dX11_told_15 rfl rfl ?_
    refine c_1 [vI x1] [] 19 dX11_told_16 rfl rfl mo_X11_isPlace ml_11_96 rfl rfl (KX11_isPlace) ?_
    refine r_if_eq 22 34 dX11_told_19 rfl rfl (fun c => ?_) (fun c => ?_)
    · have h := h.1 (b2_0.mp c)
      refine r_bipush 36 dX11_told_34 rfl rfl ?_
      exact r_iret dX11_told_36 rfl (.inl rfl) h.1 h.2
    · have h := h.2 (b2_1.mp c)
      refine r_aload_n 23 dX11_told_22 rfl rfl ?_
      refine g_R 26 dX11_told_23 rfl rfl rfl fr_11_12 (sh_11_0 hS) ?_
      refine g_I 29 dX11_told_26 rfl rfl rfl fi_11_279 rfl ?_
      refine r_bipush 31 dX11_told_29 rfl rfl ?_
      refine r_icmp_lt 34 37 dX11_told_31 rfl rfl (fun c => ?_) (fun c => ?_)
      · have h := h.1 (c)
        obtain ⟨⟨o_1, o_2⟩, h⟩ := h
        refine r_aload_n 38 dX11_told_37 rfl rfl ?_
        refine g_R 41 dX11_told_38 rfl rfl rfl fr_11_12 (sh_11_0 hS) ?_
        refine g_R 44 dX11_told_41 rfl rfl rfl fr_11_282 (sh_8_12 hS _) ?_
        refine r_aload_n 45 dX11_told_44 rfl rfl ?_
        refine g_R 48 dX11_told_45 rfl rfl rfl fr_11_12 (sh_11_0 hS) ?_
        refine g_I 51 dX11_told_48 rfl rfl rfl fi_11_279 rfl ?_
        refine r_iload_n 52 dX11_told_51 rfl rfl ?_
        refine s_I 20 53 dX11_told_52 rfl rfl (by decide) rfl rfl o_1 ?_
        refine r_aload_n 54 dX11_told_53 rfl rfl ?_
        refine g_R 57 dX11_told_54 rfl rfl rfl fr_11_12 (mR_0 (sh_11_0 hS)) ?_
        refine r_dup 58 dX11_told_57 rfl rfl ?_
        refine g_I 61 dX11_told_58 rfl rfl rfl fi_11_279 (mI_0 (upI_f rfl)) ?_
        refine r_iconst 62 dX11_told_61 rfl (InR_of rfl) ?_
        refine r_iadd 63 dX11_told_62 rfl o_2 ?_
        refine p_I 66 dX11_told_63 rfl rfl rfl rfl pf_11_279 (.inl rfl) rfl ?_
        refine r_aload_n 67 dX11_told_66 rfl rfl ?_
        refine g_R 70 dX11_told_67 rfl rfl rfl fr_11_12 (mR_0 (sh_11_0 hS)) ?_
        refine g_I 73 dX11_told_70 rfl rfl rfl fi_11_279 (mI_0 (upI_s)) ?_
        exact r_iret dX11_told_73 rfl (.inl rfl) h.1 h.2
      · have h := h.2 (c)
        refine r_bipush 36 dX11_told_34 rfl rfl ?_
        exact r_iret dX11_told_36 rfl (.inl rfl) h.1 h.2
  · have h := h.2 (Decidable.not_not.mp c)
    refine r_aload_n 6 dX11_told_5 rfl rfl ?_
    refine g_R 9 dX11_told_6 rfl rfl rfl fr_11_12 (sh_11_0 hS) ?_
    refine r_iconst 10 dX11_told_9 rfl (InR_of rfl) ?_
    refine p_I 13 dX11_told_10 rfl rfl rfl rfl pf_11_279 (.inl rfl) rfl ?_
    refine r_iconst 14 dX11_told_13 rfl (InR_of rfl) ?_
    exact r_iret dX11_told_14 rfl (.inl rfl) h.1 h.2

set_option maxRecDepth 4000 in
theorem xX12_end_0 {l : Launch} {G : Gt} {d : Nat} {M M' : Mem} {r : Option Vl} {x1 : Int} (h : 
    (x1 < 0 → r = some (vI (-1)) ∧ M' = M) ∧ (¬ (x1 < 0) → (x1 ≤ (M.1 3 0 29) → r = some (vI x1) ∧ M' = ((upI M.1 3 0 29 x1), M.2.1, M.2.2)) ∧ (¬ (x1 ≤ (M.1 3 0 29)) → r = some (vI (-1)) ∧ M' = M))) : Cl l G d mX12_end [vR (some (3, 0)), vI x1] M r M' := by
  show Ex l G d mX12_end 0 [some (vR (some (3, 0))), some (vI x1)] [] M r M'
  refine r_iload_n 1 dX12_end_0 rfl rfl ?_
  refine r_if_lt 4 12 dX12_end_1 rfl rfl (fun c => ?_) (fun c => ?_)
  · have h := h.1 (c)
    refine r_iconst 13 dX12_end_12 rfl (InR_of rfl) ?_
    exact r_iret dX12_end_13 rfl (.inl rfl) h.1 h.2
  · have h := h.2 (c)
    refine r_iload_n 5 dX12_end_4 rfl rfl ?_
    refine r_aload_n 6 dX12_end_5 rfl rfl ?_
    refine g_I 9 dX12_end_6 rfl rfl rfl fi_12_209 rfl ?_
    refine r_icmp_le 12 14 dX12_end_9 rfl rfl (fun c => ?_) (fun c => ?_)
    · have h := h.1 (c)
      refine r_aload_n 15 dX12_end_14 rfl rfl ?_
      refine r_iload_n 16 dX12_end_15 rfl rfl ?_
      refine p_I 19 dX12_end_16 rfl rfl rfl rfl pf_12_209 (.inl rfl) rfl ?_
      refine r_iload_n 20 dX12_end_19 rfl rfl ?_
      exact r_iret dX12_end_20 rfl (.inl rfl) h.1 h.2
    · have h := h.2 (c)
      refine r_iconst 13 dX12_end_12 rfl (InR_of rfl) ?_
      exact r_iret dX12_end_13 rfl (.inl rfl) h.1 h.2

set_option maxRecDepth 4000 in
theorem xX11_end_0 {l : Launch} {G : Gt} {d : Nat} {M M' : Mem} {r : Option Vl} {x1 : Int} (h : 
    (x1 < 0 → r = some (vI (-1)) ∧ M' = M) ∧ (¬ (x1 < 0) → (x1 ≤ (M.1 2 0 12) → r = some (vI x1) ∧ M' = ((upI M.1 2 0 12 x1), M.2.1, M.2.2)) ∧ (¬ (x1 ≤ (M.1 2 0 12)) → r = some (vI (-1)) ∧ M' = M))) : Cl l G d mX11_end [vR (some (2, 0)), vI x1] M r M' := by
  show Ex l G d mX11_end 0 [some (vR (some (2, 0))), some (vI x1)] [] M r M'
  refine r_iload_n 1 dX11_end_0 rfl rfl ?_
  refine r_if_lt 4 12 dX11_end_1 rfl rfl (fun c => ?_) (fun c => ?_)
  · have h := h.1 (c)
    refine r_iconst 13 dX11_end_12 rfl (InR_of rfl) ?_
    exact r_iret dX11_end_13 rfl (.inl rfl) h.1 h.2
  · have h := h.2 (c)
    refine r_iload_n 5 dX11_end_4 rfl rfl ?_
    refine r_aload_n 6 dX11_end_5 rfl rfl ?_
    refine g_I 9 dX11_end_6 rfl rfl rfl fi_11_147 rfl ?_
    refine r_icmp_le 12 14 dX11_end_9 rfl rfl (fun c => ?_) (fun c => ?_)
    · have h := h.1 (c)
      refine r_aload_n 15 dX11_end_14 rfl rfl ?_
      refine r_iload_n 16 dX11_end_15 rfl rfl ?_
      refine p_I 19 dX11_end_16 rfl rfl rfl rfl pf_11_147 (.inl rfl) rfl ?_
      refine r_iload_n 20 dX11_end_19 rfl rfl ?_
      exact r_iret dX11_end_20 rfl (.inl rfl) h.1 h.2
    · have h := h.2 (c)
      refine r_iconst 13 dX11_end_12 rfl (InR_of rfl) ?_
      exact r_iret dX11_end_13 rfl (.inl rfl) h.1 h.2

theorem RelA.oth2 {Q : QT} {M M' : Mem} (h : RelA Q M) (hI : ∀ f k i, relF f i → ¬ f = 36 → M'.1 f k i = M.1 f k i) (hR : ∀ f k i, (f = 28 ∨ f = 15 ∨ shp f i = true) → M'.2.1 f k i = M.2.1 f k i) (hc : ∀ f, (f = 14 ∨ f = 29 ∨ f = 30 ∨ f = 31 ∨ f = 32 ∨ f = 13 ∨ f = 47) → cCnt M'.2.2 f = cCnt M.2.2 f) (hl : CLe M.2.2 M'.2.2) : Sh M'.2.1 ∧ ClsC Q M'.1 ∧ PastOK Q M' ∧ FitC Q (nCv Q) M'.1 ∧ CovsC Q M' := by
  obtain ⟨hS, hC, hP, hF, hCv, hK⟩ := h
  have hSn : ∀ n, Snap Q M.1 n n → Snap Q M'.1 n n := fun n h => by
    refine ⟨fun m hm => ?_, fun t p ht hp => ?_, fun p hp => ?_, fun a ha => ?_⟩
    · rw [hI _ _ _ (by unfold relF; omega) (by omega)]; exact h.1 m hm
    · rw [hI _ _ _ (by unfold relF; omega) (by omega)]; exact h.2.1 t p ht hp
    · rw [hI _ _ _ (by unfold relF; omega) (by omega)]; exact h.2.2.1 p hp
    · rw [hI _ _ _ (by unfold relF; omega) (by omega)]; exact h.2.2.2 a ha
  refine ⟨hS.congr (fun f k i e => hR f k i (.inr (.inr e))), ⟨?_, ?_, fun p hp => ?_, fun i hi => ?_⟩, ?_, ⟨fun c j hj => ?_, fun j cv s n seen hj hc hs hn e => ?_⟩, ?_⟩
  · rw [hI _ _ _ (by unfold relF; omega) (by omega)]; exact hC.1
  · rw [hI _ _ _ (by unfold relF; omega) (by omega)]; exact hC.2.1
  · rw [hI _ _ _ (by unfold relF; omega) (by omega)]; exact hC.2.2.1 p hp
  · rw [hI _ _ _ (by unfold relF; omega) (by omega)]; exact hC.2.2.2 i hi
  · obtain ⟨p1, p2, ⟨p3, p4, p5, p6⟩, p7, p8, p9⟩ := hP
    have e2 := hI 6 0 2 (by unfold relF; omega) (by omega)
    have c1 := hc 14 (by omega)
    have c2 := hc 29 (by omega)
    have c3 := hc 30 (by omega)
    have c4 := hc 31 (by omega)
    have c5 := hc 32 (by omega)
    refine ⟨by rw [e2, c1]; exact p1, by rw [c1]; exact p2, by rw [c1, c2, c3, c4, c5]; exact ⟨p3, p4, p5, p6⟩, fun i hi => by rw [hR _ _ _ (.inl rfl), c1]; exact p7 i hi, fun n hn => ?_, fun n hn => hSn n (p9 n (by rw [e2] at hn; exact hn))⟩
    rw [hI _ _ _ (by unfold relF; omega) (by omega)]; exact p8 n (by rw [c1] at hn; exact hn)
  · rw [hI _ _ _ (by unfold relF; omega) (by omega)] at c ⊢; exact hF.1 c j hj
  · rw [hI _ _ _ (by unfold relF; omega) (by omega)] at e ⊢; exact hF.2 j cv s n seen hj hc hs hn e
  · obtain ⟨h1, ⟨h2, h2'⟩, h3⟩ := hCv
    refine ⟨by rw [hI _ _ _ (by unfold relF; omega) (by omega)]; exact h1, ⟨by rw [hc _ (by omega)]; exact h2, by rw [hc _ (by omega)]; exact h2'⟩, fun c hcc => ?_⟩
    obtain ⟨a1, ⟨a2, a2'⟩, a3, a4, a5⟩ := h3 c hcc
    refine ⟨by rw [hR _ _ _ (.inr (.inl rfl))]; exact a1, ⟨?_, fun k hk => by rw [hI _ _ _ (by unfold relF; omega) (by omega)]; exact a2' k hk⟩, by rw [hI _ _ _ (by unfold relF; omega) (by omega)]; exact a3, by rw [hI _ _ _ (by unfold relF; omega) (by omega)]; exact a4, by rw [hI _ _ _ (by unfold relF; omega) (by omega)]; exact a5⟩
    rw [← a2]
    exact hl.2.2.2.2 47 c (by omega)

section SM
variable {l : Launch} {G : Gt} {d : Nat} {Q Q' : QT} {M M' : Mem}
theorem RelB.kn (h : RelB Q M) (hc : eqC Q Q') (hv : eqV Q Q') (hr : eqR Q Q') (hI : ∀ f k i, ¬ f = 36 → M'.1 f k i = M.1 f k i) (hR : M'.2 = M.2) (hk : KnC Q' M'.1) : RelB Q' M' := by
  obtain ⟨a, b, c, e, g⟩ := h.1.oth2 (M' := M') (fun f k i _ hn => hI f k i hn) (fun f k i _ => by rw [hR]) (fun f _ => by rw [hR]) (by rw [hR]; exact CLe.rf _)
  refine ⟨⟨a, ClsC_q hc b, PastOK_q hc c, by rw [nCv_q hv]; exact FitC_q hc hv e, CovsC_q hv g, hk⟩, WaysC_q hr ⟨fun x y hx hy => ?_, fun x y hx hy => ?_⟩, RoadsC_q hr fun x y hx hy => ?_⟩
  · rw [hI _ _ _ (by omega)]; exact h.2.1.1 x y hx hy
  · rw [hI _ _ _ (by omega)]; exact h.2.1.2 x y hx hy
  · rw [hI _ _ _ (by omega)]; exact h.2.2 x y hx hy
/-- one row of the state at hand is other -/
theorem RelC.one (h : RelC Q M) (hw : WFA Q) (hB : RelB Q' M') (hS : StI Q' M' 0) (hT : TapC Q' M') (hO : eqM Q Q') (hI : ∀ f k i, ((1 ≤ k ∧ (f = 4 ∨ f = 33 ∨ f = 34 ∨ f = 35 ∨ f = 36 ∨ f = 37 ∨ f = 39)) ∨ (f = 5 ∧ 9 ≤ k)) → M'.1 f k i = M.1 f k i) (hR : ∀ f k i, (f = 17 ∨ (f = 38 ∧ 1 ≤ k) ∨ (f = 5 ∧ 9 ≤ k)) → M'.2.1 f k i = M.2.1 f k i) (hc : ∀ f, (f = 4 ∨ f = 5 ∨ f = 33 ∨ f = 34 ∨ f = 35 ∨ f = 36 ∨ f = 37 ∨ f = 38 ∨ f = 39) → cCnt M'.2.2 f = cCnt M.2.2 f) : RelC Q' M' := by
  refine ⟨hB, hS, hT, h.2.2.2.1.fr hw.im hO (fun k => hR _ _ _ (by omega)) (hc _ (by omega)) (fun j f i hj hh => hI _ _ _ (by omega)) (fun j i hj => hR _ _ _ (by omega)) (fun k hk => ⟨fun x => hI _ _ _ (by omega), hR _ _ _ (by omega)⟩), ?_⟩
  obtain ⟨c1, c2, c3⟩ := h.2.2.2.2
  refine ⟨fun f hh => ?_, ?_, ?_⟩
  · rw [hc f (by omega), hc _ (by omega)]; exact c1 f hh
  · rw [hc _ (by omega), hc _ (by omega)]; exact c2
  · rw [hc _ (by omega)]; exact c3
theorem frK.up {f i : Nat} {v : Int} (h : ¬ (f = 3 ∨ 48 ≤ f ∨ f < 2)) : frK M (upI M.1 f 0 i v, M.2.1, M.2.2) := ⟨fun f' k i' hh => by dsimp only; rw [upI_o (fun e => by omega)], ⟨rfl, rfl⟩, Nat.le_add_right _ _, Nat.le_add_right _ _⟩
theorem frK.rf : frK M M := ⟨fun _ _ _ _ => rfl, ⟨rfl, rfl⟩, Nat.le_add_right _ _, Nat.le_add_right _ _⟩
theorem eqD.up {f i : Nat} {v : Int} (h : f = 51 ∨ f = 52 ∨ f = 50 ∨ (f = 48 ∧ (i = 3 ∨ i = 4 ∨ i = 5)) ∨ (62 ≤ f ∧ f ≤ 70)) : eqC Q (upQ Q f i v) ∧ eqV Q (upQ Q f i v) ∧ eqR Q (upQ Q f i v) ∧ ∀ f', ¬ (48 ≤ f' ∧ f' ≤ 70) → upQ Q f i v f' = Q f' := by
  refine ⟨⟨upQ_o (by omega), upQ_o (by omega), upQ_f (by omega), upQ_f (by omega), upQ_f (by omega), upQ_f (by omega), upQ_f (by omega), upQ_f (by omega), upQ_f (by omega)⟩, ⟨upQ_o (by omega), upQ_f (by omega), upQ_f (by omega), upQ_f (by omega), upQ_f (by omega), upQ_f (by omega)⟩, ⟨upQ_o (by omega), upQ_f (by omega), upQ_f (by omega), upQ_f (by omega)⟩, fun f' hf => upQ_f (by omega)⟩
theorem WFz.up {f i : Nat} {v : Int} (h : WFz Q) (hi : 48 ≤ f → f ≤ 70 → i < lenF f) : WFz (upQ Q f i v) := fun f' i' h1 h2 h3 => by
  by_cases e : f' = f ∧ i' = i
  · obtain ⟨rfl, rfl⟩ := e
    have := hi h1 h2
    omega
  · rw [upQ_o e]; exact h f' i' h1 h2 h3
/-! worth -/
def worthG (o n : Int) : Prop := (0 ≤ o ∧ o ≤ 16) ∧ (0 ≤ n ∧ n ≤ 99)
def worthV (Q : QT) (o n : Int) : Int := if (0 ≤ o ∧ o ≤ 16) ∧ (0 ≤ n ∧ n ≤ 99) then Q 51 o.toNat else -1
def worthQ (Q : QT) (o n : Int) : QT := if (0 ≤ o ∧ o ≤ 16) ∧ (0 ≤ n ∧ n ≤ 99) then upQ Q 51 o.toNat n else Q
theorem worthQ_W {o n : Int} (h : WFA Q) : WFA (worthQ Q o n) := by
  unfold worthQ
  split
  · rename_i g
    obtain ⟨hc, hv, hr, hO⟩ := eqD.up (Q := Q) (f := 51) (i := o.toNat) (v := n) (by omega)
    have q := WFQ_q hc hv hr (upQ_f (by omega)) h.q
    refine ⟨⟨q.1, q.2.1, q.2.2.1, q.2.2.2.1, ?_, ?_, fun i hi => ?_, ?_⟩, q.2.2.2.2, ?_, h.2.2.2.1.up (fun _ _ => by unfold lenF; rw [if_neg (by omega), if_neg (by omega), if_pos rfl]; omega), fun k hk => ?_, by rw [hv.2.2.2.2.1, hv.2.2.2.2.2]; exact h.2.2.2.2.2⟩
    · have := h.1.2.2.2.2.1
      unfold WFl nLt at *
      rw [nPp_q hc, nCv_q hv]
      simp only [upQ_f (show 48 ≠ 51 by omega), upQ_f (show 62 ≠ 51 by omega), upQ_f (show 63 ≠ 51 by omega), upQ_f (show 67 ≠ 51 by omega), upQ_f (show 68 ≠ 51 by omega), upQ_f (show 70 ≠ 51 by omega), upQ_f (show 66 ≠ 51 by omega), upQ_f (show 69 ≠ 51 by omega)]
      exact this
    · rw [nPp_q hc, upQ_f (by omega)]; exact h.1.2.2.2.2.2.1
    · rw [upQ_c]
      split
      · exact g.2
      · exact h.1.2.2.2.2.2.2.1 i hi
    · rw [upQ_f (by omega), upQ_f (by omega)]; exact h.1.2.2.2.2.2.2.2
    · rw [upQ_f (by omega), upQ_f (by omega)]; exact h.2.2.1
    · rw [upQ_f (by omega), QB_eq (eqM.of hO)]; exact h.2.2.2.2.1 k hk
  · exact h
theorem KX12_worth {o n : Int} (hS : Sh M.2.1) (hH : HoldsQ Q M.1) : ∃ I', Cl l G (d + 1) mX12_worth [vR (some (3, 0)), vI o, vI n] M (some (vI (worthV Q o n))) (I', M.2.1, M.2.2) ∧ HoldsQ (worthQ Q o n) I' ∧ frR M.1 I' := by
  unfold worthV worthQ
  by_cases g : (0 ≤ o ∧ o ≤ 16) ∧ (0 ≤ n ∧ n ≤ 99)
  · rw [if_pos g, if_pos g]
    refine ⟨_, xX12_worth_0 hS ⟨fun c => absurd g.1 c, fun _ => ⟨fun _ => ⟨by omega, by rw [hH.1 _ _ (by unfold perF; omega)], rfl⟩, fun c => absurd g.2 c⟩⟩, hH.up (by unfold perF; omega) (by omega), frR.up (by omega)⟩
  · rw [if_neg g, if_neg g]
    exact ⟨M.1, xX12_worth_0 hS ⟨fun _ => ⟨rfl, rfl⟩, fun c => ⟨fun c2 => absurd ⟨c, c2⟩ g, fun _ => ⟨rfl, rfl⟩⟩⟩, hH, frR.rf⟩
/-- the state at hand, one row other -/
theorem StI.up {f fq i : Nat} {v : Int} (h : StI Q M 0) (hf : (f = 37 ∧ fq = 51) ∨ (f = 39 ∧ fq = 52) ∨ (f = 36 ∧ fq = 50)) : StI (upQ Q fq i v) (upI M.1 f 0 i v, M.2.1, M.2.2) 0 := by
  obtain ⟨hc, hv, hr, hO⟩ := eqD.up (Q := Q) (f := fq) (i := i) (v := v) (by omega)
  obtain ⟨⟨a1, a2, a3, a4⟩, a5, a6, a7, a8, a9, a10, a11⟩ := h
  have o : ∀ f' i', ¬ f' = f → upI M.1 f 0 i v f' 0 i' = M.1 f' 0 i' := fun f' i' hn => by rw [upI_o (fun e => hn e.1)]
  have row : ∀ {g gq : Nat} {n : Nat}, (∀ j, j < n → M.1 g 0 j = Q gq j) → ((g = f ∧ gq = fq) ∨ (¬ g = f ∧ ¬ gq = fq)) → ∀ j, j < n → upI M.1 f 0 i v g 0 j = upQ Q fq i v gq j := fun {g gq n} hh hcase j hj => by
    rcases hcase with ⟨rfl, rfl⟩ | ⟨e1, e2⟩
    · rw [upI_c, upQ_c]
      split
      · rfl
      · exact hh j hj
    · rw [o _ _ e1, upQ_f e2]; exact hh j hj
  refine ⟨⟨?_, ?_, ?_, ?_⟩, row a5 (by omega), fun x y hx hy => ?_, fun j hj => ?_, row a8 (by omega), row a9 (by omega), row a10 (by omega), ⟨?_, ?_⟩, a11.2.1, fun j hj => ?_⟩
  · dsimp only; rw [o _ _ (by omega), upQ_f (by omega)]; exact a1
  · dsimp only; rw [o _ _ (by omega), upQ_f (by omega)]; exact a2
  · dsimp only; rw [o _ _ (by omega), upQ_f (by omega)]; exact a3
  · dsimp only; rw [o _ _ (by omega), upQ_f (by omega)]; exact a4
  · dsimp only; rw [o _ _ (by omega), rd_q hr]; exact a6 x y hx hy
  · dsimp only; rw [o _ _ (by omega), pk_q hc, srt_q hc]; exact a7 j (by rw [nCh_q hc] at hj; exact hj)
  · dsimp only; rw [o _ _ (by omega), upQ_f (by omega)]; exact a11.1.1
  · dsimp only; rw [o _ _ (by omega), upQ_f (by omega)]; exact a11.1.2
  · have en : nLt (upQ Q fq i v) = nLt Q := by unfold nLt; rw [upQ_f (by omega)]
    rw [en] at hj
    dsimp only
    rw [upI_o (by omega), upQ_f (by omega)]
    unfold LtC
    rw [upQ_f (by omega), upQ_f (by omega), upQ_f (by omega), upQ_f (by omega), upQ_f (by omega), upQ_f (by omega), upQ_f (by omega), upQ_f (by omega)]
    exact a11.2.2 j hj
theorem RelC.up {f fq i : Nat} {v : Int} (h : RelC Q M) (hw : WFA Q) (hf : (f = 37 ∧ fq = 51) ∨ (f = 39 ∧ fq = 52) ∨ (f = 36 ∧ fq = 50)) : RelC (upQ Q fq i v) (upI M.1 f 0 i v, M.2.1, M.2.2) := by
  obtain ⟨hc, hv, hr, hO⟩ := eqD.up (Q := Q) (f := fq) (i := i) (v := v) (by omega)
  have S := h.2.1.up (i := i) (v := v) hf
  have o : ∀ f' k' i', ¬ (f' = f ∧ k' = 0) → upI M.1 f 0 i v f' k' i' = M.1 f' k' i' := fun f' k' i' hn => by rw [upI_o hn]
  refine h.one hw ?_ S (h.2.2.1.fr (by rw [hO _ (by omega)]) (hO _ (by omega)) (o _ _ _ (by omega)) (fun i => o _ _ _ (by omega))) (eqM.of hO) (fun f' k' i' hh => o f' k' i' (by omega)) (fun _ _ _ _ => rfl) (fun _ _ => rfl)
  by_cases e : f = 36
  · exact h.1.kn hc hv hr (fun f' k i hn => o f' k i (by omega)) rfl (fun r hr => S.2.2.2.2.1 r hr)
  · refine RelB_q hc hv hr (upQ_f (by omega)) ⟨h.1.1.up (by unfold relF; omega), ⟨fun x y hx hy => ?_, fun x y hx hy => ?_⟩, fun x y hx hy => ?_⟩
    · dsimp only; rw [o _ _ _ (by omega)]; exact h.1.2.1.1 x y hx hy
    · dsimp only; rw [o _ _ _ (by omega)]; exact h.1.2.1.2 x y hx hy
    · dsimp only; rw [o _ _ _ (by omega)]; exact h.1.2.2 x y hx hy
theorem KX11_worth {o n : Int} (hR : RelC Q M) (hw : WFA Q) : ∃ M', Cl l G d mX11_worth [vR (some (2, 0)), vI o, vI n] M (some (vI (worthV Q o n))) M' ∧ RelC (worthQ Q o n) M' ∧ frK M M' := by
  unfold worthV worthQ
  by_cases g : (0 ≤ o ∧ o ≤ 16) ∧ (0 ≤ n ∧ n ≤ 99)
  · rw [if_pos g, if_pos g]
    refine ⟨_, xX11_worth_0 hR.1.1.1 ⟨fun c => by omega, fun _ => ⟨fun c => by omega, fun _ => ⟨fun c => by omega, fun _ => ⟨fun _ => ⟨by omega, by rw [hR.2.1.2.2.2.2.2.1 _ (by omega)], rfl⟩, fun c => by omega⟩⟩⟩⟩, hR.up hw (by omega), frK.up (by omega)⟩
  · rw [if_neg g, if_neg g]
    exact ⟨M, xX11_worth_0 hR.1.1.1 ⟨fun _ => ⟨rfl, rfl⟩, fun c1 => ⟨fun _ => ⟨rfl, rfl⟩, fun c2 => ⟨fun _ => ⟨rfl, rfl⟩, fun c3 => ⟨fun c4 => absurd (by omega) g, fun _ => ⟨rfl, rfl⟩⟩⟩⟩⟩, hR, frK.rf⟩
end SM
