/-! chain, circle, strangers -/
set_option maxRecDepth 4000 in
theorem xX12_knownBy_0 {l : Launch} {G : Gt} {d : Nat} {M M' : Mem} {r : Option Vl} {x1 : Int} (h : 
    Ex l G (d + 1) mX12_knownBy 4 [some (vR (some (3, 0))), some (vI x1), some (vI x1), some (vI 0)] [] M r M') : Cl l G (d + 1) mX12_knownBy [vR (some (3, 0)), vI x1] M r M' := by
  show Ex l G (d + 1) mX12_knownBy 0 [some (vR (some (3, 0))), some (vI x1), none, none] [] M r M'
  refine r_iload_n 1 dX12_knownBy_0 rfl rfl ?_
  refine r_istore_n (ls' := [some (vR (some (3, 0))), some (vI x1), some (vI x1), none]) 2 dX12_knownBy_1 rfl rfl rfl rfl ?_
  refine r_iconst 3 dX12_knownBy_2 rfl (InR_of rfl) ?_
  refine r_istore_n (ls' := [some (vR (some (3, 0))), some (vI x1), some (vI x1), some (vI 0)]) 4 dX12_knownBy_3 rfl rfl rfl rfl ?_
  exact h
set_option maxRecDepth 4000 in
theorem xX12_knownBy_4 {l : Launch} {G : Gt} {d : Nat} {M M' : Mem} {r : Option Vl} {x1 : Int} {x2 : Int} {x3 : Int} (hS : Sh M.2.1) (h : 
    ((M.1 48 0 0) ≤ x3 → r = some (vI x2) ∧ M' = M) ∧ (¬ ((M.1 48 0 0) ≤ x3) → ((0 ≤ x1 ∧ 0 ≤ x3 ∧ x3 < 32)) ∧ (((tb x1 x3 = true → ((0 ≤ x3 ∧ x3 < 12)))) ∧ (InR (x3 + 1)) ∧ Ex l G (d + 1) mX12_knownBy 4 [some (vR (some (3, 0))), some (vI x1), some (vI (aOr x2 (if tb x1 x3 = true then (M.1 50 0 x3.toNat) else 0 : Int))), some (vI (x3 + 1))] [] M r M'))) : Ex l G (d + 1) mX12_knownBy 4 [some (vR (some (3, 0))), some (vI x1), some (vI x2), some (vI x3)] [] M r M' := by
  refine r_iload_n 5 dX12_knownBy_4 rfl rfl ?_
  refine r_aload_n 6 dX12_knownBy_5 rfl rfl ?_
  refine g_R 9 dX12_knownBy_6 rfl rfl rfl fr_12_7 (sh_12_1 hS) ?_
  refine r_iconst 10 dX12_knownBy_9 rfl (InR_of rfl) ?_
  refine a_I 6 11 dX12_knownBy_10 rfl rfl rfl rfl ⟨by decide, by decide⟩ rfl ?_
  refine r_icmp_ge 14 41 dX12_knownBy_11 rfl rfl (fun c => ?_) (fun c => ?_)
  · have h := h.1 (c)
    refine r_iload_n 42 dX12_knownBy_41 rfl rfl ?_
    exact r_iret dX12_knownBy_42 rfl (.inl rfl) h.1 h.2
  · have h := h.2 (c)
    obtain ⟨o_1, h⟩ := h
    refine r_iload_n 15 dX12_knownBy_14 rfl rfl ?_
    refine r_iload_n 16 dX12_knownBy_15 rfl rfl ?_
    refine r_iload_n 17 dX12_knownBy_16 rfl rfl ?_
    refine c_1 [vI x1, vI x3] [vI x2] 20 dX12_knownBy_17 rfl rfl mo_X12_has ml_12_148 rfl rfl (KX12_has o_1) ?_
    obtain ⟨h0, h⟩ := h
    have hJ_2 : Ex l G (d + 1) mX12_knownBy 33 [some (vR (some (3, 0))), some (vI x1), some (vI x2), some (vI x3)] [vI (if tb x1 x3 = true then (M.1 50 0 x3.toNat) else 0 : Int), vI x2] M r M' := by
      obtain ⟨o_5, h⟩ := h
      refine r_ior 34 dX12_knownBy_33 rfl ?_
      refine r_istore_n (ls' := [some (vR (some (3, 0))), some (vI x1), some (vI (aOr x2 (if tb x1 x3 = true then (M.1 50 0 x3.toNat) else 0 : Int))), some (vI x3)]) 35 dX12_knownBy_34 rfl rfl rfl rfl ?_
      refine r_iinc (ls' := [some (vR (some (3, 0))), some (vI x1), some (vI (aOr x2 (if tb x1 x3 = true then (M.1 50 0 x3.toNat) else 0 : Int))), some (vI (x3 + 1))]) 38 dX12_knownBy_35 rfl rfl rfl rfl o_5 rfl ?_
      refine r_goto 4 dX12_knownBy_38 rfl ?_
      exact h
    have h := h0
    refine r_if_eq 23 32 dX12_knownBy_20 rfl rfl (fun c => ?_) (fun c => ?_)
    · have c_3 := b2_0.mp c
      refine r_iconst 33 dX12_knownBy_32 rfl (InR_of rfl) ?_
      exact (Ex.at hJ_2 rfl (show [vI 0, vI x2] = [vI (if tb x1 x3 = true then (M.1 50 0 x3.toNat) else 0 : Int), vI x2] by simp only [if_neg c_3]) rfl)
    · have c_3 := b2_1.mp c
      have h := h c_3
      have o_4 := h
      refine r_aload_n 24 dX12_knownBy_23 rfl rfl ?_
      refine g_R 27 dX12_knownBy_24 rfl rfl rfl fr_12_16 (sh_12_3 hS) ?_
      refine r_iload_n 28 dX12_knownBy_27 rfl rfl ?_
      refine a_I 12 29 dX12_knownBy_28 rfl rfl rfl rfl o_4 rfl ?_
      refine r_goto 33 dX12_knownBy_29 rfl ?_
      exact (Ex.at hJ_2 rfl (show [vI (M.1 50 0 x3.toNat), vI x2] = [vI (if tb x1 x3 = true then (M.1 50 0 x3.toNat) else 0 : Int), vI x2] by simp only [if_pos c_3]) rfl)

set_option maxRecDepth 4000 in
theorem xX11_withKnown_0 {l : Launch} {G : Gt} {d : Nat} {M M' : Mem} {r : Option Vl} {x1 : Int} (h : 
    Ex l G (d + 1) mX11_withKnown 4 [some (vR (some (2, 0))), some (vI x1), some (vI x1), some (vI 0)] [] M r M') : Cl l G (d + 1) mX11_withKnown [vR (some (2, 0)), vI x1] M r M' := by
  show Ex l G (d + 1) mX11_withKnown 0 [some (vR (some (2, 0))), some (vI x1), none, none] [] M r M'
  refine r_iload_n 1 dX11_withKnown_0 rfl rfl ?_
  refine r_istore_n (ls' := [some (vR (some (2, 0))), some (vI x1), some (vI x1), none]) 2 dX11_withKnown_1 rfl rfl rfl rfl ?_
  refine r_iconst 3 dX11_withKnown_2 rfl (InR_of rfl) ?_
  refine r_istore_n (ls' := [some (vR (some (2, 0))), some (vI x1), some (vI x1), some (vI 0)]) 4 dX11_withKnown_3 rfl rfl rfl rfl ?_
  exact h
set_option maxRecDepth 4000 in
theorem xX11_withKnown_4 {l : Launch} {G : Gt} {d : Nat} {M M' : Mem} {r : Option Vl} {x1 : Int} {x2 : Int} {x3 : Int} (hS : Sh M.2.1) (h : 
    ((M.1 4 0 0) ≤ x3 → r = some (vI x2) ∧ M' = M) ∧ (¬ ((M.1 4 0 0) ≤ x3) → ((0 ≤ x1 ∧ 0 ≤ x3 ∧ x3 < 32)) ∧ (((tb x1 x3 = true → ((0 ≤ x3 ∧ x3 < 12)))) ∧ (InR (x3 + 1)) ∧ Ex l G (d + 1) mX11_withKnown 4 [some (vR (some (2, 0))), some (vI x1), some (vI (if tb x1 x3 = true then (aOr x2 (M.1 36 0 x3.toNat)) else x2 : Int)), some (vI (x3 + 1))] [] M r M'))) : Ex l G (d + 1) mX11_withKnown 4 [some (vR (some (2, 0))), some (vI x1), some (vI x2), some (vI x3)] [] M r M' := by
  refine r_iload_n 5 dX11_withKnown_4 rfl rfl ?_
  refine r_aload_n 6 dX11_withKnown_5 rfl rfl ?_
  refine g_R 9 dX11_withKnown_6 rfl rfl rfl fr_11_12 (sh_11_0 hS) ?_
  refine g_I 12 dX11_withKnown_9 rfl rfl rfl fi_11_111 rfl ?_
  refine r_icmp_ge 15 41 dX11_withKnown_12 rfl rfl (fun c => ?_) (fun c => ?_)
  · have h := h.1 (c)
    refine r_iload_n 42 dX11_withKnown_41 rfl rfl ?_
    exact r_iret dX11_withKnown_42 rfl (.inl rfl) h.1 h.2
  · have h := h.2 (c)
    obtain ⟨o_1, h⟩ := h
    refine r_iload_n 16 dX11_withKnown_15 rfl rfl ?_
    refine r_iload_n 17 dX11_withKnown_16 rfl rfl ?_
    refine c_1 [vI x1, vI x3] [] 20 dX11_withKnown_17 rfl rfl mo_X11_hasBit ml_11_141 rfl rfl (KX11_hasBit o_1) ?_
    obtain ⟨h0, h⟩ := h
    have hJ_2 : Ex l G (d + 1) mX11_withKnown 35 [some (vR (some (2, 0))), some (vI x1), some (vI (if tb x1 x3 = true then (aOr x2 (M.1 36 0 x3.toNat)) else x2 : Int)), some (vI x3)] [] M r M' := by
      obtain ⟨o_5, h⟩ := h
      refine r_iinc (ls' := [some (vR (some (2, 0))), some (vI x1), some (vI (if tb x1 x3 = true then (aOr x2 (M.1 36 0 x3.toNat)) else x2 : Int)), some (vI (x3 + 1))]) 38 dX11_withKnown_35 rfl rfl rfl rfl o_5 rfl ?_
      refine r_goto 4 dX11_withKnown_38 rfl ?_
      exact h
    have h := h0
    refine r_if_eq 23 35 dX11_withKnown_20 rfl rfl (fun c => ?_) (fun c => ?_)
    · have c_3 := b2_0.mp c
      exact (Ex.at hJ_2 (show [some (vR (some (2, 0))), some (vI x1), some (vI x2), some (vI x3)] = [some (vR (some (2, 0))), some (vI x1), some (vI (if tb x1 x3 = true then (aOr x2 (M.1 36 0 x3.toNat)) else x2 : Int)), some (vI x3)] by simp only [if_neg c_3]) rfl rfl)
    · have c_3 := b2_1.mp c
      have h := h c_3
      have o_4 := h
      refine r_iload_n 24 dX11_withKnown_23 rfl rfl ?_
      refine r_aload_n 25 dX11_withKnown_24 rfl rfl ?_
      refine g_R 28 dX11_withKnown_25 rfl rfl rfl fr_11_12 (sh_11_0 hS) ?_
      refine g_R 31 dX11_withKnown_28 rfl rfl rfl fr_11_138 (sh_8_6 hS _) ?_
      refine r_iload_n 32 dX11_withKnown_31 rfl rfl ?_
      refine a_I 12 33 dX11_withKnown_32 rfl rfl rfl rfl o_4 rfl ?_
      refine r_ior 34 dX11_withKnown_33 rfl ?_
      refine r_istore_n (ls' := [some (vR (some (2, 0))), some (vI x1), some (vI (aOr x2 (M.1 36 0 x3.toNat))), some (vI x3)]) 35 dX11_withKnown_34 rfl rfl rfl rfl ?_
      exact (Ex.at hJ_2 (show [some (vR (some (2, 0))), some (vI x1), some (vI (aOr x2 (M.1 36 0 x3.toNat))), some (vI x3)] = [some (vR (some (2, 0))), some (vI x1), some (vI (if tb x1 x3 = true then (aOr x2 (M.1 36 0 x3.toNat)) else x2 : Int)), some (vI x3)] by simp only [if_pos c_3]) rfl rfl)

set_option maxRecDepth 4000 in
theorem xX12_chain_0 {l : Launch} {G : Gt} {d : Nat} {M M' : Mem} {r : Option Vl} {x1 : Int} {x2 : Int} (hS : Sh M.2.1) (h : 
    (InR ((M.1 48 0 0) - 1)) ∧ ((¬ (0 ≤ x1 ∧ x1 < (M.1 48 0 0)) → r = some (vI (-1)) ∧ M' = M) ∧ (0 ≤ x1 ∧ x1 < (M.1 48 0 0) → (InR ((M.1 48 0 0) - 1)) ∧ ((0 ≤ x2 ∧ x2 < (M.1 48 0 0) → ((0 ≤ x1 ∧ x1 < 32)) ∧ Ex l G (d + 2) mX12_chain 25 [some (vR (some (3, 0))), some (vI x1), some (vI x2), some (vI (aShl 1 x1)), some (vI 0)] [] M r M') ∧ (¬ (0 ≤ x2 ∧ x2 < (M.1 48 0 0)) → r = some (vI (-1)) ∧ M' = M))))) : Cl l G (d + 2) mX12_chain [vR (some (3, 0)), vI x1, vI x2] M r M' := by
  show Ex l G (d + 2) mX12_chain 0 [some (vR (some (3, 0))), some (vI x1), some (vI x2), none, none] [] M r M'
  obtain ⟨o_1, h⟩ := h
  refine r_aload_n 1 dX12_chain_0 rfl rfl ?_
  refine r_iload_n 2 dX12_chain_1 rfl rfl ?_
  refine v_1 (ci := 12) (C := (RX12, TX12, 68)) [vI x1] [] 5 dX12_chain_2 rfl rfl rfl rfl rfl mo_X12_isPerson ml_12_175 rfl rfl (KX12_isPerson hS o_1) ?_
  refine r_if_eq 8 16 dX12_chain_5 rfl rfl (fun c => ?_) (fun c => ?_)
  · have h := h.1 (b2_0.mp c)
    refine r_iconst 17 dX12_chain_16 rfl (InR_of rfl) ?_
    exact r_iret dX12_chain_17 rfl (.inl rfl) h.1 h.2
  · have h := h.2 (b2_1.mp c)
    obtain ⟨o_2, h⟩ := h
    refine r_aload_n 9 dX12_chain_8 rfl rfl ?_
    refine r_iload_n 10 dX12_chain_9 rfl rfl ?_
    refine v_1 (ci := 12) (C := (RX12, TX12, 68)) [vI x2] [] 13 dX12_chain_10 rfl rfl rfl rfl rfl mo_X12_isPerson ml_12_175 rfl rfl (KX12_isPerson hS o_2) ?_
    refine r_if_ne 16 18 dX12_chain_13 rfl rfl (fun c => ?_) (fun c => ?_)
    · have h := h.1 (b2_1.mp c)
      obtain ⟨o_3, h⟩ := h
      refine r_iconst 19 dX12_chain_18 rfl (InR_of rfl) ?_
      refine r_iload_n 20 dX12_chain_19 rfl rfl ?_
      refine r_ishl 21 dX12_chain_20 rfl o_3 ?_
      refine r_istore_n (ls' := [some (vR (some (3, 0))), some (vI x1), some (vI x2), some (vI (aShl 1 x1)), none]) 22 dX12_chain_21 rfl rfl rfl rfl ?_
      refine r_iconst 23 dX12_chain_22 rfl (InR_of rfl) ?_
      refine r_istore (ls' := [some (vR (some (3, 0))), some (vI x1), some (vI x2), some (vI (aShl 1 x1)), some (vI 0)]) 25 dX12_chain_23 rfl rfl rfl rfl ?_
      exact h
    · have h := h.2 (b2_0.mp (Decidable.not_not.mp c))
      refine r_iconst 17 dX12_chain_16 rfl (InR_of rfl) ?_
      exact r_iret dX12_chain_17 rfl (.inl rfl) h.1 h.2
set_option maxRecDepth 4000 in
theorem xX12_chain_25 {l : Launch} {G : Gt} {d : Nat} {M M' : Mem} {r : Option Vl} {x1 : Int} {x2 : Int} {x3 : Int} {x4 : Int} (h : 
    (12 < x4 → r = some (vI (-2)) ∧ M' = M) ∧ (¬ (12 < x4) → ((0 ≤ x3 ∧ 0 ≤ x2 ∧ x2 < 32)) ∧ ((¬ (tb x3 x2 = true) → ∃ (r_4 : Int) (M_2 : Mem), Cl l G (d + 1) mX12_knownBy [vR (some (3, 0)), vI x3] M (some (vI r_4)) M_2 ∧ (InR (x4 + 1)) ∧ Ex l G (d + 2) mX12_chain 25 [some (vR (some (3, 0))), some (vI x1), some (vI x2), some (vI r_4), some (vI (x4 + 1))] [] M_2 r M') ∧ (tb x3 x2 = true → r = some (vI x4) ∧ M' = M)))) : Ex l G (d + 2) mX12_chain 25 [some (vR (some (3, 0))), some (vI x1), some (vI x2), some (vI x3), some (vI x4)] [] M r M' := by
  refine r_iload 27 dX12_chain_25 rfl rfl ?_
  refine r_bipush 29 dX12_chain_27 rfl rfl ?_
  refine r_icmp_gt 32 55 dX12_chain_29 rfl rfl (fun c => ?_) (fun c => ?_)
  · have h := h.1 (c)
    refine r_bipush 57 dX12_chain_55 rfl rfl ?_
    exact r_iret dX12_chain_57 rfl (.inl rfl) h.1 h.2
  · have h := h.2 (c)
    obtain ⟨o_1, h⟩ := h
    refine r_iload_n 33 dX12_chain_32 rfl rfl ?_
    refine r_iload_n 34 dX12_chain_33 rfl rfl ?_
    refine c_1 [vI x3, vI x2] [] 37 dX12_chain_34 rfl rfl mo_X12_has ml_12_148 rfl rfl (KX12_has o_1) ?_
    refine r_if_eq 40 43 dX12_chain_37 rfl rfl (fun c => ?_) (fun c => ?_)
    · have h := h.1 (b2_0.mp c)
      refine r_aload_n 44 dX12_chain_43 rfl rfl ?_
      refine r_iload_n 45 dX12_chain_44 rfl rfl ?_
      obtain ⟨r_4, M_2, hc_3, h⟩ := h
      refine v_1 (ci := 12) (C := (RX12, TX12, 68)) [vI x3] [] 48 dX12_chain_45 rfl rfl rfl rfl rfl mo_X12_knownBy ml_12_452 rfl rfl hc_3 ?_
      obtain ⟨o_5, h⟩ := h
      refine r_istore_n (ls' := [some (vR (some (3, 0))), some (vI x1), some (vI x2), some (vI r_4), some (vI x4)]) 49 dX12_chain_48 rfl rfl rfl rfl ?_
      refine r_iinc (ls' := [some (vR (some (3, 0))), some (vI x1), some (vI x2), some (vI r_4), some (vI (x4 + 1))]) 52 dX12_chain_49 rfl rfl rfl rfl o_5 rfl ?_
      refine r_goto 25 dX12_chain_52 rfl ?_
      exact h
    · have h := h.2 (b2_1.mp c)
      refine r_iload 42 dX12_chain_40 rfl rfl ?_
      exact r_iret dX12_chain_42 rfl (.inl rfl) h.1 h.2

set_option maxRecDepth 4000 in
theorem xX11_chain_0 {l : Launch} {G : Gt} {d : Nat} {M M' : Mem} {r : Option Vl} {x1 : Int} {x2 : Int} (hS : Sh M.2.1) (h : 
    (¬ (0 ≤ x1 ∧ x1 < (M.1 4 0 0)) → r = some (vI (-1)) ∧ M' = M) ∧ (0 ≤ x1 ∧ x1 < (M.1 4 0 0) → (0 ≤ x2 ∧ x2 < (M.1 4 0 0) → ((0 ≤ x1 ∧ x1 < 32)) ∧ Ex l G (d + 1) mX11_chain 25 [some (vR (some (2, 0))), some (vI x1), some (vI x2), some (vI (aShl 1 x1)), some (vI 0)] [] M r M') ∧ (¬ (0 ≤ x2 ∧ x2 < (M.1 4 0 0)) → r = some (vI (-1)) ∧ M' = M))) : Cl l G (d + 1) mX11_chain [vR (some (2, 0)), vI x1, vI x2] M r M' := by
  show Ex l G (d + 1) mX11_chain 0 [some (vR (some (2, 0))), some (vI x1), some (vI x2), none, none] [] M r M'
  refine r_aload_n 1 dX11_chain_0 rfl rfl ?_
  refine r_iload_n 2 dX11_chain_1 rfl rfl ?_
  refine v_1 (ci := 11) (C := (RX11, TX11, 16)) [vI x1] [] 5 dX11_chain_2 rfl rfl rfl rfl rfl mo_X11_isPerson ml_11_127 rfl rfl (KX11_isPerson hS) ?_
  refine r_if_eq 8 16 dX11_chain_5 rfl rfl (fun c => ?_) (fun c => ?_)
  · have h := h.1 (b2_0.mp c)
    refine r_iconst 17 dX11_chain_16 rfl (InR_of rfl) ?_
    exact r_iret dX11_chain_17 rfl (.inl rfl) h.1 h.2
  · have h := h.2 (b2_1.mp c)
    refine r_aload_n 9 dX11_chain_8 rfl rfl ?_
    refine r_iload_n 10 dX11_chain_9 rfl rfl ?_
    refine v_1 (ci := 11) (C := (RX11, TX11, 16)) [vI x2] [] 13 dX11_chain_10 rfl rfl rfl rfl rfl mo_X11_isPerson ml_11_127 rfl rfl (KX11_isPerson hS) ?_
    refine r_if_ne 16 18 dX11_chain_13 rfl rfl (fun c => ?_) (fun c => ?_)
    · have h := h.1 (b2_1.mp c)
      obtain ⟨o_1, h⟩ := h
      refine r_iconst 19 dX11_chain_18 rfl (InR_of rfl) ?_
      refine r_iload_n 20 dX11_chain_19 rfl rfl ?_
      refine r_ishl 21 dX11_chain_20 rfl o_1 ?_
      refine r_istore_n (ls' := [some (vR (some (2, 0))), some (vI x1), some (vI x2), some (vI (aShl 1 x1)), none]) 22 dX11_chain_21 rfl rfl rfl rfl ?_
      refine r_iconst 23 dX11_chain_22 rfl (InR_of rfl) ?_
      refine r_istore (ls' := [some (vR (some (2, 0))), some (vI x1), some (vI x2), some (vI (aShl 1 x1)), some (vI 0)]) 25 dX11_chain_23 rfl rfl rfl rfl ?_
      exact h
    · have h := h.2 (b2_0.mp (Decidable.not_not.mp c))
      refine r_iconst 17 dX11_chain_16 rfl (InR_of rfl) ?_
      exact r_iret dX11_chain_17 rfl (.inl rfl) h.1 h.2
set_option maxRecDepth 4000 in
theorem xX11_chain_25 {l : Launch} {G : Gt} {d : Nat} {M M' : Mem} {r : Option Vl} {x1 : Int} {x2 : Int} {x3 : Int} {x4 : Int} (h : 
    (12 ≤ x4 → r = some (vI (-2)) ∧ M' = M) ∧ (¬ (12 ≤ x4) → ((0 ≤ x3 ∧ 0 ≤ x2 ∧ x2 < 32)) ∧ ((¬ (tb x3 x2 = true) → ∃ (r_4 : Int) (M_2 : Mem), Cl l G d mX11_withKnown [vR (some (2, 0)), vI x3] M (some (vI r_4)) M_2 ∧ (InR (x4 + 1)) ∧ Ex l G (d + 1) mX11_chain 25 [some (vR (some (2, 0))), some (vI x1), some (vI x2), some (vI r_4), some (vI (x4 + 1))] [] M_2 r M') ∧ (tb x3 x2 = true → r = some (vI x4) ∧ M' = M)))) : Ex l G (d + 1) mX11_chain 25 [some (vR (some (2, 0))), some (vI x1), some (vI x2), some (vI x3), some (vI x4)] [] M r M' := by
  refine r_iload 27 dX11_chain_25 rfl rfl ?_
  refine r_bipush 29 dX11_chain_27 rfl rfl ?_
  refine r_icmp_ge 32 55 dX11_chain_29 rfl rfl (fun c => ?_) (fun c => ?_)
  · have h := h.1 (c)
    refine r_bipush 57 dX11_chain_55 rfl rfl ?_
    exact r_iret dX11_chain_57 rfl (.inl rfl) h.1 h.2
  · have h := h.2 (c)
    obtain ⟨o_1, h⟩ := h
    refine r_iload_n 33 dX11_chain_32 rfl rfl ?_
    refine r_iload_n 34 dX11_chain_33 rfl rfl ?_
    refine c_1 [vI x3, vI x2] [] 37 dX11_chain_34 rfl rfl mo_X11_hasBit ml_11_141 rfl rfl (KX11_hasBit o_1) ?_
    refine r_if_eq 40 43 dX11_chain_37 rfl rfl (fun c => ?_) (fun c => ?_)
    · have h := h.1 (b2_0.mp c)
      refine r_aload_n 44 dX11_chain_43 rfl rfl ?_
      refine r_iload_n 45 dX11_chain_44 rfl rfl ?_
      obtain ⟨r_4, M_2, hc_3, h⟩ := h
      refine v_1 (ci := 11) (C := (RX11, TX11, 16)) [vI x3] [] 48 dX11_chain_45 rfl rfl rfl rfl rfl mo_X11_withKnown ml_11_359 rfl rfl hc_3 ?_
      obtain ⟨o_5, h⟩ := h
      refine r_istore_n (ls' := [some (vR (some (2, 0))), some (vI x1), some (vI x2), some (vI r_4), some (vI x4)]) 49 dX11_chain_48 rfl rfl rfl rfl ?_
      refine r_iinc (ls' := [some (vR (some (2, 0))), some (vI x1), some (vI x2), some (vI r_4), some (vI (x4 + 1))]) 52 dX11_chain_49 rfl rfl rfl rfl o_5 rfl ?_
      refine r_goto 25 dX11_chain_52 rfl ?_
      exact h
    · have h := h.2 (b2_1.mp c)
      refine r_iload 42 dX11_chain_40 rfl rfl ?_
      exact r_iret dX11_chain_42 rfl (.inl rfl) h.1 h.2

set_option maxRecDepth 4000 in
theorem xX12_circle_0 {l : Launch} {G : Gt} {d : Nat} {M M' : Mem} {r : Option Vl} {x1 : Int} (hS : Sh M.2.1) (h : 
    (InR ((M.1 48 0 0) - 1)) ∧ ((0 ≤ x1 ∧ x1 < (M.1 48 0 0) → ((0 ≤ x1 ∧ x1 < 32)) ∧ Ex l G (d + 2) mX12_circle 16 [some (vR (some (3, 0))), some (vI x1), some (vI (aShl 1 x1)), some (vI 0)] [] M r M') ∧ (¬ (0 ≤ x1 ∧ x1 < (M.1 48 0 0)) → r = some (vI (-1)) ∧ M' = M))) : Cl l G (d + 2) mX12_circle [vR (some (3, 0)), vI x1] M r M' := by
  show Ex l G (d + 2) mX12_circle 0 [some (vR (some (3, 0))), some (vI x1), none, none] [] M r M'
  obtain ⟨o_1, h⟩ := h
  refine r_aload_n 1 dX12_circle_0 rfl rfl ?_
  refine r_iload_n 2 dX12_circle_1 rfl rfl ?_
  refine v_1 (ci := 12) (C := (RX12, TX12, 68)) [vI x1] [] 5 dX12_circle_2 rfl rfl rfl rfl rfl mo_X12_isPerson ml_12_175 rfl rfl (KX12_isPerson hS o_1) ?_
  refine r_if_ne 8 10 dX12_circle_5 rfl rfl (fun c => ?_) (fun c => ?_)
  · have h := h.1 (b2_1.mp c)
    obtain ⟨o_2, h⟩ := h
    refine r_iconst 11 dX12_circle_10 rfl (InR_of rfl) ?_
    refine r_iload_n 12 dX12_circle_11 rfl rfl ?_
    refine r_ishl 13 dX12_circle_12 rfl o_2 ?_
    refine r_istore_n (ls' := [some (vR (some (3, 0))), some (vI x1), some (vI (aShl 1 x1)), none]) 14 dX12_circle_13 rfl rfl rfl rfl ?_
    refine r_iconst 15 dX12_circle_14 rfl (InR_of rfl) ?_
    refine r_istore_n (ls' := [some (vR (some (3, 0))), some (vI x1), some (vI (aShl 1 x1)), some (vI 0)]) 16 dX12_circle_15 rfl rfl rfl rfl ?_
    exact h
  · have h := h.2 (b2_0.mp (Decidable.not_not.mp c))
    refine r_iconst 9 dX12_circle_8 rfl (InR_of rfl) ?_
    exact r_iret dX12_circle_9 rfl (.inl rfl) h.1 h.2
set_option maxRecDepth 4000 in
theorem xX12_circle_16 {l : Launch} {G : Gt} {d : Nat} {M M' : Mem} {r : Option Vl} {x1 : Int} {x2 : Int} {x3 : Int} (h : 
    (12 ≤ x3 → r = some (vI x2) ∧ M' = M) ∧ (¬ (12 ≤ x3) → ∃ (r_3 : Int) (M_1 : Mem), Cl l G (d + 1) mX12_knownBy [vR (some (3, 0)), vI x2] M (some (vI r_3)) M_1 ∧ (InR (x3 + 1)) ∧ Ex l G (d + 2) mX12_circle 16 [some (vR (some (3, 0))), some (vI x1), some (vI r_3), some (vI (x3 + 1))] [] M_1 r M')) : Ex l G (d + 2) mX12_circle 16 [some (vR (some (3, 0))), some (vI x1), some (vI x2), some (vI x3)] [] M r M' := by
  refine r_iload_n 17 dX12_circle_16 rfl rfl ?_
  refine r_bipush 19 dX12_circle_17 rfl rfl ?_
  refine r_icmp_ge 22 34 dX12_circle_19 rfl rfl (fun c => ?_) (fun c => ?_)
  · have h := h.1 (c)
    refine r_iload_n 35 dX12_circle_34 rfl rfl ?_
    exact r_iret dX12_circle_35 rfl (.inl rfl) h.1 h.2
  · have h := h.2 (c)
    refine r_aload_n 23 dX12_circle_22 rfl rfl ?_
    refine r_iload_n 24 dX12_circle_23 rfl rfl ?_
    obtain ⟨r_3, M_1, hc_2, h⟩ := h
    refine v_1 (ci := 12) (C := (RX12, TX12, 68)) [vI x2] [] 27 dX12_circle_24 rfl rfl rfl rfl rfl mo_X12_knownBy ml_12_452 rfl rfl hc_2 ?_
    obtain ⟨o_4, h⟩ := h
    refine r_istore_n (ls' := [some (vR (some (3, 0))), some (vI x1), some (vI r_3), some (vI x3)]) 28 dX12_circle_27 rfl rfl rfl rfl ?_
    refine r_iinc (ls' := [some (vR (some (3, 0))), some (vI x1), some (vI r_3), some (vI (x3 + 1))]) 31 dX12_circle_28 rfl rfl rfl rfl o_4 rfl ?_
    refine r_goto 16 dX12_circle_31 rfl ?_
    exact h

set_option maxRecDepth 4000 in
theorem xX11_circle_0 {l : Launch} {G : Gt} {d : Nat} {M M' : Mem} {r : Option Vl} {x1 : Int} (hS : Sh M.2.1) (h : 
    (0 ≤ x1 ∧ x1 < (M.1 4 0 0) → ((0 ≤ x1 ∧ x1 < 32)) ∧ Ex l G (d + 1) mX11_circle 16 [some (vR (some (2, 0))), some (vI x1), some (vI (aShl 1 x1)), some (vI 0)] [] M r M') ∧ (¬ (0 ≤ x1 ∧ x1 < (M.1 4 0 0)) → r = some (vI (-1)) ∧ M' = M)) : Cl l G (d + 1) mX11_circle [vR (some (2, 0)), vI x1] M r M' := by
  show Ex l G (d + 1) mX11_circle 0 [some (vR (some (2, 0))), some (vI x1), none, none] [] M r M'
  refine r_aload_n 1 dX11_circle_0 rfl rfl ?_
  refine r_iload_n 2 dX11_circle_1 rfl rfl ?_
  refine v_1 (ci := 11) (C := (RX11, TX11, 16)) [vI x1] [] 5 dX11_circle_2 rfl rfl rfl rfl rfl mo_X11_isPerson ml_11_127 rfl rfl (KX11_isPerson hS) ?_
  refine r_if_ne 8 10 dX11_circle_5 rfl rfl (fun c => ?_) (fun c => ?_)
  · have h := h.1 (b2_1.mp c)
    obtain ⟨o_1, h⟩ := h
    refine r_iconst 11 dX11_circle_10 rfl (InR_of rfl) ?_
    refine r_iload_n 12 dX11_circle_11 rfl rfl ?_
    refine r_ishl 13 dX11_circle_12 rfl o_1 ?_
    refine r_istore_n (ls' := [some (vR (some (2, 0))), some (vI x1), some (vI (aShl 1 x1)), none]) 14 dX11_circle_13 rfl rfl rfl rfl ?_
    refine r_iconst 15 dX11_circle_14 rfl (InR_of rfl) ?_
    refine r_istore_n (ls' := [some (vR (some (2, 0))), some (vI x1), some (vI (aShl 1 x1)), some (vI 0)]) 16 dX11_circle_15 rfl rfl rfl rfl ?_
    exact h
  · have h := h.2 (b2_0.mp (Decidable.not_not.mp c))
    refine r_iconst 9 dX11_circle_8 rfl (InR_of rfl) ?_
    exact r_iret dX11_circle_9 rfl (.inl rfl) h.1 h.2
set_option maxRecDepth 4000 in
theorem xX11_circle_16 {l : Launch} {G : Gt} {d : Nat} {M M' : Mem} {r : Option Vl} {x1 : Int} {x2 : Int} {x3 : Int} (h : 
    (12 ≤ x3 → r = some (vI x2) ∧ M' = M) ∧ (¬ (12 ≤ x3) → ∃ (r_3 : Int) (M_1 : Mem), Cl l G d mX11_withKnown [vR (some (2, 0)), vI x2] M (some (vI r_3)) M_1 ∧ (InR (x3 + 1)) ∧ Ex l G (d + 1) mX11_circle 16 [some (vR (some (2, 0))), some (vI x1), some (vI r_3), some (vI (x3 + 1))] [] M_1 r M')) : Ex l G (d + 1) mX11_circle 16 [some (vR (some (2, 0))), some (vI x1), some (vI x2), some (vI x3)] [] M r M' := by
  refine r_iload_n 17 dX11_circle_16 rfl rfl ?_
  refine r_bipush 19 dX11_circle_17 rfl rfl ?_
  refine r_icmp_ge 22 34 dX11_circle_19 rfl rfl (fun c => ?_) (fun c => ?_)
  · have h := h.1 (c)
    refine r_iload_n 35 dX11_circle_34 rfl rfl ?_
    exact r_iret dX11_circle_35 rfl (.inl rfl) h.1 h.2
  · have h := h.2 (c)
    refine r_aload_n 23 dX11_circle_22 rfl rfl ?_
    refine r_iload_n 24 dX11_circle_23 rfl rfl ?_
    obtain ⟨r_3, M_1, hc_2, h⟩ := h
    refine v_1 (ci := 11) (C := (RX11, TX11, 16)) [vI x2] [] 27 dX11_circle_24 rfl rfl rfl rfl rfl mo_X11_withKnown ml_11_359 rfl rfl hc_2 ?_
    obtain ⟨o_4, h⟩ := h
    refine r_istore_n (ls' := [some (vR (some (2, 0))), some (vI x1), some (vI r_3), some (vI x3)]) 28 dX11_circle_27 rfl rfl rfl rfl ?_
    refine r_iinc (ls' := [some (vR (some (2, 0))), some (vI x1), some (vI r_3), some (vI (x3 + 1))]) 31 dX11_circle_28 rfl rfl rfl rfl o_4 rfl ?_
    refine r_goto 16 dX11_circle_31 rfl ?_
    exact h

set_option maxRecDepth 4000 in
theorem xX12_strangers_0 {l : Launch} {G : Gt} {d : Nat} {M M' : Mem} {r : Option Vl} {x1 : Int} (h : 
    (0 ≤ x1 ∧ x1 ≤ 999 → ∃ (M_1 : Mem), Cl l G (d + 1) mX12_lays [vR (some (3, 0)), vI 1, vI x1] M none M_1 ∧ Ex l G (d + 2) mX12_strangers 19 [some (vR (some (3, 0))), some (vI x1), some (vI 0), some (vI 0), none] [] M_1 r M') ∧ (¬ (0 ≤ x1 ∧ x1 ≤ 999) → r = some (vI (-1)) ∧ M' = M)) : Cl l G (d + 2) mX12_strangers [vR (some (3, 0)), vI x1] M r M' := by
  show Ex l G (d + 2) mX12_strangers 0 [some (vR (some (3, 0))), some (vI x1), none, none, none] [] M r M'
  refine r_iload_n 1 dX12_strangers_0 rfl rfl ?_
  refine c_1 [vI x1] [] 4 dX12_strangers_1 rfl rfl mo_X12_isDay ml_12_170 rfl rfl (KX12_isDay) ?_
  refine r_if_ne 7 9 dX12_strangers_4 rfl rfl (fun c => ?_) (fun c => ?_)
  · have h := h.1 (b2_1.mp c)
    refine r_aload_n 10 dX12_strangers_9 rfl rfl ?_
    refine r_iconst 11 dX12_strangers_10 rfl (InR_of rfl) ?_
    refine r_iload_n 12 dX12_strangers_11 rfl rfl ?_
    obtain ⟨M_1, hc_2, h⟩ := h
    refine v_0 (ci := 12) (C := (RX12, TX12, 68)) [vI 1, vI x1] [] 15 dX12_strangers_12 rfl rfl rfl rfl rfl mo_X12_lays ml_12_198 rfl rfl hc_2 ?_
    refine r_iconst 16 dX12_strangers_15 rfl (InR_of rfl) ?_
    refine r_istore_n (ls' := [some (vR (some (3, 0))), some (vI x1), some (vI 0), none, none]) 17 dX12_strangers_16 rfl rfl rfl rfl ?_
    refine r_iconst 18 dX12_strangers_17 rfl (InR_of rfl) ?_
    refine r_istore_n (ls' := [some (vR (some (3, 0))), some (vI x1), some (vI 0), some (vI 0), none]) 19 dX12_strangers_18 rfl rfl rfl rfl ?_
    exact h
  · have h := h.2 (b2_0.mp (Decidable.not_not.mp c))
    refine r_iconst 8 dX12_strangers_7 rfl (InR_of rfl) ?_
    exact r_iret dX12_strangers_8 rfl (.inl rfl) h.1 h.2
set_option maxRecDepth 4000 in
theorem xX12_strangers_19 {l : Launch} {G : Gt} {d : Nat} {M M' : Mem} {r : Option Vl} {x1 : Int} {x2 : Int} {x3 : Int} (hS : Sh M.2.1) (h : 
    ((M.1 48 0 0) ≤ x3 → r = some (vI x2) ∧ M' = M) ∧ (¬ ((M.1 48 0 0) ≤ x3) → Ex l G (d + 2) mX12_strangers 32 [some (vR (some (3, 0))), some (vI x1), some (vI x2), some (vI x3), some (vI 0)] [] M r M')) : Ex l G (d + 2) mX12_strangers 19 [some (vR (some (3, 0))), some (vI x1), some (vI x2), some (vI x3), none] [] M r M' := by
  refine r_iload_n 20 dX12_strangers_19 rfl rfl ?_
  refine r_aload_n 21 dX12_strangers_20 rfl rfl ?_
  refine g_R 24 dX12_strangers_21 rfl rfl rfl fr_12_7 (sh_12_1 hS) ?_
  refine r_iconst 25 dX12_strangers_24 rfl (InR_of rfl) ?_
  refine a_I 6 26 dX12_strangers_25 rfl rfl rfl rfl ⟨by decide, by decide⟩ rfl ?_
  refine r_icmp_ge 29 84 dX12_strangers_26 rfl rfl (fun c => ?_) (fun c => ?_)
  · have h := h.1 (c)
    refine r_iload_n 85 dX12_strangers_84 rfl rfl ?_
    exact r_iret dX12_strangers_85 rfl (.inl rfl) h.1 h.2
  · have h := h.2 (c)
    refine r_iconst 30 dX12_strangers_29 rfl (InR_of rfl) ?_
    refine r_istore (ls' := [some (vR (some (3, 0))), some (vI x1), some (vI x2), some (vI x3), some (vI 0)]) 32 dX12_strangers_30 rfl rfl rfl rfl ?_
    exact h
set_option maxRecDepth 4000 in
theorem xX12_strangers_32 {l : Launch} {G : Gt} {d : Nat} {M M' : Mem} {r : Option Vl} {x1 : Int} {x2 : Int} {x3 : Int} {x4 : Int} (h : 
    (x3 ≤ x4 → (InR (x3 + 1)) ∧ Ex l G (d + 2) mX12_strangers 19 [some (vR (some (3, 0))), some (vI x1), some (vI x2), some (vI (x3 + 1)), none] [] M r M') ∧ (¬ (x3 ≤ x4) → ∃ (r_4 : Int) (M_2 : Mem), Cl l G (d + 1) mX12_seenBy [vR (some (3, 0)), vI x3] M (some (vI r_4)) M_2 ∧ (((0 ≤ r_4 ∧ 0 ≤ x4 ∧ x4 < 32)) ∧ ((tb r_4 x4 = true → (InR (x2 + 0) ∧ InR (x4 + 1)) ∧ Ex l G (d + 2) mX12_strangers 32 [some (vR (some (3, 0))), some (vI x1), some (vI (x2 + 0)), some (vI x3), some (vI (x4 + 1))] [] M_2 r M') ∧ (¬ (tb r_4 x4 = true) → ∃ (r_10 : Int) (M_8 : Mem), Cl l G (d + 1) mX12_seenBy [vR (some (3, 0)), vI x4] M_2 (some (vI r_10)) M_8 ∧ ((0 ≤ r_10 ∧ 0 ≤ x3 ∧ x3 < 32)) ∧ (InR (x2 + (if tb r_10 x3 = true then 0 else 1 : Int)) ∧ InR (x4 + 1)) ∧ Ex l G (d + 2) mX12_strangers 32 [some (vR (some (3, 0))), some (vI x1), some (vI (x2 + (if tb r_10 x3 = true then 0 else 1 : Int))), some (vI x3), some (vI (x4 + 1))] [] M_8 r M'))))) : Ex l G (d + 2) mX12_strangers 32 [some (vR (some (3, 0))), some (vI x1), some (vI x2), some (vI x3), some (vI x4)] [] M r M' := by
  refine r_iload 34 dX12_strangers_32 rfl rfl ?_
  refine r_iload_n 35 dX12_strangers_34 rfl rfl ?_
  refine r_icmp_ge 38 78 dX12_strangers_35 rfl rfl (fun c => ?_) (fun c => ?_)
  · have h := h.1 (c)
    obtain ⟨o_1, h⟩ := h
    refine r_iinc (ls' := [some (vR (some (3, 0))), some (vI x1), some (vI x2), some (vI (x3 + 1)), some (vI x4)]) 81 dX12_strangers_78 rfl rfl rfl rfl o_1 rfl ?_
    refine r_goto 19 dX12_strangers_81 rfl ?_
    exact Ex.weak h ⟨rfl, rfl, rfl, rfl, trivial⟩
  · have h := h.2 (c)
    refine r_iload_n 39 dX12_strangers_38 rfl rfl ?_
    refine r_aload_n 40 dX12_strangers_39 rfl rfl ?_
    refine r_iload_n 41 dX12_strangers_40 rfl rfl ?_
    obtain ⟨r_4, M_2, hc_3, h⟩ := h
    refine v_1 (ci := 12) (C := (RX12, TX12, 68)) [vI x3] [vI x2] 44 dX12_strangers_41 rfl rfl rfl rfl rfl mo_X12_seenBy ml_12_201 rfl rfl hc_3 ?_
    obtain ⟨o_5, h⟩ := h
    refine r_iload 46 dX12_strangers_44 rfl rfl ?_
    refine c_1 [vI r_4, vI x4] [vI x2] 49 dX12_strangers_46 rfl rfl mo_X12_has ml_12_148 rfl rfl (KX12_has o_5) ?_
    refine r_if_ne 52 65 dX12_strangers_49 rfl rfl (fun c => ?_) (fun c => ?_)
    · have h := h.1 (b2_1.mp c)
      obtain ⟨⟨o_6, o_7⟩, h⟩ := h
      refine r_iconst 66 dX12_strangers_65 rfl (InR_of rfl) ?_
      refine r_goto 70 dX12_strangers_66 rfl ?_
      refine r_iadd 71 dX12_strangers_70 rfl o_6 ?_
      refine r_istore_n (ls' := [some (vR (some (3, 0))), some (vI x1), some (vI (x2 + 0)), some (vI x3), some (vI x4)]) 72 dX12_strangers_71 rfl rfl rfl rfl ?_
      refine r_iinc (ls' := [some (vR (some (3, 0))), some (vI x1), some (vI (x2 + 0)), some (vI x3), some (vI (x4 + 1))]) 75 dX12_strangers_72 rfl rfl rfl rfl o_7 rfl ?_
      refine r_goto 32 dX12_strangers_75 rfl ?_
      exact h
    · have h := h.2 (b2_0.mp (Decidable.not_not.mp c))
      refine r_aload_n 53 dX12_strangers_52 rfl rfl ?_
      refine r_iload 55 dX12_strangers_53 rfl rfl ?_
      obtain ⟨r_10, M_8, hc_9, h⟩ := h
      refine v_1 (ci := 12) (C := (RX12, TX12, 68)) [vI x4] [vI x2] 58 dX12_strangers_55 rfl rfl rfl rfl rfl mo_X12_seenBy ml_12_201 rfl rfl hc_9 ?_
      obtain ⟨o_11, h⟩ := h
      refine r_iload_n 59 dX12_strangers_58 rfl rfl ?_
      refine c_1 [vI r_10, vI x3] [vI x2] 62 dX12_strangers_59 rfl rfl mo_X12_has ml_12_148 rfl rfl (KX12_has o_11) ?_
      have hJ_12 : Ex l G (d + 2) mX12_strangers 70 [some (vR (some (3, 0))), some (vI x1), some (vI x2), some (vI x3), some (vI x4)] [vI (if tb r_10 x3 = true then 0 else 1 : Int), vI x2] M_8 r M' := by
        obtain ⟨⟨o_14, o_15⟩, h⟩ := h
        refine r_iadd 71 dX12_strangers_70 rfl o_14 ?_
        refine r_istore_n (ls' := [some (vR (some (3, 0))), some (vI x1), some (vI (x2 + (if tb r_10 x3 = true then 0 else 1 : Int))), some (vI x3), some (vI x4)]) 72 dX12_strangers_71 rfl rfl rfl rfl ?_
        refine r_iinc (ls' := [some (vR (some (3, 0))), some (vI x1), some (vI (x2 + (if tb r_10 x3 = true then 0 else 1 : Int))), some (vI x3), some (vI (x4 + 1))]) 75 dX12_strangers_72 rfl rfl rfl rfl o_15 rfl ?_
        refine r_goto 32 dX12_strangers_75 rfl ?_
        exact h
      refine r_if_eq 65 69 dX12_strangers_62 rfl rfl (fun c => ?_) (fun c => ?_)
      · have c_13 := b2_0.mp c
        refine r_iconst 70 dX12_strangers_69 rfl (InR_of rfl) ?_
        exact (Ex.at hJ_12 rfl (show [vI 1, vI x2] = [vI (if tb r_10 x3 = true then 0 else 1 : Int), vI x2] by simp only [if_neg c_13]) rfl)
      · have c_13 := b2_1.mp c
        refine r_iconst 66 dX12_strangers_65 rfl (InR_of rfl) ?_
        refine r_goto 70 dX12_strangers_66 rfl ?_
        exact (Ex.at hJ_12 rfl (show [vI 0, vI x2] = [vI (if tb r_10 x3 = true then 0 else 1 : Int), vI x2] by simp only [if_pos c_13]) rfl)

set_option maxRecDepth 4000 in
theorem xX11_strangers_0 {l : Launch} {G : Gt} {d : Nat} {M M' : Mem} {r : Option Vl} {x1 : Int} (hS : Sh M.2.1) (h : 
    (0 ≤ x1 ∧ x1 ≤ 999 → ∃ (k_3 : Nat) (M_1 : Mem), Cl l G d mX6_on [vR (some (6, 0)), vI x1] M (some (vR (some (14, k_3)))) M_1 ∧ Ex l G (d + 1) mX11_strangers 23 [some (vR (some (2, 0))), some (vI x1), some (vR (some (14, k_3))), some (vI 0), some (vI 0), none, none] [] M_1 r M') ∧ (¬ (0 ≤ x1 ∧ x1 ≤ 999) → r = some (vI (-1)) ∧ M' = M)) : Cl l G (d + 1) mX11_strangers [vR (some (2, 0)), vI x1] M r M' := by
  show Ex l G (d + 1) mX11_strangers 0 [some (vR (some (2, 0))), some (vI x1), none, none, none, none, none] [] M r M'
  refine r_iload_n 1 dX11_strangers_0 rfl rfl ?_
  refine c_1 [vI x1] [] 4 dX11_strangers_1 rfl rfl mo_X11_isDay ml_11_124 rfl rfl (KX11_isDay) ?_
  refine r_if_ne 7 9 dX11_strangers_4 rfl rfl (fun c => ?_) (fun c => ?_)
  · have h := h.1 (b2_1.mp c)
    refine r_aload_n 10 dX11_strangers_9 rfl rfl ?_
    refine g_R 13 dX11_strangers_10 rfl rfl rfl fr_11_21 (sh_11_1 hS) ?_
    refine r_iload_n 14 dX11_strangers_13 rfl rfl ?_
    obtain ⟨k_3, M_1, hc_2, h⟩ := h
    refine v_1 (ci := 6) (C := (RX6, TX6, 3)) [vI x1] [] 17 dX11_strangers_14 rfl rfl rfl rfl rfl mo_X6_on ml_11_164 rfl rfl hc_2 ?_
    refine r_astore_n (ls' := [some (vR (some (2, 0))), some (vI x1), some (vR (some (14, k_3))), none, none, none, none]) 18 dX11_strangers_17 rfl rfl rfl rfl ?_
    refine r_iconst 19 dX11_strangers_18 rfl (InR_of rfl) ?_
    refine r_istore_n (ls' := [some (vR (some (2, 0))), some (vI x1), some (vR (some (14, k_3))), some (vI 0), none, none, none]) 20 dX11_strangers_19 rfl rfl rfl rfl ?_
    refine r_iconst 21 dX11_strangers_20 rfl (InR_of rfl) ?_
    refine r_istore (ls' := [some (vR (some (2, 0))), some (vI x1), some (vR (some (14, k_3))), some (vI 0), some (vI 0), none, none]) 23 dX11_strangers_21 rfl rfl rfl rfl ?_
    exact h
  · have h := h.2 (b2_0.mp (Decidable.not_not.mp c))
    refine r_iconst 8 dX11_strangers_7 rfl (InR_of rfl) ?_
    exact r_iret dX11_strangers_8 rfl (.inl rfl) h.1 h.2
set_option maxRecDepth 4000 in
theorem xX11_strangers_23 {l : Launch} {G : Gt} {d : Nat} {M M' : Mem} {r : Option Vl} {x1 : Int} {k2 : Nat} {x3 : Int} {x4 : Int} (hS : Sh M.2.1) (h : 
    ((M.1 4 0 0) ≤ x4 → r = some (vI x3) ∧ M' = M) ∧ (¬ ((M.1 4 0 0) ≤ x4) → Ex l G (d + 1) mX11_strangers 38 [some (vR (some (2, 0))), some (vI x1), some (vR (some (14, k2))), some (vI x3), some (vI x4), some (vI 0), none] [] M r M')) : Ex l G (d + 1) mX11_strangers 23 [some (vR (some (2, 0))), some (vI x1), some (vR (some (14, k2))), some (vI x3), some (vI x4), none, none] [] M r M' := by
  refine r_iload 25 dX11_strangers_23 rfl rfl ?_
  refine r_aload_n 26 dX11_strangers_25 rfl rfl ?_
  refine g_R 29 dX11_strangers_26 rfl rfl rfl fr_11_12 (sh_11_0 hS) ?_
  refine g_I 32 dX11_strangers_29 rfl rfl rfl fi_11_111 rfl ?_
  refine r_icmp_ge 35 107 dX11_strangers_32 rfl rfl (fun c => ?_) (fun c => ?_)
  · have h := h.1 (c)
    refine r_iload_n 108 dX11_strangers_107 rfl rfl ?_
    exact r_iret dX11_strangers_108 rfl (.inl rfl) h.1 h.2
  · have h := h.2 (c)
    refine r_iconst 36 dX11_strangers_35 rfl (InR_of rfl) ?_
    refine r_istore (ls' := [some (vR (some (2, 0))), some (vI x1), some (vR (some (14, k2))), some (vI x3), some (vI x4), some (vI 0), none]) 38 dX11_strangers_36 rfl rfl rfl rfl ?_
    exact h
set_option maxRecDepth 4000 in
theorem xX11_strangers_38 {l : Launch} {G : Gt} {d : Nat} {M M' : Mem} {r : Option Vl} {x1 : Int} {k2 : Nat} {x3 : Int} {x4 : Int} {x5 : Int} (h : 
    (x4 ≤ x5 → (InR (x4 + 1)) ∧ Ex l G (d + 1) mX11_strangers 23 [some (vR (some (2, 0))), some (vI x1), some (vR (some (14, k2))), some (vI x3), some (vI (x4 + 1)), none, none] [] M r M') ∧ (¬ (x4 ≤ x5) → ∃ (r_4 : Int) (M_2 : Mem), Cl l G d mX11_seenBy [vR (some (2, 0)), vI x4, vR (some (14, k2))] M (some (vI r_4)) M_2 ∧ (((0 ≤ r_4 ∧ 0 ≤ x5 ∧ x5 < 32)) ∧ ((tb r_4 x5 = true → (InR (x3 + 0) ∧ InR (x5 + 1)) ∧ Ex l G (d + 1) mX11_strangers 38 [some (vR (some (2, 0))), some (vI x1), some (vR (some (14, k2))), some (vI (x3 + 0)), some (vI x4), some (vI (x5 + 1)), none] [] M_2 r M') ∧ (¬ (tb r_4 x5 = true) → ∃ (r_10 : Int) (M_8 : Mem), Cl l G d mX11_seenBy [vR (some (2, 0)), vI x5, vR (some (14, k2))] M_2 (some (vI r_10)) M_8 ∧ ((0 ≤ r_10 ∧ 0 ≤ x4 ∧ x4 < 32)) ∧ (InR (x3 + (if tb r_10 x4 = true then 0 else 1 : Int)) ∧ InR (x5 + 1)) ∧ Ex l G (d + 1) mX11_strangers 38 [some (vR (some (2, 0))), some (vI x1), some (vR (some (14, k2))), some (vI (x3 + (if tb r_10 x4 = true then 0 else 1 : Int))), some (vI x4), some (vI (x5 + 1)), none] [] M_8 r M'))))) : Ex l G (d + 1) mX11_strangers 38 [some (vR (some (2, 0))), some (vI x1), some (vR (some (14, k2))), some (vI x3), some (vI x4), some (vI x5), none] [] M r M' := by
  refine r_iload 40 dX11_strangers_38 rfl rfl ?_
  refine r_iload 42 dX11_strangers_40 rfl rfl ?_
  refine r_icmp_ge 45 101 dX11_strangers_42 rfl rfl (fun c => ?_) (fun c => ?_)
  · have h := h.1 (c)
    obtain ⟨o_1, h⟩ := h
    refine r_iinc (ls' := [some (vR (some (2, 0))), some (vI x1), some (vR (some (14, k2))), some (vI x3), some (vI (x4 + 1)), some (vI x5), none]) 104 dX11_strangers_101 rfl rfl rfl rfl o_1 rfl ?_
    refine r_goto 23 dX11_strangers_104 rfl ?_
    exact Ex.weak h ⟨rfl, rfl, rfl, rfl, rfl, trivial⟩
  · have h := h.2 (c)
    refine r_aload_n 46 dX11_strangers_45 rfl rfl ?_
    refine r_iload 48 dX11_strangers_46 rfl rfl ?_
    refine r_aload_n 49 dX11_strangers_48 rfl rfl ?_
    obtain ⟨r_4, M_2, hc_3, h⟩ := h
    refine v_1 (ci := 11) (C := (RX11, TX11, 16)) [vI x4, vR (some (14, k2))] [] 52 dX11_strangers_49 rfl rfl rfl rfl rfl mo_X11_seenBy ml_11_180 rfl rfl hc_3 ?_
    obtain ⟨o_5, h⟩ := h
    refine r_iload 54 dX11_strangers_52 rfl rfl ?_
    refine c_1 [vI r_4, vI x5] [] 57 dX11_strangers_54 rfl rfl mo_X11_hasBit ml_11_141 rfl rfl (KX11_hasBit o_5) ?_
    refine r_if_ne 60 75 dX11_strangers_57 rfl rfl (fun c => ?_) (fun c => ?_)
    · have h := h.1 (b2_1.mp c)
      obtain ⟨⟨o_6, o_7⟩, h⟩ := h
      refine r_iconst 76 dX11_strangers_75 rfl (InR_of rfl) ?_
      refine r_goto 80 dX11_strangers_76 rfl ?_
      refine r_istore (ls' := [some (vR (some (2, 0))), some (vI x1), some (vR (some (14, k2))), some (vI x3), some (vI x4), some (vI x5), some (vI 1)]) 82 dX11_strangers_80 rfl rfl rfl rfl ?_
      refine r_iload_n 83 dX11_strangers_82 rfl rfl ?_
      refine r_iload 85 dX11_strangers_83 rfl rfl ?_
      refine r_if_eq 88 92 dX11_strangers_85 rfl rfl (fun c => absurd c (by decide)) (fun _ => ?_)
      refine r_iconst 89 dX11_strangers_88 rfl (InR_of rfl) ?_
      refine r_goto 93 dX11_strangers_89 rfl ?_
      refine r_iadd 94 dX11_strangers_93 rfl o_6 ?_
      refine r_istore_n (ls' := [some (vR (some (2, 0))), some (vI x1), some (vR (some (14, k2))), some (vI (x3 + 0)), some (vI x4), some (vI x5), some (vI 1)]) 95 dX11_strangers_94 rfl rfl rfl rfl ?_
      refine r_iinc (ls' := [some (vR (some (2, 0))), some (vI x1), some (vR (some (14, k2))), some (vI (x3 + 0)), some (vI x4), some (vI (x5 + 1)), some (vI 1)]) 98 dX11_strangers_95 rfl rfl rfl rfl o_7 rfl ?_
      refine r_goto 38 dX11_strangers_98 rfl ?_
      exact Ex.weak h ⟨rfl, rfl, rfl, rfl, rfl, rfl, trivial⟩
    · have h := h.2 (b2_0.mp (Decidable.not_not.mp c))
      refine r_aload_n 61 dX11_strangers_60 rfl rfl ?_
      refine r_iload 63 dX11_strangers_61 rfl rfl ?_
      refine r_aload_n 64 dX11_strangers_63 rfl rfl ?_
      obtain ⟨r_10, M_8, hc_9, h⟩ := h
      refine v_1 (ci := 11) (C := (RX11, TX11, 16)) [vI x5, vR (some (14, k2))] [] 67 dX11_strangers_64 rfl rfl rfl rfl rfl mo_X11_seenBy ml_11_180 rfl rfl hc_9 ?_
      obtain ⟨o_11, h⟩ := h
      refine r_iload 69 dX11_strangers_67 rfl rfl ?_
      refine c_1 [vI r_10, vI x4] [] 72 dX11_strangers_69 rfl rfl mo_X11_hasBit ml_11_141 rfl rfl (KX11_hasBit o_11) ?_
      have hJ_12 : Ex l G (d + 1) mX11_strangers 80 [some (vR (some (2, 0))), some (vI x1), some (vR (some (14, k2))), some (vI x3), some (vI x4), some (vI x5), none] [vI (if tb r_10 x4 = true then 1 else 0 : Int)] M_8 r M' := by
        refine r_istore (ls' := [some (vR (some (2, 0))), some (vI x1), some (vR (some (14, k2))), some (vI x3), some (vI x4), some (vI x5), some (vI (if tb r_10 x4 = true then 1 else 0 : Int))]) 82 dX11_strangers_80 rfl rfl rfl rfl ?_
        refine r_iload_n 83 dX11_strangers_82 rfl rfl ?_
        refine r_iload 85 dX11_strangers_83 rfl rfl ?_
        have hJ_14 : Ex l G (d + 1) mX11_strangers 93 [some (vR (some (2, 0))), some (vI x1), some (vR (some (14, k2))), some (vI x3), some (vI x4), some (vI x5), some (vI (if tb r_10 x4 = true then 1 else 0 : Int))] [vI (if tb r_10 x4 = true then 0 else 1 : Int), vI x3] M_8 r M' := by
          obtain ⟨⟨o_16, o_17⟩, h⟩ := h
          refine r_iadd 94 dX11_strangers_93 rfl o_16 ?_
          refine r_istore_n (ls' := [some (vR (some (2, 0))), some (vI x1), some (vR (some (14, k2))), some (vI (x3 + (if tb r_10 x4 = true then 0 else 1 : Int))), some (vI x4), some (vI x5), some (vI (if tb r_10 x4 = true then 1 else 0 : Int))]) 95 dX11_strangers_94 rfl rfl rfl rfl ?_
          refine r_iinc (ls' := [some (vR (some (2, 0))), some (vI x1), some (vR (some (14, k2))), some (vI (x3 + (if tb r_10 x4 = true then 0 else 1 : Int))), some (vI x4), some (vI (x5 + 1)), some (vI (if tb r_10 x4 = true then 1 else 0 : Int))]) 98 dX11_strangers_95 rfl rfl rfl rfl o_17 rfl ?_
          refine r_goto 38 dX11_strangers_98 rfl ?_
          exact Ex.weak h ⟨rfl, rfl, rfl, rfl, rfl, rfl, trivial⟩
        refine r_if_eq 88 92 dX11_strangers_85 rfl rfl (fun c => ?_) (fun c => ?_)
        · have c_15 := b2_0.mp c
          refine r_iconst 93 dX11_strangers_92 rfl (InR_of rfl) ?_
          exact (Ex.at hJ_14 rfl (show [vI 1, vI x3] = [vI (if tb r_10 x4 = true then 0 else 1 : Int), vI x3] by simp only [if_neg c_15]) rfl)
        · have c_15 := b2_1.mp c
          refine r_iconst 89 dX11_strangers_88 rfl (InR_of rfl) ?_
          refine r_goto 93 dX11_strangers_89 rfl ?_
          exact (Ex.at hJ_14 rfl (show [vI 0, vI x3] = [vI (if tb r_10 x4 = true then 0 else 1 : Int), vI x3] by simp only [if_pos c_15]) rfl)
      refine r_if_eq 75 79 dX11_strangers_72 rfl rfl (fun c => ?_) (fun c => ?_)
      · have c_13 := b2_0.mp c
        refine r_iconst 80 dX11_strangers_79 rfl (InR_of rfl) ?_
        exact (Ex.at hJ_12 rfl (show [vI 0] = [vI (if tb r_10 x4 = true then 1 else 0 : Int)] by simp only [if_neg c_13]) rfl)
      · have c_13 := b2_1.mp c
        refine r_iconst 76 dX11_strangers_75 rfl (InR_of rfl) ?_
        refine r_goto 80 dX11_strangers_76 rfl ?_
        exact (Ex.at hJ_12 rfl (show [vI 1] = [vI (if tb r_10 x4 = true then 1 else 0 : Int)] by simp only [if_pos c_13]) rfl)

def kbS (Q : QT) (w : Nat → Bool) : Nat → Nat → Bool
  | 0 => w
  | k + 1 => fun i => kbS Q w k i || (w k && tb (Q 50 k) (i : Int))
def chS (Q : QT) (w : Nat → Bool) : Nat → Nat → Bool
  | 0 => w
  | n + 1 => kbS Q (chS Q w n) (nPp Q)
def chn (Q : QT) (w : Nat → Bool) (o : Nat) : Nat → Nat → Int
  | 0, _ => -2
  | f + 1, n => if chS Q w n o = true then (n : Int) else chn Q w o f (n + 1)
def one1 (a : Nat) : Nat → Bool := fun i => decide (i = a)
def chainV (Q : QT) (a b : Int) : Int := if (0 ≤ a ∧ a < nPp Q) ∧ (0 ≤ b ∧ b < nPp Q) then chn Q (one1 a.toNat) b.toNat 12 0 else -1
def circleV (Q : QT) (a : Int) : Int := if 0 ≤ a ∧ a < nPp Q then bI 12 (chS Q (one1 a.toNat) 12) else -1
theorem kbS_le (Q : QT) (w : Nat → Bool) : ∀ k i, w i = true → kbS Q w k i = true := by
  intro k
  induction k with
  | zero => intro i h; exact h
  | succ k ih => intro i h; unfold kbS; rw [ih i h]; rfl
theorem kbS_ext {Q : QT} {w w' : Nat → Bool} (h : ∀ i, i < 12 → w i = w' i) : ∀ k, k ≤ 12 → ∀ i, i < 12 → kbS Q w k i = kbS Q w' k i := by
  intro k
  induction k with
  | zero => intro _ i hi; exact h i hi
  | succ k ih => intro hk i hi; unfold kbS; rw [ih (by omega) i hi, h k (by omega)]
/-- after eleven steps nobody more is come to -/
theorem chS_end {Q : QT} (h12 : nPp Q ≤ 12) {w : Nat → Bool} (hw : ∃ a, a < 12 ∧ w a = true) {o : Nat} (ho : o < 12) (h : chS Q w 12 o = true) : chS Q w 11 o = true := by
  have mono : ∀ n i, chS Q w n i = true → chS Q w (n + 1) i = true := fun n i e => kbS_le Q _ _ i e
  have stab : ∀ n, (∀ i, i < 12 → chS Q w (n + 1) i = chS Q w n i) → ∀ m, ∀ i, i < 12 → chS Q w (n + 1 + m) i = chS Q w (n + m) i := by
    intro n hs m
    induction m with
    | zero => exact hs
    | succ m ih => intro i hi; exact kbS_ext ih (nPp Q) h12 i hi
  cases e : chS Q w 11 o with
  | true => rfl
  | false =>
    exfalso
    have grow : ∀ n, n ≤ 11 → ∃ j, j < 12 ∧ chS Q w (n + 1) j = true ∧ chS Q w n j = false := by
      intro n hn
      rcases least_or (fun i => chS Q w (n + 1) i && !chS Q w n i) 12 with h0 | ⟨j, j1, j2, _⟩
      · have hs : ∀ i, i < 12 → chS Q w (n + 1) i = chS Q w n i := fun i hi => by
          have := h0 i hi
          cases e1 : chS Q w (n + 1) i with
          | true => rw [e1] at this; cases e2 : chS Q w n i with
            | true => rfl
            | false => rw [e2] at this; cases this
          | false => cases e2 : chS Q w n i with
            | false => rfl
            | true => rw [mono n i e2] at e1; cases e1
        have := stab n hs (11 - n) o ho
        rw [show n + 1 + (11 - n) = 12 by omega, show n + (11 - n) = 11 by omega, h, e] at this
        cases this
      · rw [Bool.and_eq_true, Bool.not_eq_true'] at j2
        exact ⟨j, j1, j2⟩
    have cn : ∀ n, n ≤ 12 → n + 1 ≤ cnt (chS Q w n) 12 := by
      intro n
      induction n with
      | zero =>
        intro _
        obtain ⟨a, a1, a2⟩ := hw
        have := cnt_lt (p := fun _ => false) (q := w) (n := 12) (fun i _ e => by cases e) a1 a2 rfl
        rw [cnt_none (fun i _ => rfl)] at this
        exact this
      | succ n ih =>
        intro hn
        obtain ⟨j, j1, j2, j3⟩ := grow n (by omega)
        have := cnt_lt (p := chS Q w n) (q := chS Q w (n + 1)) (n := 12) (fun i _ e => mono n i e) j1 j2 j3
        have := ih (by omega)
        omega
    have := cn 12 (by omega)
    have := cnt_le (chS Q w 12) 12
    omega
theorem chn_more {Q : QT} {w : Nat → Bool} {o : Nat} : ∀ k n, (chS Q w (n + k) o = true → ∃ j, j < k ∧ chS Q w (n + j) o = true) → chn Q w o (k + 1) n = chn Q w o k n := by
  intro k
  induction k with
  | zero =>
    intro n h
    unfold chn
    by_cases c : chS Q w n o = true
    · obtain ⟨j, hj, _⟩ := h c; omega
    · rw [if_neg c]; rfl
  | succ k ih =>
    intro n h
    rw [show chn Q w o (k + 1 + 1) n = if chS Q w n o = true then (n : Int) else chn Q w o (k + 1) (n + 1) from rfl, show chn Q w o (k + 1) n = if chS Q w n o = true then (n : Int) else chn Q w o k (n + 1) from rfl]
    by_cases c : chS Q w n o = true
    · rw [if_pos c, if_pos c]
    · rw [if_neg c, if_neg c]
      refine ih (n + 1) fun e => ?_
      rw [show n + 1 + k = n + (k + 1) by omega] at e
      obtain ⟨j, j1, j2⟩ := h e
      by_cases j0 : j = 0
      · subst j0; exact absurd j2 c
      · exact ⟨j - 1, by omega, by rw [show n + 1 + (j - 1) = n + j by omega]; exact j2⟩
section CN
variable {l : Launch} {G : Gt} {d : Nat} {Q : QT} {M : Mem}
theorem kb_step {w : Nat → Bool} {k : Nat} (hk : WFk Q) (h : k < 12) : aOr (bI 12 (kbS Q w k)) (if tb (bI 12 w) (k : Int) = true then Q 50 k else 0) = bI 12 (kbS Q w (k + 1)) := by
  rw [tb_bI (by omega)]
  cases e : w k with
  | true =>
    rw [if_pos (by simp [h]), hk k h, bI_or (by omega)]
    refine bI_ext fun i hi => ?_
    show _ = (kbS Q w k i || (w k && tb (Q 50 k) (i : Int)))
    rw [e]; rfl
  | false =>
    rw [if_neg (by simp), bI_zor (by omega)]
    refine bI_ext fun i hi => ?_
    show _ = (kbS Q w k i || (w k && tb (Q 50 k) (i : Int)))
    rw [e]; simp
theorem KX12_knownBy {w : Nat → Bool} (hS : Sh M.2.1) (hq : WFQ Q) (hH : HoldsM Q M.1) : Cl l G (d + 1) mX12_knownBy [vR (some (3, 0)), vI (bI 12 w)] M (some (vI (bI 12 (kbS Q w (nPp Q))))) M := by
  have h12 := nPp_le hq.1
  have e1 := mppl_eq hq.1 hH
  have hnn : 0 ≤ bI 12 w := bI_nn
  refine xX12_knownBy_0 ?_
  refine loopUp (P := fun k : Nat => Ex l G (d + 1) mX12_knownBy 4 [some (vR (some (3, 0))), some (vI (bI 12 w)), some (vI (bI 12 (kbS Q w k))), some (vI (k : Int))] [] M (some (vI (bI 12 (kbS Q w (nPp Q))))) M) 0 (nPp Q) (by omega) ?_ ?_
  · intro k _ hk ih
    refine xX12_knownBy_4 hS ⟨fun c => by omega, fun _ => ⟨by omega, fun _ => by omega, by unfold InR; omega, ?_⟩⟩
    rw [Int.toNat_natCast, hH.2.1 50 k (by omega), kb_step hq.2.2.1 (by omega)]
    exact ih
  · exact xX12_knownBy_4 hS ⟨fun _ => ⟨rfl, rfl⟩, fun c => absurd (by omega) c⟩
theorem KX11_withKnown {w : Nat → Bool} (hR : RelB Q M) (hq : WFQ Q) : Cl l G (d + 1) mX11_withKnown [vR (some (2, 0)), vI (bI 12 w)] M (some (vI (bI 12 (kbS Q w (nPp Q))))) M := by
  have h12 := nPp_le hq.1
  have e1 := cppl_eq hq.1 hR.1
  have hnn : 0 ≤ bI 12 w := bI_nn
  refine xX11_withKnown_0 ?_
  refine loopUp (P := fun k : Nat => Ex l G (d + 1) mX11_withKnown 4 [some (vR (some (2, 0))), some (vI (bI 12 w)), some (vI (bI 12 (kbS Q w k))), some (vI (k : Int))] [] M (some (vI (bI 12 (kbS Q w (nPp Q))))) M) 0 (nPp Q) (by omega) ?_ ?_
  · intro k _ hk ih
    refine xX11_withKnown_4 hR.1.1 ⟨fun c => by omega, fun _ => ⟨by omega, fun _ => by omega, by unfold InR; omega, ?_⟩⟩
    have e := kb_step (w := w) (k := k) hq.2.2.1 (by omega)
    rw [Int.toNat_natCast, hR.1.2.2.2.2.2 k (by omega)]
    by_cases c : tb (bI 12 w) (k : Int) = true
    · rw [if_pos c] at e ⊢
      rw [e]; exact ih
    · rw [if_neg c] at e ⊢
      rw [bI_zor (by omega)] at e
      rw [e]; exact ih
  · exact xX11_withKnown_4 hR.1.1 ⟨fun _ => ⟨rfl, rfl⟩, fun c => absurd (by omega) c⟩
theorem one_b {a : Int} (h : 0 ≤ a ∧ a < 12) : aShl 1 a = bI 12 (one1 a.toNat) := by
  have := bI_one (n := 12) (s := a.toNat) (by omega) (by omega)
  rwa [show ((a.toNat : Nat) : Int) = a by omega] at this
theorem KX12_chain {a b : Int} (hS : Sh M.2.1) (hq : WFQ Q) (hH : HoldsM Q M.1) : Cl l G (d + 2) mX12_chain [vR (some (3, 0)), vI a, vI b] M (some (vI (chainV Q a b))) M := by
  have h12 := nPp_le hq.1
  have e1 := mppl_eq hq.1 hH
  refine xX12_chain_0 hS ?_
  unfold chainV
  rw [e1]
  by_cases g : (0 ≤ a ∧ a < nPp Q) ∧ (0 ≤ b ∧ b < nPp Q)
  · rw [if_pos g]
    refine ⟨by unfold InR; omega, fun c => absurd g.1 c, fun _ => ⟨by unfold InR; omega, fun _ => ⟨by omega, ?_⟩, fun c => absurd g.2 c⟩⟩
    rw [one_b (by omega), ← chn_more 12 0 (fun e => ⟨11, by omega, chS_end h12 ⟨a.toNat, by omega, by unfold one1; simp⟩ (by omega) e⟩)]
    have key : ∀ f n : Nat, f + n = 13 → Ex l G (d + 2) mX12_chain 25 [some (vR (some (3, 0))), some (vI a), some (vI b), some (vI (bI 12 (chS Q (one1 a.toNat) n))), some (vI (n : Int))] [] M (some (vI (chn Q (one1 a.toNat) b.toNat f n))) M := by
      intro f
      induction f with
      | zero => intro n hn; exact xX12_chain_25 ⟨fun _ => ⟨rfl, rfl⟩, fun c => absurd (by omega) c⟩
      | succ f ih =>
        intro n hn
        have ht := tb_bI (n := 12) (by omega) (chS Q (one1 a.toNat) n) b.toNat
        rw [show ((b.toNat : Nat) : Int) = b by omega] at ht
        have hnn : 0 ≤ bI 12 (chS Q (one1 a.toNat) n) := bI_nn
        unfold chn
        refine xX12_chain_25 ⟨fun c => by omega, fun _ => ⟨by omega, fun c => ?_, fun c => ⟨?_, rfl⟩⟩⟩
        · rw [if_neg (fun e => c (by rw [ht, e]; simp; omega))]
          exact ⟨_, _, KX12_knownBy hS hq hH, by unfold InR; omega, ih (n + 1) (by omega)⟩
        · rw [ht] at c
          rw [if_pos (by simp at c; exact c.2)]
    exact key 13 0 rfl
  · rw [if_neg g]
    exact ⟨by unfold InR; omega, fun _ => ⟨rfl, rfl⟩, fun c => ⟨by unfold InR; omega, fun c2 => absurd ⟨c, c2⟩ g, fun _ => ⟨rfl, rfl⟩⟩⟩
theorem KX11_chain {a b : Int} (hR : RelB Q M) (hq : WFQ Q) : Cl l G (d + 2) mX11_chain [vR (some (2, 0)), vI a, vI b] M (some (vI (chainV Q a b))) M := by
  have h12 := nPp_le hq.1
  have e1 := cppl_eq hq.1 hR.1
  refine xX11_chain_0 hR.1.1 ?_
  unfold chainV
  rw [e1]
  by_cases g : (0 ≤ a ∧ a < nPp Q) ∧ (0 ≤ b ∧ b < nPp Q)
  · rw [if_pos g]
    refine ⟨fun c => absurd g.1 c, fun _ => ⟨fun _ => ⟨by omega, ?_⟩, fun c => absurd g.2 c⟩⟩
    rw [one_b (by omega)]
    have key : ∀ f n : Nat, f + n = 12 → Ex l G (d + 2) mX11_chain 25 [some (vR (some (2, 0))), some (vI a), some (vI b), some (vI (bI 12 (chS Q (one1 a.toNat) n))), some (vI (n : Int))] [] M (some (vI (chn Q (one1 a.toNat) b.toNat f n))) M := by
      intro f
      induction f with
      | zero => intro n hn; exact xX11_chain_25 ⟨fun _ => ⟨rfl, rfl⟩, fun c => absurd (by omega) c⟩
      | succ f ih =>
        intro n hn
        have ht := tb_bI (n := 12) (by omega) (chS Q (one1 a.toNat) n) b.toNat
        rw [show ((b.toNat : Nat) : Int) = b by omega] at ht
        have hnn : 0 ≤ bI 12 (chS Q (one1 a.toNat) n) := bI_nn
        unfold chn
        refine xX11_chain_25 ⟨fun c => by omega, fun _ => ⟨by omega, fun c => ?_, fun c => ⟨?_, rfl⟩⟩⟩
        · rw [if_neg (fun e => c (by rw [ht, e]; simp; omega))]
          exact ⟨_, _, KX11_withKnown hR hq, by unfold InR; omega, ih (n + 1) (by omega)⟩
        · rw [ht] at c
          rw [if_pos (by simp at c; exact c.2)]
    exact key 12 0 rfl
  · rw [if_neg g]
    exact ⟨fun _ => ⟨rfl, rfl⟩, fun c => ⟨fun c2 => absurd ⟨c, c2⟩ g, fun _ => ⟨rfl, rfl⟩⟩⟩
theorem KX12_circle {a : Int} (hS : Sh M.2.1) (hq : WFQ Q) (hH : HoldsM Q M.1) : Cl l G (d + 2) mX12_circle [vR (some (3, 0)), vI a] M (some (vI (circleV Q a))) M := by
  have h12 := nPp_le hq.1
  have e1 := mppl_eq hq.1 hH
  refine xX12_circle_0 hS ?_
  unfold circleV
  rw [e1]
  by_cases g : 0 ≤ a ∧ a < nPp Q
  · rw [if_pos g]
    refine ⟨by unfold InR; omega, fun _ => ⟨by omega, ?_⟩, fun c => absurd g c⟩
    rw [one_b (by omega)]
    exact loopUp (P := fun n : Nat => Ex l G (d + 2) mX12_circle 16 [some (vR (some (3, 0))), some (vI a), some (vI (bI 12 (chS Q (one1 a.toNat) n))), some (vI (n : Int))] [] M (some (vI (bI 12 (chS Q (one1 a.toNat) 12)))) M) 0 12 (by omega) (fun n _ hn ih => xX12_circle_16 ⟨fun c => by omega, fun _ => ⟨_, _, KX12_knownBy hS hq hH, by unfold InR; omega, ih⟩⟩) (xX12_circle_16 ⟨fun _ => ⟨rfl, rfl⟩, fun c => absurd (by omega) c⟩)
  · rw [if_neg g]
    exact ⟨by unfold InR; omega, fun c => absurd c g, fun _ => ⟨rfl, rfl⟩⟩
theorem KX11_circle {a : Int} (hR : RelB Q M) (hq : WFQ Q) : Cl l G (d + 2) mX11_circle [vR (some (2, 0)), vI a] M (some (vI (circleV Q a))) M := by
  have h12 := nPp_le hq.1
  have e1 := cppl_eq hq.1 hR.1
  refine xX11_circle_0 hR.1.1 ?_
  unfold circleV
  rw [e1]
  by_cases g : 0 ≤ a ∧ a < nPp Q
  · rw [if_pos g]
    refine ⟨fun _ => ⟨by omega, ?_⟩, fun c => absurd g c⟩
    rw [one_b (by omega)]
    exact loopUp (P := fun n : Nat => Ex l G (d + 2) mX11_circle 16 [some (vR (some (2, 0))), some (vI a), some (vI (bI 12 (chS Q (one1 a.toNat) n))), some (vI (n : Int))] [] M (some (vI (bI 12 (chS Q (one1 a.toNat) 12)))) M) 0 12 (by omega) (fun n _ hn ih => xX11_circle_16 ⟨fun c => by omega, fun _ => ⟨_, _, KX11_withKnown hR hq, by unfold InR; omega, ih⟩⟩) (xX11_circle_16 ⟨fun _ => ⟨rfl, rfl⟩, fun c => absurd (by omega) c⟩)
  · rw [if_neg g]
    exact ⟨fun c => absurd c g, fun _ => ⟨rfl, rfl⟩⟩
/-! strangers -/
def strP (Q : QT) (n a b : Nat) : Prop := ¬ (snF Q n a b = true ∨ snF Q n b a = true)
def strO (Q : QT) (n : Nat) : Nat → Int
  | 0 => 0
  | a + 1 => strO Q n a + cntF (fun b => ¬ (snF Q n a b = true ∨ snF Q n b a = true)) a
def strV (Q : QT) (day : Int) : Int := if 0 ≤ day ∧ day ≤ 999 then strO Q (dn Q day) (nPp Q) else -1
theorem strO_in (Q : QT) (n : Nat) : ∀ a : Nat, a ≤ 12 → 0 ≤ strO Q n a ∧ strO Q n a ≤ 12 * a := by
  intro a
  induction a with
  | zero => intro _; exact ⟨Int.le_refl _, Int.le_refl _⟩
  | succ a ih =>
    intro h
    have h1 := ih (by omega)
    have h2 := cntF_in (fun b => ¬ (snF Q n a b = true ∨ snF Q n b a = true)) a
    unfold strO
    omega
theorem KX12_strangers {day : Int} (hS : Sh M.2.1) (hq : WFQ Q) (hH : HoldsM Q M.1) : ∃ I', Cl l G (d + 3) mX12_strangers [vR (some (3, 0)), vI day] M (some (vI (strV Q day))) (I', M.2.1, M.2.2) ∧ frM M.1 I' := by
  have h12 := nPp_le hq.1
  unfold strV
  by_cases g : 0 ≤ day ∧ day ≤ 999
  · rw [if_pos g]
    obtain ⟨I1, c1, s1, L1⟩ := KX12_lays (l := l) (G := G) (d := d) (row := 1) (x2 := day) hS hq.1 hH.1 (by omega)
    have H1 := hH.fr (frM.ll s1)
    have e1 : I1 48 0 0 = (nPp Q : Int) := mppl_eq (M := (I1, M.2.1, M.2.2)) hq.1 H1
    have sn : ∀ r : Nat, r < nPp Q → Cl l G (d + 2) mX12_seenBy [vR (some (3, 0)), vI (r : Int)] (I1, M.2.1, M.2.2) (some (vI (bI 12 (snF Q (dn Q day) r)))) (I1, M.2.1, M.2.2) := fun r hr => KX12_seenBy (l := l) (G := G) (d := d + 1) (M := (I1, M.2.1, M.2.2)) (r := (r : Int)) hS hq.1 hq.2.2.1 (dn_le Q day) H1.1 H1.2.1 L1 (by omega)
    refine ⟨I1, xX12_strangers_0 ⟨fun _ => ⟨_, c1, ?_⟩, fun c => absurd g c⟩, frM.ll s1⟩
    refine loopUp (P := fun a : Nat => Ex l G (d + 3) mX12_strangers 19 [some (vR (some (3, 0))), some (vI day), some (vI (strO Q (dn Q day) a)), some (vI (a : Int)), none] [] (I1, M.2.1, M.2.2) (some (vI (strO Q (dn Q day) (nPp Q)))) (I1, M.2.1, M.2.2)) 0 (nPp Q) (by omega) ?_ ?_
    · intro a _ ha ih
      refine xX12_strangers_19 hS ⟨fun c => by dsimp only at c; omega, fun _ => ?_⟩
      have h0 := strO_in Q (dn Q day) a (by omega)
      have key := loopUp (P := fun b : Nat => Ex l G (d + 3) mX12_strangers 32 [some (vR (some (3, 0))), some (vI day), some (vI (strO Q (dn Q day) a + cntF (fun b => ¬ (snF Q (dn Q day) a b = true ∨ snF Q (dn Q day) b a = true)) b)), some (vI (a : Int)), some (vI (b : Int))] [] (I1, M.2.1, M.2.2) (some (vI (strO Q (dn Q day) (nPp Q)))) (I1, M.2.1, M.2.2)) 0 a (by omega) (by
        intro b _ hb ih2
        have hc := cntF_in (fun b => ¬ (snF Q (dn Q day) a b = true ∨ snF Q (dn Q day) b a = true)) b
        have hs : cntF (fun b => ¬ (snF Q (dn Q day) a b = true ∨ snF Q (dn Q day) b a = true)) (b + 1) = cntF (fun b => ¬ (snF Q (dn Q day) a b = true ∨ snF Q (dn Q day) b a = true)) b + (if ¬ (snF Q (dn Q day) a b = true ∨ snF Q (dn Q day) b a = true) then 1 else 0) := rfl
        have ta := tb_bI (n := 12) (by omega) (snF Q (dn Q day) a) b
        have tb' := tb_bI (n := 12) (by omega) (snF Q (dn Q day) b) a
        have na : 0 ≤ bI 12 (snF Q (dn Q day) a) := bI_nn
        have nb : 0 ≤ bI 12 (snF Q (dn Q day) b) := bI_nn
        refine xX12_strangers_32 ⟨fun c => by omega, fun _ => ⟨_, _, sn a (by omega), by omega, fun c => ?_, fun c => ⟨_, _, sn b (by omega), by omega, ?_⟩⟩⟩
        · rw [ta] at c
          rw [if_neg (fun x => x (.inl (by simp at c; exact c.2)))] at hs
          rw [hs, ← Int.add_assoc] at ih2
          exact ⟨⟨by unfold InR; omega, by unfold InR; omega⟩, ih2⟩
        · rw [ta] at c
          rw [tb']
          cases e : snF Q (dn Q day) b a with
          | true =>
            rw [if_neg (fun x => x (.inr e))] at hs
            rw [if_pos (by simp; omega)]
            rw [hs, ← Int.add_assoc] at ih2
            exact ⟨⟨by unfold InR; omega, by unfold InR; omega⟩, ih2⟩
          | false =>
            rw [if_pos (by
              intro x
              rcases x with x | x
              · exact c (by rw [x]; simp; omega)
              · rw [e] at x; cases x)] at hs
            rw [if_neg (by simp)]
            rw [hs, ← Int.add_assoc] at ih2
            exact ⟨⟨by unfold InR; omega, by unfold InR; omega⟩, ih2⟩) (by
        exact xX12_strangers_32 ⟨fun _ => ⟨by unfold InR; omega, ih⟩, fun c => absurd (by omega) c⟩)
      rw [show strO Q (dn Q day) a + cntF (fun b => ¬ (snF Q (dn Q day) a b = true ∨ snF Q (dn Q day) b a = true)) 0 = strO Q (dn Q day) a from Int.add_zero _] at key
      exact key
    · exact xX12_strangers_19 hS ⟨fun _ => ⟨rfl, rfl⟩, fun c => absurd (by dsimp only; omega) c⟩
  · rw [if_neg g]
    exact ⟨M.1, xX12_strangers_0 ⟨fun c => absurd c g, fun _ => ⟨rfl, rfl⟩⟩, frM.rf⟩
theorem KX11_strangers {day : Int} (hR : RelB Q M) (hq : WFQ Q) : ∃ M', Cl l G (d + 3) mX11_strangers [vR (some (2, 0)), vI day] M (some (vI (strV Q day))) M' ∧ RelB Q M' ∧ frB M M' := by
  have h12 := nPp_le hq.1
  unfold strV
  by_cases g : 0 ≤ day ∧ day ≤ 999
  · rw [if_pos g]
    obtain ⟨M1, c1, R1, f1, p1, _⟩ := on_at (l := l) (G := G) (d := d) (x := day) hR.1 hq.1
    have e1 := cppl_eq hq.1 R1
    have sn : ∀ r : Nat, r < nPp Q → Cl l G (d + 2) mX11_seenBy [vR (some (2, 0)), vI (r : Int), vR (some (14, dn Q day))] M1 (some (vI (bI 12 (snF Q (dn Q day) r)))) M1 := fun r hr => KX11_seenBy (l := l) (G := G) (d := d + 1) (n := dn Q day) (k := dn Q day) (r := (r : Int)) R1.1 hq.1 hq.2.2.1 (dn_le Q day) R1.2.2.2.2.2 (R1.2.2.1.2.2.2.2.2 (dn Q day) p1) (by omega)
    refine ⟨M1, xX11_strangers_0 hR.1.1 ⟨fun _ => ⟨_, _, c1, ?_⟩, fun c => absurd g c⟩, hR.fr R1 f1.b, f1.b⟩
    refine loopUp (P := fun a : Nat => Ex l G (d + 3) mX11_strangers 23 [some (vR (some (2, 0))), some (vI day), some (vR (some (14, dn Q day))), some (vI (strO Q (dn Q day) a)), some (vI (a : Int)), none, none] [] M1 (some (vI (strO Q (dn Q day) (nPp Q)))) M1) 0 (nPp Q) (by omega) ?_ ?_
    · intro a _ ha ih
      refine xX11_strangers_23 R1.1 ⟨fun c => by omega, fun _ => ?_⟩
      have h0 := strO_in Q (dn Q day) a (by omega)
      have key := loopUp (P := fun b : Nat => Ex l G (d + 3) mX11_strangers 38 [some (vR (some (2, 0))), some (vI day), some (vR (some (14, dn Q day))), some (vI (strO Q (dn Q day) a + cntF (fun b => ¬ (snF Q (dn Q day) a b = true ∨ snF Q (dn Q day) b a = true)) b)), some (vI (a : Int)), some (vI (b : Int)), none] [] M1 (some (vI (strO Q (dn Q day) (nPp Q)))) M1) 0 a (by omega) (by
        intro b _ hb ih2
        have hc := cntF_in (fun b => ¬ (snF Q (dn Q day) a b = true ∨ snF Q (dn Q day) b a = true)) b
        have hs : cntF (fun b => ¬ (snF Q (dn Q day) a b = true ∨ snF Q (dn Q day) b a = true)) (b + 1) = cntF (fun b => ¬ (snF Q (dn Q day) a b = true ∨ snF Q (dn Q day) b a = true)) b + (if ¬ (snF Q (dn Q day) a b = true ∨ snF Q (dn Q day) b a = true) then 1 else 0) := rfl
        have ta := tb_bI (n := 12) (by omega) (snF Q (dn Q day) a) b
        have tb' := tb_bI (n := 12) (by omega) (snF Q (dn Q day) b) a
        have na : 0 ≤ bI 12 (snF Q (dn Q day) a) := bI_nn
        have nb : 0 ≤ bI 12 (snF Q (dn Q day) b) := bI_nn
        refine xX11_strangers_38 ⟨fun c => by omega, fun _ => ⟨_, _, sn a (by omega), by omega, fun c => ?_, fun c => ⟨_, _, sn b (by omega), by omega, ?_⟩⟩⟩
        · rw [ta] at c
          rw [if_neg (fun x => x (.inl (by simp at c; exact c.2)))] at hs
          rw [hs, ← Int.add_assoc] at ih2
          exact ⟨⟨by unfold InR; omega, by unfold InR; omega⟩, ih2⟩
        · rw [ta] at c
          rw [tb']
          cases e : snF Q (dn Q day) b a with
          | true =>
            rw [if_neg (fun x => x (.inr e))] at hs
            rw [if_pos (by simp; omega)]
            rw [hs, ← Int.add_assoc] at ih2
            exact ⟨⟨by unfold InR; omega, by unfold InR; omega⟩, ih2⟩
          | false =>
            rw [if_pos (by
              intro x
              rcases x with x | x
              · exact c (by rw [x]; simp; omega)
              · rw [e] at x; cases x)] at hs
            rw [if_neg (by simp)]
            rw [hs, ← Int.add_assoc] at ih2
            exact ⟨⟨by unfold InR; omega, by unfold InR; omega⟩, ih2⟩) (by
        exact xX11_strangers_38 ⟨fun _ => ⟨by unfold InR; omega, ih⟩, fun c => absurd (by omega) c⟩)
      rw [show strO Q (dn Q day) a + cntF (fun b => ¬ (snF Q (dn Q day) a b = true ∨ snF Q (dn Q day) b a = true)) 0 = strO Q (dn Q day) a from Int.add_zero _] at key
      exact key
    · exact xX11_strangers_23 R1.1 ⟨fun _ => ⟨rfl, rfl⟩, fun c => absurd (by omega) c⟩
  · rw [if_neg g]
    exact ⟨M, xX11_strangers_0 hR.1.1 ⟨fun c => absurd c g, fun _ => ⟨rfl, rfl⟩⟩, hR, frB.rf⟩
end CN
