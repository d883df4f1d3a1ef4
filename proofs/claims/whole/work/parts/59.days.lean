/-! what is so on a day: marks, ties, lives, sees; far -/
set_option maxRecDepth 4000 in
theorem xX12_marks_0 {l : Launch} {G : Gt} {d : Nat} {M M' : Mem} {r : Option Vl} {x1 : Int} {x2 : Int} (hS : Sh M.2.1) (h : 
    (InR ((M.1 48 0 0) - 1)) ∧ ((¬ (0 ≤ x1 ∧ x1 < (M.1 48 0 0)) → r = some (vI (-1)) ∧ M' = M) ∧ (0 ≤ x1 ∧ x1 < (M.1 48 0 0) → (0 ≤ x2 ∧ x2 ≤ 999 → ∃ (M_2 : Mem), Cl l G (d + 1) mX12_lays [vR (some (3, 0)), vI 1, vI x2] M none M_2 ∧ Sh M_2.2.1 ∧ (InR (12 + x1) ∧ (0 ≤ (12 + x1) ∧ (12 + x1) < 24)) ∧ r = some (vI (M_2.1 71 0 (12 + x1).toNat)) ∧ M' = M_2) ∧ (¬ (0 ≤ x2 ∧ x2 ≤ 999) → r = some (vI (-1)) ∧ M' = M)))) : Cl l G (d + 2) mX12_marks [vR (some (3, 0)), vI x1, vI x2] M r M' := by
  show Ex l G (d + 2) mX12_marks 0 [some (vR (some (3, 0))), some (vI x1), some (vI x2)] [] M r M'
  obtain ⟨o_1, h⟩ := h
  refine r_aload_n 1 dX12_marks_0 rfl rfl ?_
  refine r_iload_n 2 dX12_marks_1 rfl rfl ?_
  refine v_1 (ci := 12) (C := (RX12, TX12, 68)) [vI x1] [] 5 dX12_marks_2 rfl rfl rfl rfl rfl mo_X12_isPerson ml_12_175 rfl rfl (KX12_isPerson hS o_1) ?_
  refine r_if_eq 8 15 dX12_marks_5 rfl rfl (fun c => ?_) (fun c => ?_)
  · have h := h.1 (b2_0.mp c)
    refine r_iconst 16 dX12_marks_15 rfl (InR_of rfl) ?_
    exact r_iret dX12_marks_16 rfl (.inl rfl) h.1 h.2
  · have h := h.2 (b2_1.mp c)
    refine r_iload_n 9 dX12_marks_8 rfl rfl ?_
    refine c_1 [vI x2] [] 12 dX12_marks_9 rfl rfl mo_X12_isDay ml_12_170 rfl rfl (KX12_isDay) ?_
    refine r_if_ne 15 17 dX12_marks_12 rfl rfl (fun c => ?_) (fun c => ?_)
    · have h := h.1 (b2_1.mp c)
      refine r_aload_n 18 dX12_marks_17 rfl rfl ?_
      refine r_iconst 19 dX12_marks_18 rfl (InR_of rfl) ?_
      refine r_iload_n 20 dX12_marks_19 rfl rfl ?_
      obtain ⟨M_2, hc_3, hS, h⟩ := h
      refine v_0 (ci := 12) (C := (RX12, TX12, 68)) [vI 1, vI x2] [] 23 dX12_marks_20 rfl rfl rfl rfl rfl mo_X12_lays ml_12_198 rfl rfl hc_3 ?_
      obtain ⟨⟨o_4, o_5⟩, h⟩ := h
      refine r_aload_n 24 dX12_marks_23 rfl rfl ?_
      refine g_R 27 dX12_marks_24 rfl rfl rfl fr_12_79 (sh_12_24 hS) ?_
      refine r_bipush 29 dX12_marks_27 rfl rfl ?_
      refine r_iload_n 30 dX12_marks_29 rfl rfl ?_
      refine r_iadd 31 dX12_marks_30 rfl o_4 ?_
      refine a_I 24 32 dX12_marks_31 rfl rfl rfl rfl o_5 rfl ?_
      exact r_iret dX12_marks_32 rfl (.inl rfl) h.1 h.2
    · have h := h.2 (b2_0.mp (Decidable.not_not.mp c))
      refine r_iconst 16 dX12_marks_15 rfl (InR_of rfl) ?_
      exact r_iret dX12_marks_16 rfl (.inl rfl) h.1 h.2

set_option maxRecDepth 4000 in
theorem xX12_ties_0 {l : Launch} {G : Gt} {d : Nat} {M M' : Mem} {r : Option Vl} {x1 : Int} {x2 : Int} {x3 : Int} (hS : Sh M.2.1) (h : 
    (InR ((M.1 48 0 0) - 1)) ∧ ((¬ (0 ≤ x1 ∧ x1 < (M.1 48 0 0)) → r = some (vI (-1)) ∧ M' = M) ∧ (0 ≤ x1 ∧ x1 < (M.1 48 0 0) → (¬ (0 ≤ x2 ∧ x2 ≤ 5) → r = some (vI (-1)) ∧ M' = M) ∧ (0 ≤ x2 ∧ x2 ≤ 5 → (0 ≤ x3 ∧ x3 ≤ 999 → ∃ (M_2 : Mem), Cl l G (d + 1) mX12_lays [vR (some (3, 0)), vI 1, vI x3] M none M_2 ∧ Sh M_2.2.1 ∧ (InR (12 + x1) ∧ InR (6 * (12 + x1)) ∧ InR ((6 * (12 + x1)) + x2) ∧ (0 ≤ ((6 * (12 + x1)) + x2) ∧ ((6 * (12 + x1)) + x2) < 144)) ∧ r = some (vI (M_2.1 72 0 ((6 * (12 + x1)) + x2).toNat)) ∧ M' = M_2) ∧ (¬ (0 ≤ x3 ∧ x3 ≤ 999) → r = some (vI (-1)) ∧ M' = M))))) : Cl l G (d + 2) mX12_ties [vR (some (3, 0)), vI x1, vI x2, vI x3] M r M' := by
  show Ex l G (d + 2) mX12_ties 0 [some (vR (some (3, 0))), some (vI x1), some (vI x2), some (vI x3)] [] M r M'
  obtain ⟨o_1, h⟩ := h
  refine r_aload_n 1 dX12_ties_0 rfl rfl ?_
  refine r_iload_n 2 dX12_ties_1 rfl rfl ?_
  refine v_1 (ci := 12) (C := (RX12, TX12, 68)) [vI x1] [] 5 dX12_ties_2 rfl rfl rfl rfl rfl mo_X12_isPerson ml_12_175 rfl rfl (KX12_isPerson hS o_1) ?_
  refine r_if_eq 8 27 dX12_ties_5 rfl rfl (fun c => ?_) (fun c => ?_)
  · have h := h.1 (b2_0.mp c)
    refine r_iconst 28 dX12_ties_27 rfl (InR_of rfl) ?_
    exact r_iret dX12_ties_28 rfl (.inl rfl) h.1 h.2
  · have h := h.2 (b2_1.mp c)
    refine r_iload_n 9 dX12_ties_8 rfl rfl ?_
    refine r_i2l 10 dX12_ties_9 rfl ?_
    refine r_lconst (x := 0) 11 dX12_ties_10 rfl (by decide +kernel) (InR_of rfl) ?_
    refine r_ldc2 (n := 5) 14 dX12_ties_11 rfl (inT6 (List.mem_of_getElem? (i := 108) rfl) rfl) (by decide +kernel) (InR_of rfl) ?_
    refine c_1 [vL x2, vL 0, vL 5] [] 17 dX12_ties_14 rfl rfl mo_X12_in ml_12_154 rfl rfl (KX12_in) ?_
    refine r_if_eq 20 27 dX12_ties_17 rfl rfl (fun c => ?_) (fun c => ?_)
    · have h := h.1 (b2_0.mp c)
      refine r_iconst 28 dX12_ties_27 rfl (InR_of rfl) ?_
      exact r_iret dX12_ties_28 rfl (.inl rfl) h.1 h.2
    · have h := h.2 (b2_1.mp c)
      refine r_iload_n 21 dX12_ties_20 rfl rfl ?_
      refine c_1 [vI x3] [] 24 dX12_ties_21 rfl rfl mo_X12_isDay ml_12_170 rfl rfl (KX12_isDay) ?_
      refine r_if_ne 27 29 dX12_ties_24 rfl rfl (fun c => ?_) (fun c => ?_)
      · have h := h.1 (b2_1.mp c)
        refine r_aload_n 30 dX12_ties_29 rfl rfl ?_
        refine r_iconst 31 dX12_ties_30 rfl (InR_of rfl) ?_
        refine r_iload_n 32 dX12_ties_31 rfl rfl ?_
        obtain ⟨M_2, hc_3, hS, h⟩ := h
        refine v_0 (ci := 12) (C := (RX12, TX12, 68)) [vI 1, vI x3] [] 35 dX12_ties_32 rfl rfl rfl rfl rfl mo_X12_lays ml_12_198 rfl rfl hc_3 ?_
        obtain ⟨⟨o_4, o_5, o_6, o_7⟩, h⟩ := h
        refine r_aload_n 36 dX12_ties_35 rfl rfl ?_
        refine g_R 39 dX12_ties_36 rfl rfl rfl fr_12_82 (sh_12_25 hS) ?_
        refine r_bipush 41 dX12_ties_39 rfl rfl ?_
        refine r_bipush 43 dX12_ties_41 rfl rfl ?_
        refine r_iload_n 44 dX12_ties_43 rfl rfl ?_
        refine r_iadd 45 dX12_ties_44 rfl o_4 ?_
        refine r_imul 46 dX12_ties_45 rfl o_5 ?_
        refine r_iload_n 47 dX12_ties_46 rfl rfl ?_
        refine r_iadd 48 dX12_ties_47 rfl o_6 ?_
        refine a_I 144 49 dX12_ties_48 rfl rfl rfl rfl o_7 rfl ?_
        exact r_iret dX12_ties_49 rfl (.inl rfl) h.1 h.2
      · have h := h.2 (b2_0.mp (Decidable.not_not.mp c))
        refine r_iconst 28 dX12_ties_27 rfl (InR_of rfl) ?_
        exact r_iret dX12_ties_28 rfl (.inl rfl) h.1 h.2

set_option maxRecDepth 4000 in
theorem xX12_lives_0 {l : Launch} {G : Gt} {d : Nat} {M M' : Mem} {r : Option Vl} {x1 : Int} {x2 : Int} (hS : Sh M.2.1) (h : 
    (InR ((M.1 48 0 0) - 1)) ∧ ((¬ (0 ≤ x1 ∧ x1 < (M.1 48 0 0)) → r = some (vI (-1)) ∧ M' = M) ∧ (0 ≤ x1 ∧ x1 < (M.1 48 0 0) → (0 ≤ x2 ∧ x2 ≤ 999 → ∃ (M_2 : Mem), Cl l G (d + 1) mX12_lays [vR (some (3, 0)), vI 1, vI x2] M none M_2 ∧ Sh M_2.2.1 ∧ (InR (12 + x1) ∧ (0 ≤ (12 + x1) ∧ (12 + x1) < 24)) ∧ r = some (vI (M_2.1 73 0 (12 + x1).toNat)) ∧ M' = M_2) ∧ (¬ (0 ≤ x2 ∧ x2 ≤ 999) → r = some (vI (-1)) ∧ M' = M)))) : Cl l G (d + 2) mX12_lives [vR (some (3, 0)), vI x1, vI x2] M r M' := by
  show Ex l G (d + 2) mX12_lives 0 [some (vR (some (3, 0))), some (vI x1), some (vI x2)] [] M r M'
  obtain ⟨o_1, h⟩ := h
  refine r_aload_n 1 dX12_lives_0 rfl rfl ?_
  refine r_iload_n 2 dX12_lives_1 rfl rfl ?_
  refine v_1 (ci := 12) (C := (RX12, TX12, 68)) [vI x1] [] 5 dX12_lives_2 rfl rfl rfl rfl rfl mo_X12_isPerson ml_12_175 rfl rfl (KX12_isPerson hS o_1) ?_
  refine r_if_eq 8 15 dX12_lives_5 rfl rfl (fun c => ?_) (fun c => ?_)
  · have h := h.1 (b2_0.mp c)
    refine r_iconst 16 dX12_lives_15 rfl (InR_of rfl) ?_
    exact r_iret dX12_lives_16 rfl (.inl rfl) h.1 h.2
  · have h := h.2 (b2_1.mp c)
    refine r_iload_n 9 dX12_lives_8 rfl rfl ?_
    refine c_1 [vI x2] [] 12 dX12_lives_9 rfl rfl mo_X12_isDay ml_12_170 rfl rfl (KX12_isDay) ?_
    refine r_if_ne 15 17 dX12_lives_12 rfl rfl (fun c => ?_) (fun c => ?_)
    · have h := h.1 (b2_1.mp c)
      refine r_aload_n 18 dX12_lives_17 rfl rfl ?_
      refine r_iconst 19 dX12_lives_18 rfl (InR_of rfl) ?_
      refine r_iload_n 20 dX12_lives_19 rfl rfl ?_
      obtain ⟨M_2, hc_3, hS, h⟩ := h
      refine v_0 (ci := 12) (C := (RX12, TX12, 68)) [vI 1, vI x2] [] 23 dX12_lives_20 rfl rfl rfl rfl rfl mo_X12_lays ml_12_198 rfl rfl hc_3 ?_
      obtain ⟨⟨o_4, o_5⟩, h⟩ := h
      refine r_aload_n 24 dX12_lives_23 rfl rfl ?_
      refine g_R 27 dX12_lives_24 rfl rfl rfl fr_12_85 (sh_12_26 hS) ?_
      refine r_bipush 29 dX12_lives_27 rfl rfl ?_
      refine r_iload_n 30 dX12_lives_29 rfl rfl ?_
      refine r_iadd 31 dX12_lives_30 rfl o_4 ?_
      refine a_I 24 32 dX12_lives_31 rfl rfl rfl rfl o_5 rfl ?_
      exact r_iret dX12_lives_32 rfl (.inl rfl) h.1 h.2
    · have h := h.2 (b2_0.mp (Decidable.not_not.mp c))
      refine r_iconst 16 dX12_lives_15 rfl (InR_of rfl) ?_
      exact r_iret dX12_lives_16 rfl (.inl rfl) h.1 h.2

set_option maxRecDepth 4000 in
theorem xX12_sees_0 {l : Launch} {G : Gt} {d : Nat} {M M' : Mem} {r : Option Vl} {x1 : Int} {x2 : Int} (hS : Sh M.2.1) (h : 
    (InR ((M.1 48 0 0) - 1)) ∧ ((¬ (0 ≤ x1 ∧ x1 < (M.1 48 0 0)) → r = some (vI (-1)) ∧ M' = M) ∧ (0 ≤ x1 ∧ x1 < (M.1 48 0 0) → (0 ≤ x2 ∧ x2 ≤ 999 → ∃ (M_2 : Mem), Cl l G (d + 1) mX12_lays [vR (some (3, 0)), vI 1, vI x2] M none M_2 ∧ (∃ (r_6 : Int) (M_4 : Mem), Cl l G (d + 1) mX12_seenBy [vR (some (3, 0)), vI x1] M_2 (some (vI r_6)) M_4 ∧ r = some (vI r_6) ∧ M' = M_4)) ∧ (¬ (0 ≤ x2 ∧ x2 ≤ 999) → r = some (vI (-1)) ∧ M' = M)))) : Cl l G (d + 2) mX12_sees [vR (some (3, 0)), vI x1, vI x2] M r M' := by
  show Ex l G (d + 2) mX12_sees 0 [some (vR (some (3, 0))), some (vI x1), some (vI x2)] [] M r M'
  obtain ⟨o_1, h⟩ := h
  refine r_aload_n 1 dX12_sees_0 rfl rfl ?_
  refine r_iload_n 2 dX12_sees_1 rfl rfl ?_
  refine v_1 (ci := 12) (C := (RX12, TX12, 68)) [vI x1] [] 5 dX12_sees_2 rfl rfl rfl rfl rfl mo_X12_isPerson ml_12_175 rfl rfl (KX12_isPerson hS o_1) ?_
  refine r_if_eq 8 15 dX12_sees_5 rfl rfl (fun c => ?_) (fun c => ?_)
  · have h := h.1 (b2_0.mp c)
    refine r_iconst 16 dX12_sees_15 rfl (InR_of rfl) ?_
    exact r_iret dX12_sees_16 rfl (.inl rfl) h.1 h.2
  · have h := h.2 (b2_1.mp c)
    refine r_iload_n 9 dX12_sees_8 rfl rfl ?_
    refine c_1 [vI x2] [] 12 dX12_sees_9 rfl rfl mo_X12_isDay ml_12_170 rfl rfl (KX12_isDay) ?_
    refine r_if_ne 15 17 dX12_sees_12 rfl rfl (fun c => ?_) (fun c => ?_)
    · have h := h.1 (b2_1.mp c)
      refine r_aload_n 18 dX12_sees_17 rfl rfl ?_
      refine r_iconst 19 dX12_sees_18 rfl (InR_of rfl) ?_
      refine r_iload_n 20 dX12_sees_19 rfl rfl ?_
      obtain ⟨M_2, hc_3, h⟩ := h
      refine v_0 (ci := 12) (C := (RX12, TX12, 68)) [vI 1, vI x2] [] 23 dX12_sees_20 rfl rfl rfl rfl rfl mo_X12_lays ml_12_198 rfl rfl hc_3 ?_
      refine r_aload_n 24 dX12_sees_23 rfl rfl ?_
      refine r_iload_n 25 dX12_sees_24 rfl rfl ?_
      obtain ⟨r_6, M_4, hc_5, h⟩ := h
      refine v_1 (ci := 12) (C := (RX12, TX12, 68)) [vI x1] [] 28 dX12_sees_25 rfl rfl rfl rfl rfl mo_X12_seenBy ml_12_201 rfl rfl hc_5 ?_
      exact r_iret dX12_sees_28 rfl (.inl rfl) h.1 h.2
    · have h := h.2 (b2_0.mp (Decidable.not_not.mp c))
      refine r_iconst 16 dX12_sees_15 rfl (InR_of rfl) ?_
      exact r_iret dX12_sees_16 rfl (.inl rfl) h.1 h.2

set_option maxRecDepth 4000 in
theorem xX11_marks_0 {l : Launch} {G : Gt} {d : Nat} {M M' : Mem} {r : Option Vl} {x1 : Int} {x2 : Int} (hS : Sh M.2.1) (h : 
    (¬ (0 ≤ x1 ∧ x1 < (M.1 4 0 0)) → r = some (vI (-1)) ∧ M' = M) ∧ (0 ≤ x1 ∧ x1 < (M.1 4 0 0) → (0 ≤ x2 ∧ x2 ≤ 999 → ∃ (k_3 : Nat) (M_1 : Mem), Cl l G d mX6_on [vR (some (6, 0)), vI x2] M (some (vR (some (14, k_3)))) M_1 ∧ (∃ (r_6 : Int) (M_4 : Mem), Cl l G d mX7_marksOf [vR (some (14, k_3)), vI x1] M_1 (some (vI r_6)) M_4 ∧ r = some (vI r_6) ∧ M' = M_4)) ∧ (¬ (0 ≤ x2 ∧ x2 ≤ 999) → r = some (vI (-1)) ∧ M' = M))) : Cl l G (d + 1) mX11_marks [vR (some (2, 0)), vI x1, vI x2] M r M' := by
  show Ex l G (d + 1) mX11_marks 0 [some (vR (some (2, 0))), some (vI x1), some (vI x2)] [] M r M'
  refine r_aload_n 1 dX11_marks_0 rfl rfl ?_
  refine r_iload_n 2 dX11_marks_1 rfl rfl ?_
  refine v_1 (ci := 11) (C := (RX11, TX11, 16)) [vI x1] [] 5 dX11_marks_2 rfl rfl rfl rfl rfl mo_X11_isPerson ml_11_127 rfl rfl (KX11_isPerson hS) ?_
  refine r_if_eq 8 15 dX11_marks_5 rfl rfl (fun c => ?_) (fun c => ?_)
  · have h := h.1 (b2_0.mp c)
    refine r_iconst 16 dX11_marks_15 rfl (InR_of rfl) ?_
    exact r_iret dX11_marks_16 rfl (.inl rfl) h.1 h.2
  · have h := h.2 (b2_1.mp c)
    refine r_iload_n 9 dX11_marks_8 rfl rfl ?_
    refine c_1 [vI x2] [] 12 dX11_marks_9 rfl rfl mo_X11_isDay ml_11_124 rfl rfl (KX11_isDay) ?_
    refine r_if_ne 15 17 dX11_marks_12 rfl rfl (fun c => ?_) (fun c => ?_)
    · have h := h.1 (b2_1.mp c)
      refine r_aload_n 18 dX11_marks_17 rfl rfl ?_
      refine g_R 21 dX11_marks_18 rfl rfl rfl fr_11_21 (sh_11_1 hS) ?_
      refine r_iload_n 22 dX11_marks_21 rfl rfl ?_
      obtain ⟨k_3, M_1, hc_2, h⟩ := h
      refine v_1 (ci := 6) (C := (RX6, TX6, 3)) [vI x2] [] 25 dX11_marks_22 rfl rfl rfl rfl rfl mo_X6_on ml_11_164 rfl rfl hc_2 ?_
      refine r_iload_n 26 dX11_marks_25 rfl rfl ?_
      obtain ⟨r_6, M_4, hc_5, h⟩ := h
      refine v_1 (ci := 7) (C := (RX7, TX7, 5)) [vI x1] [] 29 dX11_marks_26 rfl rfl rfl rfl rfl mo_X7_marksOf ml_11_168 rfl rfl hc_5 ?_
      exact r_iret dX11_marks_29 rfl (.inl rfl) h.1 h.2
    · have h := h.2 (b2_0.mp (Decidable.not_not.mp c))
      refine r_iconst 16 dX11_marks_15 rfl (InR_of rfl) ?_
      exact r_iret dX11_marks_16 rfl (.inl rfl) h.1 h.2

set_option maxRecDepth 4000 in
theorem xX11_ties_0 {l : Launch} {G : Gt} {d : Nat} {M M' : Mem} {r : Option Vl} {x1 : Int} {x2 : Int} {x3 : Int} (hS : Sh M.2.1) (h : 
    (¬ (0 ≤ x1 ∧ x1 < (M.1 4 0 0)) → r = some (vI (-1)) ∧ M' = M) ∧ (0 ≤ x1 ∧ x1 < (M.1 4 0 0) → (x2 < 0 → r = some (vI (-1)) ∧ M' = M) ∧ (¬ (x2 < 0) → (6 ≤ x2 → r = some (vI (-1)) ∧ M' = M) ∧ (¬ (6 ≤ x2) → (0 ≤ x3 ∧ x3 ≤ 999 → ∃ (k_3 : Nat) (M_1 : Mem), Cl l G d mX6_on [vR (some (6, 0)), vI x3] M (some (vR (some (14, k_3)))) M_1 ∧ Sh M_1.2.1 ∧ (InR (x2 * 12) ∧ InR ((x2 * 12) + x1) ∧ (0 ≤ ((x2 * 12) + x1) ∧ ((x2 * 12) + x1) < 72)) ∧ r = some (vI (M_1.1 30 k_3 ((x2 * 12) + x1).toNat)) ∧ M' = M_1) ∧ (¬ (0 ≤ x3 ∧ x3 ≤ 999) → r = some (vI (-1)) ∧ M' = M))))) : Cl l G (d + 1) mX11_ties [vR (some (2, 0)), vI x1, vI x2, vI x3] M r M' := by
  show Ex l G (d + 1) mX11_ties 0 [some (vR (some (2, 0))), some (vI x1), some (vI x2), some (vI x3)] [] M r M'
  refine r_aload_n 1 dX11_ties_0 rfl rfl ?_
  refine r_iload_n 2 dX11_ties_1 rfl rfl ?_
  refine v_1 (ci := 11) (C := (RX11, TX11, 16)) [vI x1] [] 5 dX11_ties_2 rfl rfl rfl rfl rfl mo_X11_isPerson ml_11_127 rfl rfl (KX11_isPerson hS) ?_
  refine r_if_eq 8 25 dX11_ties_5 rfl rfl (fun c => ?_) (fun c => ?_)
  · have h := h.1 (b2_0.mp c)
    refine r_iconst 26 dX11_ties_25 rfl (InR_of rfl) ?_
    exact r_iret dX11_ties_26 rfl (.inl rfl) h.1 h.2
  · have h := h.2 (b2_1.mp c)
    refine r_iload_n 9 dX11_ties_8 rfl rfl ?_
    refine r_if_lt 12 25 dX11_ties_9 rfl rfl (fun c => ?_) (fun c => ?_)
    · have h := h.1 (c)
      refine r_iconst 26 dX11_ties_25 rfl (InR_of rfl) ?_
      exact r_iret dX11_ties_26 rfl (.inl rfl) h.1 h.2
    · have h := h.2 (c)
      refine r_iload_n 13 dX11_ties_12 rfl rfl ?_
      refine r_bipush 15 dX11_ties_13 rfl rfl ?_
      refine r_icmp_ge 18 25 dX11_ties_15 rfl rfl (fun c => ?_) (fun c => ?_)
      · have h := h.1 (c)
        refine r_iconst 26 dX11_ties_25 rfl (InR_of rfl) ?_
        exact r_iret dX11_ties_26 rfl (.inl rfl) h.1 h.2
      · have h := h.2 (c)
        refine r_iload_n 19 dX11_ties_18 rfl rfl ?_
        refine c_1 [vI x3] [] 22 dX11_ties_19 rfl rfl mo_X11_isDay ml_11_124 rfl rfl (KX11_isDay) ?_
        refine r_if_ne 25 27 dX11_ties_22 rfl rfl (fun c => ?_) (fun c => ?_)
        · have h := h.1 (b2_1.mp c)
          refine r_aload_n 28 dX11_ties_27 rfl rfl ?_
          refine g_R 31 dX11_ties_28 rfl rfl rfl fr_11_21 (sh_11_1 hS) ?_
          refine r_iload_n 32 dX11_ties_31 rfl rfl ?_
          obtain ⟨k_3, M_1, hc_2, hS, h⟩ := h
          refine v_1 (ci := 6) (C := (RX6, TX6, 3)) [vI x3] [] 35 dX11_ties_32 rfl rfl rfl rfl rfl mo_X6_on ml_11_164 rfl rfl hc_2 ?_
          obtain ⟨⟨o_4, o_5, o_6⟩, h⟩ := h
          refine g_R 38 dX11_ties_35 rfl rfl rfl fr_11_174 (sh_7_2 hS _) ?_
          refine r_iload_n 39 dX11_ties_38 rfl rfl ?_
          refine r_bipush 41 dX11_ties_39 rfl rfl ?_
          refine r_imul 42 dX11_ties_41 rfl o_4 ?_
          refine r_iload_n 43 dX11_ties_42 rfl rfl ?_
          refine r_iadd 44 dX11_ties_43 rfl o_5 ?_
          refine a_I 72 45 dX11_ties_44 rfl rfl rfl rfl o_6 rfl ?_
          exact r_iret dX11_ties_45 rfl (.inl rfl) h.1 h.2
        · have h := h.2 (b2_0.mp (Decidable.not_not.mp c))
          refine r_iconst 26 dX11_ties_25 rfl (InR_of rfl) ?_
          exact r_iret dX11_ties_26 rfl (.inl rfl) h.1 h.2

set_option maxRecDepth 4000 in
theorem xX11_lives_0 {l : Launch} {G : Gt} {d : Nat} {M M' : Mem} {r : Option Vl} {x1 : Int} {x2 : Int} (hS : Sh M.2.1) (h : 
    (¬ (0 ≤ x1 ∧ x1 < (M.1 4 0 0)) → r = some (vI (-1)) ∧ M' = M) ∧ (0 ≤ x1 ∧ x1 < (M.1 4 0 0) → (0 ≤ x2 ∧ x2 ≤ 999 → ∃ (k_3 : Nat) (M_1 : Mem), Cl l G d mX6_on [vR (some (6, 0)), vI x2] M (some (vR (some (14, k_3)))) M_1 ∧ Sh M_1.2.1 ∧ ((0 ≤ x1 ∧ x1 < 12)) ∧ r = some (vI (M_1.1 31 k_3 x1.toNat)) ∧ M' = M_1) ∧ (¬ (0 ≤ x2 ∧ x2 ≤ 999) → r = some (vI (-1)) ∧ M' = M))) : Cl l G (d + 1) mX11_lives [vR (some (2, 0)), vI x1, vI x2] M r M' := by
  show Ex l G (d + 1) mX11_lives 0 [some (vR (some (2, 0))), some (vI x1), some (vI x2)] [] M r M'
  refine r_aload_n 1 dX11_lives_0 rfl rfl ?_
  refine r_iload_n 2 dX11_lives_1 rfl rfl ?_
  refine v_1 (ci := 11) (C := (RX11, TX11, 16)) [vI x1] [] 5 dX11_lives_2 rfl rfl rfl rfl rfl mo_X11_isPerson ml_11_127 rfl rfl (KX11_isPerson hS) ?_
  refine r_if_eq 8 15 dX11_lives_5 rfl rfl (fun c => ?_) (fun c => ?_)
  · have h := h.1 (b2_0.mp c)
    refine r_iconst 16 dX11_lives_15 rfl (InR_of rfl) ?_
    exact r_iret dX11_lives_16 rfl (.inl rfl) h.1 h.2
  · have h := h.2 (b2_1.mp c)
    refine r_iload_n 9 dX11_lives_8 rfl rfl ?_
    refine c_1 [vI x2] [] 12 dX11_lives_9 rfl rfl mo_X11_isDay ml_11_124 rfl rfl (KX11_isDay) ?_
    refine r_if_ne 15 17 dX11_lives_12 rfl rfl (fun c => ?_) (fun c => ?_)
    · have h := h.1 (b2_1.mp c)
      refine r_aload_n 18 dX11_lives_17 rfl rfl ?_
      refine g_R 21 dX11_lives_18 rfl rfl rfl fr_11_21 (sh_11_1 hS) ?_
      refine r_iload_n 22 dX11_lives_21 rfl rfl ?_
      obtain ⟨k_3, M_1, hc_2, hS, h⟩ := h
      refine v_1 (ci := 6) (C := (RX6, TX6, 3)) [vI x2] [] 25 dX11_lives_22 rfl rfl rfl rfl rfl mo_X6_on ml_11_164 rfl rfl hc_2 ?_
      obtain ⟨o_4, h⟩ := h
      refine g_R 28 dX11_lives_25 rfl rfl rfl fr_11_177 (sh_7_3 hS _) ?_
      refine r_iload_n 29 dX11_lives_28 rfl rfl ?_
      refine a_I 12 30 dX11_lives_29 rfl rfl rfl rfl o_4 rfl ?_
      exact r_iret dX11_lives_30 rfl (.inl rfl) h.1 h.2
    · have h := h.2 (b2_0.mp (Decidable.not_not.mp c))
      refine r_iconst 16 dX11_lives_15 rfl (InR_of rfl) ?_
      exact r_iret dX11_lives_16 rfl (.inl rfl) h.1 h.2

set_option maxRecDepth 4000 in
theorem xX11_sees_0 {l : Launch} {G : Gt} {d : Nat} {M M' : Mem} {r : Option Vl} {x1 : Int} {x2 : Int} (hS : Sh M.2.1) (h : 
    (¬ (0 ≤ x1 ∧ x1 < (M.1 4 0 0)) → r = some (vI (-1)) ∧ M' = M) ∧ (0 ≤ x1 ∧ x1 < (M.1 4 0 0) → (0 ≤ x2 ∧ x2 ≤ 999 → ∃ (k_3 : Nat) (M_1 : Mem), Cl l G d mX6_on [vR (some (6, 0)), vI x2] M (some (vR (some (14, k_3)))) M_1 ∧ (∃ (r_6 : Int) (M_4 : Mem), Cl l G d mX11_seenBy [vR (some (2, 0)), vI x1, vR (some (14, k_3))] M_1 (some (vI r_6)) M_4 ∧ r = some (vI r_6) ∧ M' = M_4)) ∧ (¬ (0 ≤ x2 ∧ x2 ≤ 999) → r = some (vI (-1)) ∧ M' = M))) : Cl l G (d + 1) mX11_sees [vR (some (2, 0)), vI x1, vI x2] M r M' := by
  show Ex l G (d + 1) mX11_sees 0 [some (vR (some (2, 0))), some (vI x1), some (vI x2)] [] M r M'
  refine r_aload_n 1 dX11_sees_0 rfl rfl ?_
  refine r_iload_n 2 dX11_sees_1 rfl rfl ?_
  refine v_1 (ci := 11) (C := (RX11, TX11, 16)) [vI x1] [] 5 dX11_sees_2 rfl rfl rfl rfl rfl mo_X11_isPerson ml_11_127 rfl rfl (KX11_isPerson hS) ?_
  refine r_if_eq 8 15 dX11_sees_5 rfl rfl (fun c => ?_) (fun c => ?_)
  · have h := h.1 (b2_0.mp c)
    refine r_iconst 16 dX11_sees_15 rfl (InR_of rfl) ?_
    exact r_iret dX11_sees_16 rfl (.inl rfl) h.1 h.2
  · have h := h.2 (b2_1.mp c)
    refine r_iload_n 9 dX11_sees_8 rfl rfl ?_
    refine c_1 [vI x2] [] 12 dX11_sees_9 rfl rfl mo_X11_isDay ml_11_124 rfl rfl (KX11_isDay) ?_
    refine r_if_ne 15 17 dX11_sees_12 rfl rfl (fun c => ?_) (fun c => ?_)
    · have h := h.1 (b2_1.mp c)
      refine r_aload_n 18 dX11_sees_17 rfl rfl ?_
      refine r_iload_n 19 dX11_sees_18 rfl rfl ?_
      refine r_aload_n 20 dX11_sees_19 rfl rfl ?_
      refine g_R 23 dX11_sees_20 rfl rfl rfl fr_11_21 (sh_11_1 hS) ?_
      refine r_iload_n 24 dX11_sees_23 rfl rfl ?_
      obtain ⟨k_3, M_1, hc_2, h⟩ := h
      refine v_1 (ci := 6) (C := (RX6, TX6, 3)) [vI x2] [vI x1, vR (some (2, 0))] 27 dX11_sees_24 rfl rfl rfl rfl rfl mo_X6_on ml_11_164 rfl rfl hc_2 ?_
      obtain ⟨r_6, M_4, hc_5, h⟩ := h
      refine v_1 (ci := 11) (C := (RX11, TX11, 16)) [vI x1, vR (some (14, k_3))] [] 30 dX11_sees_27 rfl rfl rfl rfl rfl mo_X11_seenBy ml_11_180 rfl rfl hc_5 ?_
      exact r_iret dX11_sees_30 rfl (.inl rfl) h.1 h.2
    · have h := h.2 (b2_0.mp (Decidable.not_not.mp c))
      refine r_iconst 16 dX11_sees_15 rfl (InR_of rfl) ?_
      exact r_iret dX11_sees_16 rfl (.inl rfl) h.1 h.2

set_option maxRecDepth 4000 in
theorem xX11_far_0 {l : Launch} {G : Gt} {d : Nat} {M M' : Mem} {r : Option Vl} {x1 : Int} {x2 : Int} (hS : Sh M.2.1) (h : 
    (¬ (0 ≤ x1 ∧ x1 < 8) → r = some (vI (-1)) ∧ M' = M) ∧ (0 ≤ x1 ∧ x1 < 8 → (0 ≤ x2 ∧ x2 < 8 → (InR (x1 * 8) ∧ InR ((x1 * 8) + x2) ∧ (0 ≤ ((x1 * 8) + x2) ∧ ((x1 * 8) + x2) < 64)) ∧ r = some (vI (if (M.1 45 0 ((x1 * 8) + x2).toNat) = 1000 then (-2) else (M.1 45 0 ((x1 * 8) + x2).toNat) : Int)) ∧ M' = M) ∧ (¬ (0 ≤ x2 ∧ x2 < 8) → r = some (vI (-1)) ∧ M' = M))) : Cl l G (d + 1) mX11_far [vR (some (2, 0)), vI x1, vI x2] M r M' := by
  show Ex l G (d + 1) mX11_far 0 [some (vR (some (2, 0))), some (vI x1), some (vI x2), none] [] M r M'
  refine r_iload_n 1 dX11_far_0 rfl rfl ?_
  refine c_1 [vI x1] [] 4 dX11_far_1 rfl rfl mo_X11_isPlace ml_11_96 rfl rfl (KX11_isPlace) ?_
  refine r_if_eq 7 14 dX11_far_4 rfl rfl (fun c => ?_) (fun c => ?_)
  · have h := h.1 (b2_0.mp c)
    refine r_iconst 15 dX11_far_14 rfl (InR_of rfl) ?_
    exact r_iret dX11_far_15 rfl (.inl rfl) h.1 h.2
  · have h := h.2 (b2_1.mp c)
    refine r_iload_n 8 dX11_far_7 rfl rfl ?_
    refine c_1 [vI x2] [] 11 dX11_far_8 rfl rfl mo_X11_isPlace ml_11_96 rfl rfl (KX11_isPlace) ?_
    refine r_if_ne 14 16 dX11_far_11 rfl rfl (fun c => ?_) (fun c => ?_)
    · have h := h.1 (b2_1.mp c)
      obtain ⟨⟨o_1, o_2, o_3⟩, h⟩ := h
      refine r_aload_n 17 dX11_far_16 rfl rfl ?_
      refine g_R 20 dX11_far_17 rfl rfl rfl fr_11_28 (sh_11_2 hS) ?_
      refine g_R 23 dX11_far_20 rfl rfl rfl fr_11_184 (sh_10_0 hS) ?_
      refine r_iload_n 24 dX11_far_23 rfl rfl ?_
      refine r_bipush 26 dX11_far_24 rfl rfl ?_
      refine r_imul 27 dX11_far_26 rfl o_1 ?_
      refine r_iload_n 28 dX11_far_27 rfl rfl ?_
      refine r_iadd 29 dX11_far_28 rfl o_2 ?_
      refine a_I 64 30 dX11_far_29 rfl rfl rfl rfl o_3 rfl ?_
      refine r_istore_n (ls' := [some (vR (some (2, 0))), some (vI x1), some (vI x2), some (vI (M.1 45 0 ((x1 * 8) + x2).toNat))]) 31 dX11_far_30 rfl rfl rfl rfl ?_
      refine r_iload_n 32 dX11_far_31 rfl rfl ?_
      refine r_sipush 35 dX11_far_32 rfl rfl ?_
      have hJ_4 : Ex l G (d + 1) mX11_far 44 [some (vR (some (2, 0))), some (vI x1), some (vI x2), some (vI (M.1 45 0 ((x1 * 8) + x2).toNat))] [vI (if (M.1 45 0 ((x1 * 8) + x2).toNat) = 1000 then (-2) else (M.1 45 0 ((x1 * 8) + x2).toNat) : Int)] M r M' := by
        exact r_iret dX11_far_44 rfl (.inl rfl) h.1 h.2
      refine r_icmp_ne 38 43 dX11_far_35 rfl rfl (fun c => ?_) (fun c => ?_)
      · have c_5 := c
        refine r_iload_n 44 dX11_far_43 rfl rfl ?_
        exact (Ex.at hJ_4 rfl (show [vI (M.1 45 0 ((x1 * 8) + x2).toNat)] = [vI (if (M.1 45 0 ((x1 * 8) + x2).toNat) = 1000 then (-2) else (M.1 45 0 ((x1 * 8) + x2).toNat) : Int)] by simp only [if_neg c_5]) rfl)
      · have c_5 := Decidable.not_not.mp c
        refine r_bipush 40 dX11_far_38 rfl rfl ?_
        refine r_goto 44 dX11_far_40 rfl ?_
        exact (Ex.at hJ_4 rfl (show [vI (-2)] = [vI (if (M.1 45 0 ((x1 * 8) + x2).toNat) = 1000 then (-2) else (M.1 45 0 ((x1 * 8) + x2).toNat) : Int)] by simp only [if_pos c_5]) rfl)
    · have h := h.2 (b2_0.mp (Decidable.not_not.mp c))
      refine r_iconst 15 dX11_far_14 rfl (InR_of rfl) ?_
      exact r_iret dX11_far_15 rfl (.inl rfl) h.1 h.2

def marksV (Q : QT) (p day : Int) : Int := if (0 ≤ p ∧ p < nPp Q) ∧ (0 ≤ day ∧ day ≤ 999) then bI 10 (fun m => mkF Q (dn Q day) p.toNat m) else -1
def tiesV (Q : QT) (p t day : Int) : Int := if (0 ≤ p ∧ p < nPp Q) ∧ (0 ≤ t ∧ t < 6) ∧ (0 ≤ day ∧ day ≤ 999) then bI 12 (fun q => tiF Q (dn Q day) p.toNat t.toNat q) else -1
def livesV (Q : QT) (p day : Int) : Int := if (0 ≤ p ∧ p < nPp Q) ∧ (0 ≤ day ∧ day ≤ 999) then plF Q (dn Q day) p.toNat else -1
def seesV (Q : QT) (p day : Int) : Int := if (0 ≤ p ∧ p < nPp Q) ∧ (0 ≤ day ∧ day ≤ 999) then bI 12 (snF Q (dn Q day) p) else -1
def farV (Q : QT) (a b : Int) : Int := if (0 ≤ a ∧ a < 8) ∧ (0 ≤ b ∧ b < 8) then (if 1000 ≤ dist Q a.toNat b.toNat then -2 else dist Q a.toNat b.toNat) else -1
section DY
variable {l : Launch} {G : Gt} {d : Nat} {Q : QT} {M : Mem}
theorem mppl_eq (hw : WFc Q) (hH : HoldsM Q M.1) : M.1 48 0 0 = (nPp Q : Int) := (hH.1.1 48 0 (by omega)).trans (nPp_eq hw)
theorem KX12_marks {p day : Int} (hS : Sh M.2.1) (hw : WFc Q) (hH : HoldsM Q M.1) : ∃ I', Cl l G (d + 3) mX12_marks [vR (some (3, 0)), vI p, vI day] M (some (vI (marksV Q p day))) (I', M.2.1, M.2.2) ∧ frM M.1 I' := by
  have h12 := nPp_le hw
  have e1 := mppl_eq hw hH
  obtain ⟨I1, c1, s1, L1⟩ := KX12_lays (l := l) (G := G) (d := d) (row := 1) (x2 := day) hS hw hH.1 (by omega)
  by_cases g : (0 ≤ p ∧ p < nPp Q) ∧ (0 ≤ day ∧ day ≤ 999)
  · refine ⟨I1, xX12_marks_0 hS ?_, frM.ll s1⟩
    unfold marksV
    rw [e1, if_pos g]
    refine ⟨by unfold InR; omega, fun a => absurd g.1 a, fun _ => ⟨fun _ => ⟨_, c1, hS, ⟨by unfold InR; omega, by omega⟩, ?_, rfl⟩, fun a => absurd g.2 a⟩⟩
    dsimp only
    rw [show (12 + p).toNat = 12 * 1 + p.toNat by omega, L1.1 p.toNat (by omega)]
  · refine ⟨M.1, xX12_marks_0 hS ?_, frM.rf⟩
    unfold marksV
    rw [e1, if_neg g]
    exact ⟨by unfold InR; omega, fun _ => ⟨rfl, rfl⟩, fun g1 => ⟨fun g2 => absurd ⟨g1, g2⟩ g, fun _ => ⟨rfl, rfl⟩⟩⟩
theorem KX12_lives {p day : Int} (hS : Sh M.2.1) (hw : WFc Q) (hH : HoldsM Q M.1) : ∃ I', Cl l G (d + 3) mX12_lives [vR (some (3, 0)), vI p, vI day] M (some (vI (livesV Q p day))) (I', M.2.1, M.2.2) ∧ frM M.1 I' := by
  have h12 := nPp_le hw
  have e1 := mppl_eq hw hH
  obtain ⟨I1, c1, s1, L1⟩ := KX12_lays (l := l) (G := G) (d := d) (row := 1) (x2 := day) hS hw hH.1 (by omega)
  by_cases g : (0 ≤ p ∧ p < nPp Q) ∧ (0 ≤ day ∧ day ≤ 999)
  · refine ⟨I1, xX12_lives_0 hS ?_, frM.ll s1⟩
    unfold livesV
    rw [e1, if_pos g]
    refine ⟨by unfold InR; omega, fun a => absurd g.1 a, fun _ => ⟨fun _ => ⟨_, c1, hS, ⟨by unfold InR; omega, by omega⟩, ?_, rfl⟩, fun a => absurd g.2 a⟩⟩
    dsimp only
    rw [show (12 + p).toNat = 12 * 1 + p.toNat by omega, L1.2.2 p.toNat (by omega)]
  · refine ⟨M.1, xX12_lives_0 hS ?_, frM.rf⟩
    unfold livesV
    rw [e1, if_neg g]
    exact ⟨by unfold InR; omega, fun _ => ⟨rfl, rfl⟩, fun g1 => ⟨fun g2 => absurd ⟨g1, g2⟩ g, fun _ => ⟨rfl, rfl⟩⟩⟩
theorem KX12_ties {p t day : Int} (hS : Sh M.2.1) (hw : WFc Q) (hH : HoldsM Q M.1) : ∃ I', Cl l G (d + 3) mX12_ties [vR (some (3, 0)), vI p, vI t, vI day] M (some (vI (tiesV Q p t day))) (I', M.2.1, M.2.2) ∧ frM M.1 I' := by
  have h12 := nPp_le hw
  have e1 := mppl_eq hw hH
  obtain ⟨I1, c1, s1, L1⟩ := KX12_lays (l := l) (G := G) (d := d) (row := 1) (x2 := day) hS hw hH.1 (by omega)
  by_cases g : (0 ≤ p ∧ p < nPp Q) ∧ (0 ≤ t ∧ t < 6) ∧ (0 ≤ day ∧ day ≤ 999)
  · refine ⟨I1, xX12_ties_0 hS ?_, frM.ll s1⟩
    unfold tiesV
    rw [e1, if_pos g]
    refine ⟨by unfold InR; omega, fun a => absurd g.1 a, fun _ => ⟨fun a => absurd (by omega) a, fun _ => ⟨fun _ => ⟨_, c1, hS, ⟨by unfold InR; omega, by unfold InR; omega, by unfold InR; omega, by omega⟩, ?_, rfl⟩, fun a => absurd g.2.2 a⟩⟩⟩
    dsimp only
    rw [show (6 * (12 + p) + t).toNat = 6 * (12 * 1 + p.toNat) + t.toNat by omega, L1.2.1 p.toNat t.toNat (by omega) (by omega)]
  · refine ⟨M.1, xX12_ties_0 hS ?_, frM.rf⟩
    unfold tiesV
    rw [e1, if_neg g]
    exact ⟨by unfold InR; omega, fun _ => ⟨rfl, rfl⟩, fun g1 => ⟨fun _ => ⟨rfl, rfl⟩, fun g2 => ⟨fun g3 => absurd ⟨g1, by omega, g3⟩ g, fun _ => ⟨rfl, rfl⟩⟩⟩⟩
theorem KX12_sees {p day : Int} (hS : Sh M.2.1) (hw : WFc Q) (hk : WFk Q) (hH : HoldsM Q M.1) : ∃ I', Cl l G (d + 3) mX12_sees [vR (some (3, 0)), vI p, vI day] M (some (vI (seesV Q p day))) (I', M.2.1, M.2.2) ∧ frM M.1 I' := by
  have h12 := nPp_le hw
  have e1 := mppl_eq hw hH
  obtain ⟨I1, c1, s1, L1⟩ := KX12_lays (l := l) (G := G) (d := d) (row := 1) (x2 := day) hS hw hH.1 (by omega)
  have hH1 := hH.fr (frM.ll s1)
  by_cases g : (0 ≤ p ∧ p < nPp Q) ∧ (0 ≤ day ∧ day ≤ 999)
  · have sn := KX12_seenBy (l := l) (G := G) (d := d + 1) (M := (I1, M.2.1, M.2.2)) (r := p) hS hw hk (dn_le Q day) hH1.1 hH1.2.1 L1 (by omega)
    refine ⟨I1, xX12_sees_0 hS ?_, frM.ll s1⟩
    unfold seesV
    rw [e1, if_pos g]
    exact ⟨by unfold InR; omega, fun a => absurd g.1 a, fun _ => ⟨fun _ => ⟨_, c1, _, _, sn, rfl, rfl⟩, fun a => absurd g.2 a⟩⟩
  · refine ⟨M.1, xX12_sees_0 hS ?_, frM.rf⟩
    unfold seesV
    rw [e1, if_neg g]
    exact ⟨by unfold InR; omega, fun _ => ⟨rfl, rfl⟩, fun g1 => ⟨fun g2 => absurd ⟨g1, g2⟩ g, fun _ => ⟨rfl, rfl⟩⟩⟩
/-! the class -/
theorem cppl_eq (hw : WFc Q) (hR : RelA Q M) : M.1 4 0 0 = (nPp Q : Int) := hR.2.1.1.trans (nPp_eq hw)
theorem KX11_marks {p day : Int} (hR : RelA Q M) (hw : WFc Q) : ∃ M', Cl l G (d + 3) mX11_marks [vR (some (2, 0)), vI p, vI day] M (some (vI (marksV Q p day))) M' ∧ RelA Q M' ∧ frA M M' := by
  have h12 := nPp_le hw
  have e1 := cppl_eq hw hR
  by_cases g : (0 ≤ p ∧ p < nPp Q) ∧ (0 ≤ day ∧ day ≤ 999)
  · obtain ⟨M1, o1, R1, f1, p1, _⟩ := on_at (l := l) (G := G) (d := d) (x := day) hR hw
    have k := KX7_marksOf (l := l) (G := G) (d := d + 2) (one := p.toNat) R1.1 (R1.2.2.1.2.2.2.2.2 (dn Q day) p1) (by omega)
    rw [show ((p.toNat : Nat) : Int) = p by omega] at k
    refine ⟨M1, xX11_marks_0 hR.1 ?_, R1, f1⟩
    unfold marksV
    rw [e1, if_pos g]
    exact ⟨fun a => absurd g.1 a, fun _ => ⟨fun _ => ⟨_, _, o1, _, _, k, rfl, rfl⟩, fun a => absurd g.2 a⟩⟩
  · refine ⟨M, xX11_marks_0 hR.1 ?_, hR, frA.rf⟩
    unfold marksV
    rw [e1, if_neg g]
    exact ⟨fun _ => ⟨rfl, rfl⟩, fun g1 => ⟨fun g2 => absurd ⟨g1, g2⟩ g, fun _ => ⟨rfl, rfl⟩⟩⟩
theorem KX11_lives {p day : Int} (hR : RelA Q M) (hw : WFc Q) : ∃ M', Cl l G (d + 3) mX11_lives [vR (some (2, 0)), vI p, vI day] M (some (vI (livesV Q p day))) M' ∧ RelA Q M' ∧ frA M M' := by
  have h12 := nPp_le hw
  have e1 := cppl_eq hw hR
  by_cases g : (0 ≤ p ∧ p < nPp Q) ∧ (0 ≤ day ∧ day ≤ 999)
  · obtain ⟨M1, o1, R1, f1, p1, _⟩ := on_at (l := l) (G := G) (d := d) (x := day) hR hw
    have L := R1.2.2.1.2.2.2.2.2 (dn Q day) p1
    refine ⟨M1, xX11_lives_0 hR.1 ?_, R1, f1⟩
    unfold livesV
    rw [e1, if_pos g]
    refine ⟨fun a => absurd g.1 a, fun _ => ⟨fun _ => ⟨_, _, o1, R1.1, by omega, ?_, rfl⟩, fun a => absurd g.2 a⟩⟩
    rw [L.2.2.1 p.toNat (by omega)]
  · refine ⟨M, xX11_lives_0 hR.1 ?_, hR, frA.rf⟩
    unfold livesV
    rw [e1, if_neg g]
    exact ⟨fun _ => ⟨rfl, rfl⟩, fun g1 => ⟨fun g2 => absurd ⟨g1, g2⟩ g, fun _ => ⟨rfl, rfl⟩⟩⟩
theorem KX11_ties {p t day : Int} (hR : RelA Q M) (hw : WFc Q) : ∃ M', Cl l G (d + 3) mX11_ties [vR (some (2, 0)), vI p, vI t, vI day] M (some (vI (tiesV Q p t day))) M' ∧ RelA Q M' ∧ frA M M' := by
  have h12 := nPp_le hw
  have e1 := cppl_eq hw hR
  by_cases g : (0 ≤ p ∧ p < nPp Q) ∧ (0 ≤ t ∧ t < 6) ∧ (0 ≤ day ∧ day ≤ 999)
  · obtain ⟨M1, o1, R1, f1, p1, _⟩ := on_at (l := l) (G := G) (d := d) (x := day) hR hw
    have L := R1.2.2.1.2.2.2.2.2 (dn Q day) p1
    refine ⟨M1, xX11_ties_0 hR.1 ?_, R1, f1⟩
    unfold tiesV
    rw [e1, if_pos g]
    refine ⟨fun a => absurd g.1 a, fun _ => ⟨fun a => absurd a (by omega), fun _ => ⟨fun a => absurd a (by omega), fun _ => ⟨fun _ => ⟨_, _, o1, R1.1, ⟨by unfold InR; omega, by unfold InR; omega, by omega⟩, ?_, rfl⟩, fun a => absurd g.2.2 a⟩⟩⟩⟩
    rw [show (t * 12 + p).toNat = 12 * t.toNat + p.toNat by omega, L.2.1 t.toNat p.toNat (by omega) (by omega)]
  · refine ⟨M, xX11_ties_0 hR.1 ?_, hR, frA.rf⟩
    unfold tiesV
    rw [e1, if_neg g]
    exact ⟨fun _ => ⟨rfl, rfl⟩, fun g1 => ⟨fun _ => ⟨rfl, rfl⟩, fun g2 => ⟨fun _ => ⟨rfl, rfl⟩, fun g3 => ⟨fun g4 => absurd ⟨g1, by omega, g4⟩ g, fun _ => ⟨rfl, rfl⟩⟩⟩⟩⟩
theorem KX11_sees {p day : Int} (hR : RelA Q M) (hw : WFc Q) (hk : WFk Q) : ∃ M', Cl l G (d + 3) mX11_sees [vR (some (2, 0)), vI p, vI day] M (some (vI (seesV Q p day))) M' ∧ RelA Q M' ∧ frA M M' := by
  have h12 := nPp_le hw
  have e1 := cppl_eq hw hR
  by_cases g : (0 ≤ p ∧ p < nPp Q) ∧ (0 ≤ day ∧ day ≤ 999)
  · obtain ⟨M1, o1, R1, f1, p1, _⟩ := on_at (l := l) (G := G) (d := d) (x := day) hR hw
    have sn := KX11_seenBy (l := l) (G := G) (d := d + 1) (n := dn Q day) (k := dn Q day) (r := p) R1.1 hw hk (dn_le Q day) R1.2.2.2.2.2 (R1.2.2.1.2.2.2.2.2 (dn Q day) p1) g.1
    refine ⟨M1, xX11_sees_0 hR.1 ?_, R1, f1⟩
    unfold seesV
    rw [e1, if_pos g]
    exact ⟨fun a => absurd g.1 a, fun _ => ⟨fun _ => ⟨_, _, o1, _, _, sn, rfl, rfl⟩, fun a => absurd g.2 a⟩⟩
  · refine ⟨M, xX11_sees_0 hR.1 ?_, hR, frA.rf⟩
    unfold seesV
    rw [e1, if_neg g]
    exact ⟨fun _ => ⟨rfl, rfl⟩, fun g1 => ⟨fun g2 => absurd ⟨g1, g2⟩ g, fun _ => ⟨rfl, rfl⟩⟩⟩
theorem KX11_far {a b : Int} (hS : Sh M.2.1) (hw : WFr Q) (hW : WaysC Q M.1) : Cl l G (d + 1) mX11_far [vR (some (2, 0)), vI a, vI b] M (some (vI (farV Q a b))) M := by
  unfold farV
  by_cases g : (0 ≤ a ∧ a < 8) ∧ (0 ≤ b ∧ b < 8)
  · rw [if_pos g]
    refine xX11_far_0 hS ⟨fun c => absurd g.1 c, fun _ => ⟨fun _ => ⟨⟨by unfold InR; omega, by unfold InR; omega, by omega⟩, ?_, rfl⟩, fun c => absurd g.2 c⟩⟩
    rw [show (a * 8 + b).toNat = 8 * a.toNat + b.toNat by omega, hW.1 a.toNat b.toNat (by omega) (by omega)]
    have hle := ((Dk_self hw 8 a.toNat).2 b.toNat).2
    by_cases c : 1000 ≤ dist Q a.toNat b.toNat
    · rw [if_pos c, if_pos (show dist Q a.toNat b.toNat = 1000 by unfold dist at *; omega)]
    · rw [if_neg c, if_neg (show ¬ dist Q a.toNat b.toNat = 1000 by omega)]
  · rw [if_neg g]
    exact xX11_far_0 hS ⟨fun _ => ⟨rfl, rfl⟩, fun c => ⟨fun c2 => absurd ⟨c, c2⟩ g, fun _ => ⟨rfl, rfl⟩⟩⟩
end DY
