/-! the class asked: whom a cover fits -/
set_option maxRecDepth 4000 in
theorem xX11_fitFor_0 {l : Launch} {G : Gt} {d : Nat} {M M' : Mem} {r : Option Vl} {k1 : Nat} {x2 : Int} {x3 : Int} {x4 : Int} {x5 : Int} (hS : Sh M.2.1) (h : 
    ∃ (k_3 : Nat) (M_1 : Mem), Cl l G d mX6_on [vR (some (6, 0)), vI x4] M (some (vR (some (14, k_3)))) M_1 ∧ Sh M_1.2.1 ∧ (((M_1.1 13 k1 3) = 0 → ∃ (k_6 : Nat) (M_4 : Mem), Cl l G d mX6_on [vR (some (6, 0)), vI x3] M_1 (some (vR (some (14, k_6)))) M_4 ∧ Sh M_4.2.1 ∧ ((¬ (x5 = (-1)) → ∃ (r_9 : Int) (M_7 : Mem), Cl l G d mX11_seenBy [vR (some (2, 0)), vI x5, vR (some (14, k_3))] M_4 (some (vI r_9)) M_7 ∧ Sh M_7.2.1 ∧ (∃ (r_12 : Int) (M_10 : Mem), Cl l G d mX3_fit [vR (some (8, 0)), vR (some (13, k1)), vI x2, vR (some (14, k_6)), vI r_9] M_7 (some (vI r_12)) M_10 ∧ r = some (vI r_12) ∧ M' = M_10)) ∧ (x5 = (-1) → ((0 ≤ (M_4.1 4 0 0) ∧ (M_4.1 4 0 0) ≤ 12)) ∧ (∃ (r_16 : Int) (M_14 : Mem), Cl l G d mX3_fit [vR (some (8, 0)), vR (some (13, k1)), vI x2, vR (some (14, k_6)), vI (aShl 1 (M_4.1 4 0 0) - 1)] M_4 (some (vI r_16)) M_14 ∧ r = some (vI r_16) ∧ M' = M_14)))) ∧ (¬ ((M_1.1 13 k1 3) = 0) → (¬ (x5 = (-1)) → ∃ (r_19 : Int) (M_17 : Mem), Cl l G d mX11_seenBy [vR (some (2, 0)), vI x5, vR (some (14, k_3))] M_1 (some (vI r_19)) M_17 ∧ Sh M_17.2.1 ∧ (∃ (r_22 : Int) (M_20 : Mem), Cl l G d mX3_fit [vR (some (8, 0)), vR (some (13, k1)), vI x2, vR (some (14, k_3)), vI r_19] M_17 (some (vI r_22)) M_20 ∧ r = some (vI r_22) ∧ M' = M_20)) ∧ (x5 = (-1) → ((0 ≤ (M_1.1 4 0 0) ∧ (M_1.1 4 0 0) ≤ 12)) ∧ (∃ (r_26 : Int) (M_24 : Mem), Cl l G d mX3_fit [vR (some (8, 0)), vR (some (13, k1)), vI x2, vR (some (14, k_3)), vI (aShl 1 (M_1.1 4 0 0) - 1)] M_1 (some (vI r_26)) M_24 ∧ r = some (vI r_26) ∧ M' = M_24))))) : Cl l G (d + 1) mX11_fitFor [vR (some (2, 0)), vR (some (13, k1)), vI x2, vI x3, vI x4, vI x5] M r M' := by
  show Ex l G (d + 1) mX11_fitFor 0 [some (vR (some (2, 0))), some (vR (some (13, k1))), some (vI x2), some (vI x3), some (vI x4), some (vI x5), none, none, none] [] M r M'
  refine r_aload_n 1 dX11_fitFor_0 rfl rfl ?_
  refine g_R 4 dX11_fitFor_1 rfl rfl rfl fr_11_21 (sh_11_1 hS) ?_
  refine r_iload 6 dX11_fitFor_4 rfl rfl ?_
  obtain ⟨k_3, M_1, hc_2, hS, h⟩ := h
  refine v_1 (ci := 6) (C := (RX6, TX6, 3)) [vI x4] [] 9 dX11_fitFor_6 rfl rfl rfl rfl rfl mo_X6_on ml_11_164 rfl rfl hc_2 ?_
  refine r_astore (ls' := [some (vR (some (2, 0))), some (vR (some (13, k1))), some (vI x2), some (vI x3), some (vI x4), some (vI x5), some (vR (some (14, k_3))), none, none]) 11 dX11_fitFor_9 rfl rfl rfl rfl ?_
  refine r_aload_n 12 dX11_fitFor_11 rfl rfl ?_
  refine g_I 15 dX11_fitFor_12 rfl rfl rfl fi_11_382 rfl ?_
  refine r_if_eq 18 23 dX11_fitFor_15 rfl rfl (fun c => ?_) (fun c => ?_)
  · have h := h.1 (c)
    refine r_aload_n 24 dX11_fitFor_23 rfl rfl ?_
    refine g_R 27 dX11_fitFor_24 rfl rfl rfl fr_11_21 (sh_11_1 hS) ?_
    refine r_iload_n 28 dX11_fitFor_27 rfl rfl ?_
    obtain ⟨k_6, M_4, hc_5, hS, h⟩ := h
    refine v_1 (ci := 6) (C := (RX6, TX6, 3)) [vI x3] [] 31 dX11_fitFor_28 rfl rfl rfl rfl rfl mo_X6_on ml_11_164 rfl rfl hc_5 ?_
    refine r_astore (ls' := [some (vR (some (2, 0))), some (vR (some (13, k1))), some (vI x2), some (vI x3), some (vI x4), some (vI x5), some (vR (some (14, k_3))), some (vR (some (14, k_6))), none]) 33 dX11_fitFor_31 rfl rfl rfl rfl ?_
    refine r_iload 35 dX11_fitFor_33 rfl rfl ?_
    refine r_iconst 36 dX11_fitFor_35 rfl (InR_of rfl) ?_
    refine r_icmp_ne 39 46 dX11_fitFor_36 rfl rfl (fun c => ?_) (fun c => ?_)
    · have h := h.1 (c)
      refine r_aload_n 47 dX11_fitFor_46 rfl rfl ?_
      refine r_iload 49 dX11_fitFor_47 rfl rfl ?_
      refine r_aload 51 dX11_fitFor_49 rfl rfl ?_
      obtain ⟨r_9, M_7, hc_8, hS, h⟩ := h
      refine v_1 (ci := 11) (C := (RX11, TX11, 16)) [vI x5, vR (some (14, k_3))] [] 54 dX11_fitFor_51 rfl rfl rfl rfl rfl mo_X11_seenBy ml_11_180 rfl rfl hc_8 ?_
      refine r_istore (ls' := [some (vR (some (2, 0))), some (vR (some (13, k1))), some (vI x2), some (vI x3), some (vI x4), some (vI x5), some (vR (some (14, k_3))), some (vR (some (14, k_6))), some (vI r_9)]) 56 dX11_fitFor_54 rfl rfl rfl rfl ?_
      refine r_aload_n 57 dX11_fitFor_56 rfl rfl ?_
      refine g_R 60 dX11_fitFor_57 rfl rfl rfl fr_11_35 (sh_11_3 hS) ?_
      refine r_aload_n 61 dX11_fitFor_60 rfl rfl ?_
      refine r_iload_n 62 dX11_fitFor_61 rfl rfl ?_
      refine r_aload 64 dX11_fitFor_62 rfl rfl ?_
      refine r_iload 66 dX11_fitFor_64 rfl rfl ?_
      obtain ⟨r_12, M_10, hc_11, h⟩ := h
      refine v_1 (ci := 3) (C := (RX3, TX3, 4)) [vR (some (13, k1)), vI x2, vR (some (14, k_6)), vI r_9] [] 69 dX11_fitFor_66 rfl rfl rfl rfl rfl mo_X3_fit ml_11_385 rfl rfl hc_11 ?_
      exact r_iret dX11_fitFor_69 rfl (.inl rfl) h.1 h.2
    · have h := h.2 (Decidable.not_not.mp c)
      obtain ⟨o_13, h⟩ := h
      refine r_aload_n 40 dX11_fitFor_39 rfl rfl ?_
      refine v_1 (ci := 11) (C := (RX11, TX11, 16)) [] [] 43 dX11_fitFor_40 rfl rfl rfl rfl rfl mo_X11_everybody ml_11_200 rfl rfl (KX11_everybody hS o_13) ?_
      refine r_goto 54 dX11_fitFor_43 rfl ?_
      refine r_istore (ls' := [some (vR (some (2, 0))), some (vR (some (13, k1))), some (vI x2), some (vI x3), some (vI x4), some (vI x5), some (vR (some (14, k_3))), some (vR (some (14, k_6))), some (vI (aShl 1 (M_4.1 4 0 0) - 1))]) 56 dX11_fitFor_54 rfl rfl rfl rfl ?_
      refine r_aload_n 57 dX11_fitFor_56 rfl rfl ?_
      refine g_R 60 dX11_fitFor_57 rfl rfl rfl fr_11_35 (sh_11_3 hS) ?_
      refine r_aload_n 61 dX11_fitFor_60 rfl rfl ?_
      refine r_iload_n 62 dX11_fitFor_61 rfl rfl ?_
      refine r_aload 64 dX11_fitFor_62 rfl rfl ?_
      refine r_iload 66 dX11_fitFor_64 rfl rfl ?_
      obtain ⟨r_16, M_14, hc_15, h⟩ := h
      refine v_1 (ci := 3) (C := (RX3, TX3, 4)) [vR (some (13, k1)), vI x2, vR (some (14, k_6)), vI (aShl 1 (M_4.1 4 0 0) - 1)] [] 69 dX11_fitFor_66 rfl rfl rfl rfl rfl mo_X3_fit ml_11_385 rfl rfl hc_15 ?_
      exact r_iret dX11_fitFor_69 rfl (.inl rfl) h.1 h.2
  · have h := h.2 (c)
    refine r_aload 20 dX11_fitFor_18 rfl rfl ?_
    refine r_goto 31 dX11_fitFor_20 rfl ?_
    refine r_astore (ls' := [some (vR (some (2, 0))), some (vR (some (13, k1))), some (vI x2), some (vI x3), some (vI x4), some (vI x5), some (vR (some (14, k_3))), some (vR (some (14, k_3))), none]) 33 dX11_fitFor_31 rfl rfl rfl rfl ?_
    refine r_iload 35 dX11_fitFor_33 rfl rfl ?_
    refine r_iconst 36 dX11_fitFor_35 rfl (InR_of rfl) ?_
    refine r_icmp_ne 39 46 dX11_fitFor_36 rfl rfl (fun c => ?_) (fun c => ?_)
    · have h := h.1 (c)
      refine r_aload_n 47 dX11_fitFor_46 rfl rfl ?_
      refine r_iload 49 dX11_fitFor_47 rfl rfl ?_
      refine r_aload 51 dX11_fitFor_49 rfl rfl ?_
      obtain ⟨r_19, M_17, hc_18, hS, h⟩ := h
      refine v_1 (ci := 11) (C := (RX11, TX11, 16)) [vI x5, vR (some (14, k_3))] [] 54 dX11_fitFor_51 rfl rfl rfl rfl rfl mo_X11_seenBy ml_11_180 rfl rfl hc_18 ?_
      refine r_istore (ls' := [some (vR (some (2, 0))), some (vR (some (13, k1))), some (vI x2), some (vI x3), some (vI x4), some (vI x5), some (vR (some (14, k_3))), some (vR (some (14, k_3))), some (vI r_19)]) 56 dX11_fitFor_54 rfl rfl rfl rfl ?_
      refine r_aload_n 57 dX11_fitFor_56 rfl rfl ?_
      refine g_R 60 dX11_fitFor_57 rfl rfl rfl fr_11_35 (sh_11_3 hS) ?_
      refine r_aload_n 61 dX11_fitFor_60 rfl rfl ?_
      refine r_iload_n 62 dX11_fitFor_61 rfl rfl ?_
      refine r_aload 64 dX11_fitFor_62 rfl rfl ?_
      refine r_iload 66 dX11_fitFor_64 rfl rfl ?_
      obtain ⟨r_22, M_20, hc_21, h⟩ := h
      refine v_1 (ci := 3) (C := (RX3, TX3, 4)) [vR (some (13, k1)), vI x2, vR (some (14, k_3)), vI r_19] [] 69 dX11_fitFor_66 rfl rfl rfl rfl rfl mo_X3_fit ml_11_385 rfl rfl hc_21 ?_
      exact r_iret dX11_fitFor_69 rfl (.inl rfl) h.1 h.2
    · have h := h.2 (Decidable.not_not.mp c)
      obtain ⟨o_23, h⟩ := h
      refine r_aload_n 40 dX11_fitFor_39 rfl rfl ?_
      refine v_1 (ci := 11) (C := (RX11, TX11, 16)) [] [] 43 dX11_fitFor_40 rfl rfl rfl rfl rfl mo_X11_everybody ml_11_200 rfl rfl (KX11_everybody hS o_23) ?_
      refine r_goto 54 dX11_fitFor_43 rfl ?_
      refine r_istore (ls' := [some (vR (some (2, 0))), some (vR (some (13, k1))), some (vI x2), some (vI x3), some (vI x4), some (vI x5), some (vR (some (14, k_3))), some (vR (some (14, k_3))), some (vI (aShl 1 (M_1.1 4 0 0) - 1))]) 56 dX11_fitFor_54 rfl rfl rfl rfl ?_
      refine r_aload_n 57 dX11_fitFor_56 rfl rfl ?_
      refine g_R 60 dX11_fitFor_57 rfl rfl rfl fr_11_35 (sh_11_3 hS) ?_
      refine r_aload_n 61 dX11_fitFor_60 rfl rfl ?_
      refine r_iload_n 62 dX11_fitFor_61 rfl rfl ?_
      refine r_aload 64 dX11_fitFor_62 rfl rfl ?_
      refine r_iload 66 dX11_fitFor_64 rfl rfl ?_
      obtain ⟨r_26, M_24, hc_25, h⟩ := h
      refine v_1 (ci := 3) (C := (RX3, TX3, 4)) [vR (some (13, k1)), vI x2, vR (some (14, k_3)), vI (aShl 1 (M_1.1 4 0 0) - 1)] [] 69 dX11_fitFor_66 rfl rfl rfl rfl rfl mo_X3_fit ml_11_385 rfl rfl hc_25 ?_
      exact r_iret dX11_fitFor_69 rfl (.inl rfl) h.1 h.2

set_option maxRecDepth 4000 in
theorem xX11_coverOf_0 {l : Launch} {G : Gt} {d : Nat} {M M' : Mem} {r : Option Vl} {x1 : Int} (hS : Sh M.2.1) (h : 
    (x1 < 0 → r = some (vR none) ∧ M' = M) ∧ (¬ (x1 < 0) → (x1 < (M.1 2 0 10) → ((0 ≤ x1 ∧ x1 < 8)) ∧ r = some (vR (M.2.1 15 0 x1.toNat)) ∧ M' = M) ∧ (¬ (x1 < (M.1 2 0 10)) → r = some (vR none) ∧ M' = M))) : Cl l G d mX11_coverOf [vR (some (2, 0)), vI x1] M r M' := by
  show Ex l G d mX11_coverOf 0 [some (vR (some (2, 0))), some (vI x1)] [] M r M'
  refine r_iload_n 1 dX11_coverOf_0 rfl rfl ?_
  refine r_if_lt 4 12 dX11_coverOf_1 rfl rfl (fun c => ?_) (fun c => ?_)
  · have h := h.1 (c)
    refine r_null 13 dX11_coverOf_12 rfl ?_
    refine r_goto 22 dX11_coverOf_13 rfl ?_
    exact r_aret dX11_coverOf_22 rfl rfl h.1 h.2
  · have h := h.2 (c)
    refine r_iload_n 5 dX11_coverOf_4 rfl rfl ?_
    refine r_aload_n 6 dX11_coverOf_5 rfl rfl ?_
    refine g_I 9 dX11_coverOf_6 rfl rfl rfl fi_11_153 rfl ?_
    refine r_icmp_lt 12 16 dX11_coverOf_9 rfl rfl (fun c => ?_) (fun c => ?_)
    · have h := h.1 (c)
      obtain ⟨o_1, h⟩ := h
      refine r_aload_n 17 dX11_coverOf_16 rfl rfl ?_
      refine g_R 20 dX11_coverOf_17 rfl rfl rfl fr_11_78 (sh_11_9 hS) ?_
      refine r_iload_n 21 dX11_coverOf_20 rfl rfl ?_
      refine a_R (ci := 1) 8 22 dX11_coverOf_21 rfl rfl rfl rfl rfl o_1 rfl ?_
      exact r_aret dX11_coverOf_22 rfl rfl h.1 h.2
    · have h := h.2 (c)
      refine r_null 13 dX11_coverOf_12 rfl ?_
      refine r_goto 22 dX11_coverOf_13 rfl ?_
      exact r_aret dX11_coverOf_22 rfl rfl h.1 h.2

set_option maxRecDepth 4000 in
theorem xX11_fits_0 {l : Launch} {G : Gt} {d : Nat} {M M' : Mem} {r : Option Vl} {x1 : Int} {x2 : Int} {x3 : Int} {x4 : Int} {x5 : Int} (h : 
    ∃ (o_3 : Option Nm) (M_1 : Mem), Cl l G d mX11_coverOf [vR (some (2, 0)), vI x1] M (some (vR o_3)) M_1 ∧ Sh M_1.2.1 ∧ ((o_3 = none → r = some (vI (-2)) ∧ M' = M_1) ∧ (¬ (o_3 = none) → (¬ (0 ≤ x2 ∧ x2 < (M_1.1 4 0 0)) → r = some (vI (-2)) ∧ M' = M_1) ∧ (0 ≤ x2 ∧ x2 < (M_1.1 4 0 0) → (¬ (0 ≤ x3 ∧ x3 ≤ 999) → r = some (vI (-2)) ∧ M' = M_1) ∧ (0 ≤ x3 ∧ x3 ≤ 999 → (0 ≤ x4 ∧ x4 ≤ 999 → (x5 = (-1) → ∃ k_4 : Nat, o_3 = some (13, k_4) ∧ (∃ (r_8 : Int) (M_6 : Mem), Cl l G d mX11_fitFor [vR (some (2, 0)), vR (some (13, k_4)), vI x2, vI x3, vI x4, vI x5] M_1 (some (vI r_8)) M_6 ∧ r = some (vI r_8) ∧ M' = M_6)) ∧ (¬ (x5 = (-1)) → (0 ≤ x5 ∧ x5 < (M_1.1 4 0 0) → ∃ k_9 : Nat, o_3 = some (13, k_9) ∧ (∃ (r_13 : Int) (M_11 : Mem), Cl l G d mX11_fitFor [vR (some (2, 0)), vR (some (13, k_9)), vI x2, vI x3, vI x4, vI x5] M_1 (some (vI r_13)) M_11 ∧ r = some (vI r_13) ∧ M' = M_11)) ∧ (¬ (0 ≤ x5 ∧ x5 < (M_1.1 4 0 0)) → r = some (vI (-2)) ∧ M' = M_1))) ∧ (¬ (0 ≤ x4 ∧ x4 ≤ 999) → r = some (vI (-2)) ∧ M' = M_1)))))) : Cl l G (d + 1) mX11_fits [vR (some (2, 0)), vI x1, vI x2, vI x3, vI x4, vI x5] M r M' := by
  show Ex l G (d + 1) mX11_fits 0 [some (vR (some (2, 0))), some (vI x1), some (vI x2), some (vI x3), some (vI x4), some (vI x5), none] [] M r M'
  refine r_aload_n 1 dX11_fits_0 rfl rfl ?_
  refine r_iload_n 2 dX11_fits_1 rfl rfl ?_
  obtain ⟨o_3, M_1, hc_2, hS, h⟩ := h
  refine v_1 (ci := 11) (C := (RX11, TX11, 16)) [vI x1] [] 5 dX11_fits_2 rfl rfl rfl rfl rfl mo_X11_coverOf ml_11_187 rfl rfl hc_2 ?_
  refine r_astore (ls' := [some (vR (some (2, 0))), some (vI x1), some (vI x2), some (vI x3), some (vI x4), some (vI x5), some (vR o_3)]) 7 dX11_fits_5 rfl rfl rfl rfl ?_
  refine r_aload 9 dX11_fits_7 rfl rfl ?_
  refine r_ifnull 12 35 dX11_fits_9 rfl rfl (fun c => ?_) (fun c => ?_)
  · have h := h.1 (c)
    refine r_bipush 37 dX11_fits_35 rfl rfl ?_
    exact r_iret dX11_fits_37 rfl (.inl rfl) h.1 h.2
  · have h := h.2 (c)
    refine r_aload_n 13 dX11_fits_12 rfl rfl ?_
    refine r_iload_n 14 dX11_fits_13 rfl rfl ?_
    refine v_1 (ci := 11) (C := (RX11, TX11, 16)) [vI x2] [] 17 dX11_fits_14 rfl rfl rfl rfl rfl mo_X11_isPerson ml_11_127 rfl rfl (KX11_isPerson hS) ?_
    refine r_if_eq 20 35 dX11_fits_17 rfl rfl (fun c => ?_) (fun c => ?_)
    · have h := h.1 (b2_0.mp c)
      refine r_bipush 37 dX11_fits_35 rfl rfl ?_
      exact r_iret dX11_fits_37 rfl (.inl rfl) h.1 h.2
    · have h := h.2 (b2_1.mp c)
      refine r_iload_n 21 dX11_fits_20 rfl rfl ?_
      refine c_1 [vI x3] [] 24 dX11_fits_21 rfl rfl mo_X11_isDay ml_11_124 rfl rfl (KX11_isDay) ?_
      refine r_if_eq 27 35 dX11_fits_24 rfl rfl (fun c => ?_) (fun c => ?_)
      · have h := h.1 (b2_0.mp c)
        refine r_bipush 37 dX11_fits_35 rfl rfl ?_
        exact r_iret dX11_fits_37 rfl (.inl rfl) h.1 h.2
      · have h := h.2 (b2_1.mp c)
        refine r_iload 29 dX11_fits_27 rfl rfl ?_
        refine c_1 [vI x4] [] 32 dX11_fits_29 rfl rfl mo_X11_isDay ml_11_124 rfl rfl (KX11_isDay) ?_
        refine r_if_ne 35 38 dX11_fits_32 rfl rfl (fun c => ?_) (fun c => ?_)
        · have h := h.1 (b2_1.mp c)
          refine r_iload 40 dX11_fits_38 rfl rfl ?_
          refine r_iconst 41 dX11_fits_40 rfl (InR_of rfl) ?_
          refine r_icmp_eq 44 56 dX11_fits_41 rfl rfl (fun c => ?_) (fun c => ?_)
          · have h := h.1 (c)
            refine r_aload_n 57 dX11_fits_56 rfl rfl ?_
            refine r_aload 59 dX11_fits_57 rfl rfl ?_
            refine r_iload_n 60 dX11_fits_59 rfl rfl ?_
            refine r_iload_n 61 dX11_fits_60 rfl rfl ?_
            refine r_iload 63 dX11_fits_61 rfl rfl ?_
            refine r_iload 65 dX11_fits_63 rfl rfl ?_
            obtain ⟨k_4, e_5, h⟩ := h
            refine Ex.at (st2 := [vI x5, vI x4, vI x3, vI x2, vR (some (13, k_4)), vR (some (2, 0))]) ?_ rfl (show [vI x5, vI x4, vI x3, vI x2, vR o_3, vR (some (2, 0))] = [vI x5, vI x4, vI x3, vI x2, vR (some (13, k_4)), vR (some (2, 0))] by rw [e_5]) rfl
            obtain ⟨r_8, M_6, hc_7, h⟩ := h
            refine v_1 (ci := 11) (C := (RX11, TX11, 16)) [vR (some (13, k_4)), vI x2, vI x3, vI x4, vI x5] [] 68 dX11_fits_65 rfl rfl rfl rfl rfl mo_X11_fitFor ml_11_190 rfl rfl hc_7 ?_
            exact r_iret dX11_fits_68 rfl (.inl rfl) h.1 h.2
          · have h := h.2 (c)
            refine r_aload_n 45 dX11_fits_44 rfl rfl ?_
            refine r_iload 47 dX11_fits_45 rfl rfl ?_
            refine v_1 (ci := 11) (C := (RX11, TX11, 16)) [vI x5] [] 50 dX11_fits_47 rfl rfl rfl rfl rfl mo_X11_isPerson ml_11_127 rfl rfl (KX11_isPerson hS) ?_
            refine r_if_ne 53 56 dX11_fits_50 rfl rfl (fun c => ?_) (fun c => ?_)
            · have h := h.1 (b2_1.mp c)
              refine r_aload_n 57 dX11_fits_56 rfl rfl ?_
              refine r_aload 59 dX11_fits_57 rfl rfl ?_
              refine r_iload_n 60 dX11_fits_59 rfl rfl ?_
              refine r_iload_n 61 dX11_fits_60 rfl rfl ?_
              refine r_iload 63 dX11_fits_61 rfl rfl ?_
              refine r_iload 65 dX11_fits_63 rfl rfl ?_
              obtain ⟨k_9, e_10, h⟩ := h
              refine Ex.at (st2 := [vI x5, vI x4, vI x3, vI x2, vR (some (13, k_9)), vR (some (2, 0))]) ?_ rfl (show [vI x5, vI x4, vI x3, vI x2, vR o_3, vR (some (2, 0))] = [vI x5, vI x4, vI x3, vI x2, vR (some (13, k_9)), vR (some (2, 0))] by rw [e_10]) rfl
              obtain ⟨r_13, M_11, hc_12, h⟩ := h
              refine v_1 (ci := 11) (C := (RX11, TX11, 16)) [vR (some (13, k_9)), vI x2, vI x3, vI x4, vI x5] [] 68 dX11_fits_65 rfl rfl rfl rfl rfl mo_X11_fitFor ml_11_190 rfl rfl hc_12 ?_
              exact r_iret dX11_fits_68 rfl (.inl rfl) h.1 h.2
            · have h := h.2 (b2_0.mp (Decidable.not_not.mp c))
              refine r_bipush 55 dX11_fits_53 rfl rfl ?_
              exact r_iret dX11_fits_55 rfl (.inl rfl) h.1 h.2
        · have h := h.2 (b2_0.mp (Decidable.not_not.mp c))
          refine r_bipush 37 dX11_fits_35 rfl rfl ?_
          exact r_iret dX11_fits_37 rfl (.inl rfl) h.1 h.2

def CovsC (Q : QT) (M : Mem) : Prop := M.1 2 0 10 = Q 3 33 ∧ (cCnt M.2.2 13 = nCv Q ∧ cCnt M.2.2 47 = nCv Q) ∧ ∀ c, c < nCv Q → M.2.1 15 0 c = some (13, c) ∧ CovC Q M c c ∧ M.1 13 c 0 = (c : Int) ∧ M.1 13 c 2 = Q 83 c ∧ M.1 13 c 3 = Q 84 c
def KnC (Q : QT) (I : IM) : Prop := ∀ r, r < 12 → I 36 0 r = Q 50 r
def RelA (Q : QT) (M : Mem) : Prop := Sh M.2.1 ∧ ClsC Q M.1 ∧ PastOK Q M ∧ FitC Q (nCv Q) M.1 ∧ CovsC Q M ∧ KnC Q M.1
/-- only what Past and Fitter keep is other -/
def frA (M M' : Mem) : Prop := (∀ f k i, ¬ (f = 14 ∨ f = 29 ∨ f = 30 ∨ f = 31 ∨ f = 32 ∨ (f = 6 ∧ i = 2) ∨ f = 23 ∨ f = 24 ∨ f = 25 ∨ (f = 8 ∧ i = 3)) → M'.1 f k i = M.1 f k i) ∧ (∀ f k i, ¬ (f = 14 ∨ f = 28 ∨ f = 29 ∨ f = 30 ∨ f = 31 ∨ f = 32) → M'.2.1 f k i = M.2.1 f k i) ∧ (∀ f, ¬ (f = 14 ∨ f = 29 ∨ f = 30 ∨ f = 31 ∨ f = 32) → cCnt M'.2.2 f = cCnt M.2.2 f) ∧ CLe M.2.2 M'.2.2 ∧ cNc M'.2.2 + 5 * cCnt M.2.2 14 = cNc M.2.2 + 5 * cCnt M'.2.2 14 ∧ cNs M'.2.2 + 107 * cCnt M.2.2 14 = cNs M.2.2 + 107 * cCnt M'.2.2 14
theorem frA.rf {M : Mem} : frA M M := ⟨fun _ _ _ _ => rfl, fun _ _ _ _ => rfl, fun _ _ => rfl, CLe.rf _, rfl, rfl⟩
theorem frA.tr {M M' M'' : Mem} (h : frA M M') (h' : frA M' M'') : frA M M'' := ⟨fun f k i hn => (h'.1 f k i hn).trans (h.1 f k i hn), fun f k i hn => (h'.2.1 f k i hn).trans (h.2.1 f k i hn), fun f hn => (h'.2.2.1 f hn).trans (h.2.2.1 f hn), h.2.2.2.1.tr h'.2.2.2.1, by have a := h.2.2.2.2.1; have b := h'.2.2.2.2.1; omega, by have a := h.2.2.2.2.2; have b := h'.2.2.2.2.2; omega⟩
theorem frP.a {M M' : Mem} (h : frP M M') : frA M M' := ⟨fun f k i hn => h.1 f k i (by omega), h.2⟩
theorem frF.a {M : Mem} {I' : IM} (h : frF M.1 I') : frA M (I', M.2.1, M.2.2) := ⟨fun f k i hn => h f k i (by omega) (by omega), fun _ _ _ _ => rfl, fun _ _ => rfl, CLe.rf _, rfl, rfl⟩
theorem CovsC.fr {Q : QT} {M M' : Mem} (h : CovsC Q M) (hf : frA M M') : CovsC Q M' := by
  obtain ⟨h1, ⟨h2, h2'⟩, h3⟩ := h
  refine ⟨by rw [hf.1 _ _ _ (by omega)]; exact h1, ⟨by rw [hf.2.2.1 _ (by omega)]; exact h2, by rw [hf.2.2.1 _ (by omega)]; exact h2'⟩, fun c hc => ?_⟩
  obtain ⟨a1, ⟨a2, a2'⟩, a3, a4, a5⟩ := h3 c hc
  refine ⟨by rw [hf.2.1 _ _ _ (by omega)]; exact a1, ⟨?_, fun k hk => by rw [hf.1 _ _ _ (by omega)]; exact a2' k hk⟩, by rw [hf.1 _ _ _ (by omega)]; exact a3, by rw [hf.1 _ _ _ (by omega)]; exact a4, by rw [hf.1 _ _ _ (by omega)]; exact a5⟩
  rw [← a2]
  exact hf.2.2.2.1.2.2.2.2 47 c (by omega)
theorem KnC.fr {Q : QT} {M M' : Mem} (h : KnC Q M.1) (hf : frA M M') : KnC Q M'.1 := fun r hr => by rw [hf.1 _ _ _ (by omega)]; exact h r hr
theorem ClsC.fr {Q : QT} {M M' : Mem} (h : ClsC Q M.1) (hs : frA M M') : ClsC Q M'.1 := by
  refine ⟨?_, ?_, fun p hp => ?_, fun i hi => ?_⟩
  · rw [hs.1 _ _ _ (by omega)]; exact h.1
  · rw [hs.1 _ _ _ (by omega)]; exact h.2.1
  · rw [hs.1 _ _ _ (by omega)]; exact h.2.2.1 p hp
  · rw [hs.1 _ _ _ (by omega)]; exact h.2.2.2 i hi
theorem FitC.frP {Q : QT} {nc : Nat} {M M' : Mem} (h : FitC Q nc M.1) (hs : frP M M') : FitC Q nc M'.1 := by
  refine ⟨fun c j hj => ?_, fun j cv s n seen hj hc hs' hn e => ?_⟩
  · rw [hs.1 _ _ _ (by omega)] at c ⊢; exact h.1 c j hj
  · rw [hs.1 _ _ _ (by omega)] at e ⊢; exact h.2 j cv s n seen hj hc hs' hn e
theorem Snap.frF {Q : QT} {I I' : IM} {k n : Nat} (h : Snap Q I k n) (hf : frF I I') : Snap Q I' k n := by
  refine ⟨fun m hm => ?_, fun t p ht hp => ?_, fun p hp => ?_, fun a ha => ?_⟩
  · rw [hf _ _ _ (by omega) (by omega)]; exact h.1 m hm
  · rw [hf _ _ _ (by omega) (by omega)]; exact h.2.1 t p ht hp
  · rw [hf _ _ _ (by omega) (by omega)]; exact h.2.2.1 p hp
  · rw [hf _ _ _ (by omega) (by omega)]; exact h.2.2.2 a ha
theorem PastOK.frF {Q : QT} {M : Mem} {I' : IM} (h : PastOK Q M) (hf : frF M.1 I') : PastOK Q (I', M.2.1, M.2.2) := by
  obtain ⟨h1, h2, h3, h4, h5, h6⟩ := h
  have e : I' 6 0 2 = M.1 6 0 2 := hf _ _ _ (by omega) (by omega)
  refine ⟨?_, h2, h3, h4, fun n hn => ?_, fun n hn => ?_⟩
  · dsimp only; rw [e]; exact h1
  · dsimp only; rw [hf _ _ _ (by omega) (by omega)]; exact h5 n hn
  · dsimp only at hn; rw [e] at hn; exact (h6 n hn).frF hf
section FF
variable {l : Launch} {G : Gt} {d : Nat} {Q : QT} {M : Mem}
theorem RelA.frP {M' : Mem} (h : RelA Q M) (hS : Sh M'.2.1) (hP : PastOK Q M') (hf : frP M M') : RelA Q M' := ⟨hS, h.2.1.fr hf.a, hP, h.2.2.2.1.frP hf, h.2.2.2.2.1.fr hf.a, h.2.2.2.2.2.fr hf.a⟩
theorem RelA.frF {I' : IM} (h : RelA Q M) (hF : FitC Q (nCv Q) I') (hf : frF M.1 I') : RelA Q (I', M.2.1, M.2.2) := ⟨h.1, h.2.1.fr (M' := (I', M.2.1, M.2.2)) (frF.a hf), h.2.2.1.frF hf, hF, h.2.2.2.2.1.fr (frF.a hf), h.2.2.2.2.2.fr (M' := (I', M.2.1, M.2.2)) (frF.a hf)⟩
theorem KX11_seenBy {n k : Nat} {r : Int} (hS : Sh M.2.1) (hw : WFc Q) (hk : WFk Q) (hn : n ≤ nCh Q) (hK : KnC Q M.1) (hL : Snap Q M.1 k n) (hr : 0 ≤ r ∧ r < nPp Q) : Cl l G (d + 1) mX11_seenBy [vR (some (2, 0)), vI r, vR (some (14, k))] M (some (vI (bI 12 (snF Q n r)))) M := by
  have h12 := nPp_le hw
  have er : r = (r.toNat : Int) := by omega
  have hp := plF_in hw n r.toNat hn (by omega)
  have ep := hL.2.2.1 r.toNat (by omega)
  have e2 := hK r.toNat (by omega)
  have e3 : aShl 1 r = bI 12 (fun i => decide (i = r.toNat)) := by
    have := bI_one (n := 12) (s := r.toNat) (by omega) (by omega)
    rwa [← er] at this
  refine xX11_seenBy_0 hS ?_
  rw [ep, hL.2.2.2 (plF Q n r.toNat).toNat (by omega), e2, hk r.toNat (by omega), e3, bI_or (by omega), bI_or (by omega)]
  refine ⟨by omega, congrArg (fun x => some (vI x)) (bI_ext fun i hi => ?_), rfl⟩
  unfold snF
  rw [if_neg (show ¬ r = -1 by omega), show (((plF Q n r.toNat).toNat : Nat) : Int) = plF Q n r.toNat by omega]
theorem every_sn {n : Nat} (hw : WFc Q) : aShl 1 (Q 48 0) - 1 = bI 12 (snF Q n (-1)) := by
  have h12 := nPp_le hw
  rw [nPp_eq hw, pow_sub_one (by omega), bI_ext (p := fun _ => true) (q := snF Q n (-1)) (fun i hi => by unfold snF; rw [if_pos rfl]; simp [hi])]
  exact bI_len h12 (fun i h1 h2 => by unfold snF; rw [if_pos rfl]; simp; omega)
theorem fit_at {n cv k : Nat} {s : Nat} {seen : Nat → Bool} (hR : RelA Q M) (hw : WFc Q) (hV : WFV Q) (hcv : cv < nCv Q) (hs : s < 12) (hkn : k = n) (hk : (n : Int) ≤ M.1 6 0 2) : ∃ M', Cl l G (d + 1) mX3_fit [vR (some (8, 0)), vR (some (13, cv)), vI (s : Int), vR (some (14, k)), vI (bI 12 seen)] M (some (vI (fitV Q n s seen cv))) M' ∧ RelA Q M' ∧ frA M M' := by
  subst hkn
  obtain ⟨hS, hC, hP, hF, hCv, hK⟩ := hR
  have hP1 := hP.1
  obtain ⟨a1, a2, a3, a4, a5⟩ := hCv.2.2 cv hcv
  have hnc : nCv Q ≤ 8 := by have := hV.1; unfold nCv; omega
  obtain ⟨I', h1, h2, h3⟩ := KX3_fit (l := l) (G := G) (d := d) (n := k) (k1 := cv) (k3 := k) (s := s) (seen := seen) hS hw (by omega) hnc hcv a2 (hP.2.2.2.2.2 k hk) (hV.2 cv hcv) hs a3 a4 (hP.2.2.2.2.1 k (by omega)) hF
  exact ⟨_, h1, RelA.frF ⟨hS, hC, hP, hF, hCv, hK⟩ h2 h3, frF.a h3⟩
end FF
