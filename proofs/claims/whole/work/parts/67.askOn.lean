/-! a letter on its way: the spec, and the class -/
set_option maxRecDepth 4000 in
theorem xX0_askOn_0 {l : Launch} {G : Gt} {d : Nat} {M M' : Mem} {r : Option Vl} {k1 : Nat} (h : 
    (¬ ((M.2.1 5 k1 0) = none) → ∃ k_1 : Nat, (M.2.1 5 k1 0) = some (13, k_1) ∧ (∃ (M_3 : Mem), Cl l G d mX0_ask [vR (some (9, 0)), vR (some (13, k_1)), vI (M.1 5 k1 1), vI (M.1 5 k1 4), vI (M.1 5 k1 7), vI (M.1 5 k1 6)] M none M_3 ∧ ((¬ ((M_3.1 9 0 4) = 0) → (¬ ((M_3.1 9 0 4) = 1) → ∃ (r_7 : Int) (M_5 : Mem), Cl l G d mX0_nearestNew [vR (some (9, 0)), vR (some (5, k1))] ((upI M_3.1 5 k1 11 (aOr (M_3.1 5 k1 11) (M_3.1 9 0 7))), M_3.2.1, M_3.2.2) (some (vI r_7)) M_5 ∧ ((¬ (r_7 = (-1)) → r = some (vI r_7) ∧ M' = M_5) ∧ (r_7 = (-1) → r = some (vI r_7) ∧ M' = ((upI M_5.1 5 k1 5 2), M_5.2.1, M_5.2.2)))) ∧ ((M_3.1 9 0 4) = 1 → (¬ ((M_3.1 9 0 5) = (-1)) → r = some (vI (M_3.1 9 0 5)) ∧ M' = ((upI M_3.1 5 k1 11 (aOr (M_3.1 5 k1 11) (M_3.1 9 0 7))), M_3.2.1, M_3.2.2)) ∧ ((M_3.1 9 0 5) = (-1) → r = some (vI (M_3.1 9 0 5)) ∧ M' = ((upI (upI M_3.1 5 k1 11 (aOr (M_3.1 5 k1 11) (M_3.1 9 0 7))) 5 k1 5 2), M_3.2.1, M_3.2.2)))) ∧ ((M_3.1 9 0 4) = 0 → r = some (vI (-1)) ∧ M' = ((upI (upI (upI M_3.1 5 k1 11 (aOr (M_3.1 5 k1 11) (M_3.1 9 0 7))) 5 k1 5 1) 5 k1 8 (M_3.1 9 0 5)), M_3.2.1, M_3.2.2))))) ∧ ((M.2.1 5 k1 0) = none → r = some (vI (-1)) ∧ M' = M)) : Cl l G (d + 1) mX0_askOn [vR (some (9, 0)), vR (some (5, k1))] M r M' := by
  show Ex l G (d + 1) mX0_askOn 0 [some (vR (some (9, 0))), some (vR (some (5, k1))), none] [] M r M'
  refine r_aload_n 1 dX0_askOn_0 rfl rfl ?_
  refine g_R 4 dX0_askOn_1 rfl rfl rfl fr_0_101 rfl ?_
  refine r_ifnonnull 7 9 dX0_askOn_4 rfl rfl (fun c => ?_) (fun c => ?_)
  · have h := h.1 (c)
    refine r_aload_n 10 dX0_askOn_9 rfl rfl ?_
    refine r_aload_n 11 dX0_askOn_10 rfl rfl ?_
    refine g_R 14 dX0_askOn_11 rfl rfl rfl fr_0_101 rfl ?_
    refine r_aload_n 15 dX0_askOn_14 rfl rfl ?_
    refine g_I 18 dX0_askOn_15 rfl rfl rfl fi_0_107 rfl ?_
    refine r_aload_n 19 dX0_askOn_18 rfl rfl ?_
    refine g_I 22 dX0_askOn_19 rfl rfl rfl fi_0_110 rfl ?_
    refine r_aload_n 23 dX0_askOn_22 rfl rfl ?_
    refine g_I 26 dX0_askOn_23 rfl rfl rfl fi_0_113 rfl ?_
    refine r_aload_n 27 dX0_askOn_26 rfl rfl ?_
    refine g_I 30 dX0_askOn_27 rfl rfl rfl fi_0_116 rfl ?_
    obtain ⟨k_1, e_2, h⟩ := h
    refine Ex.at (st2 := [vI (M.1 5 k1 6), vI (M.1 5 k1 7), vI (M.1 5 k1 4), vI (M.1 5 k1 1), vR (some (13, k_1)), vR (some (9, 0))]) ?_ rfl (show [vI (M.1 5 k1 6), vI (M.1 5 k1 7), vI (M.1 5 k1 4), vI (M.1 5 k1 1), vR (M.2.1 5 k1 0), vR (some (9, 0))] = [vI (M.1 5 k1 6), vI (M.1 5 k1 7), vI (M.1 5 k1 4), vI (M.1 5 k1 1), vR (some (13, k_1)), vR (some (9, 0))] by rw [e_2]) rfl
    obtain ⟨M_3, hc_4, h⟩ := h
    refine v_0 (ci := 0) (C := (RX0, TX0, 13)) [vR (some (13, k_1)), vI (M.1 5 k1 1), vI (M.1 5 k1 4), vI (M.1 5 k1 7), vI (M.1 5 k1 6)] [] 33 dX0_askOn_30 rfl rfl rfl rfl rfl mo_X0_ask ml_0_119 rfl rfl hc_4 ?_
    refine r_aload_n 34 dX0_askOn_33 rfl rfl ?_
    refine r_dup 35 dX0_askOn_34 rfl rfl ?_
    refine g_I 38 dX0_askOn_35 rfl rfl rfl fi_0_123 rfl ?_
    refine r_aload_n 39 dX0_askOn_38 rfl rfl ?_
    refine g_I 42 dX0_askOn_39 rfl rfl rfl fi_0_53 rfl ?_
    refine r_ior 43 dX0_askOn_42 rfl ?_
    refine p_I 46 dX0_askOn_43 rfl rfl rfl rfl pf_0_123 (.inl rfl) rfl ?_
    refine r_aload_n 47 dX0_askOn_46 rfl rfl ?_
    refine g_I 50 dX0_askOn_47 rfl rfl rfl fi_0_43 (mI_0 (upI_f rfl)) ?_
    refine r_if_ne 53 68 dX0_askOn_50 rfl rfl (fun c => ?_) (fun c => ?_)
    · have h := h.1 (c)
      refine r_aload_n 69 dX0_askOn_68 rfl rfl ?_
      refine g_I 72 dX0_askOn_69 rfl rfl rfl fi_0_43 (mI_0 (upI_f rfl)) ?_
      refine r_iconst 73 dX0_askOn_72 rfl (InR_of rfl) ?_
      refine r_icmp_ne 76 83 dX0_askOn_73 rfl rfl (fun c => ?_) (fun c => ?_)
      · have h := h.1 (c)
        refine r_aload_n 84 dX0_askOn_83 rfl rfl ?_
        refine r_aload_n 85 dX0_askOn_84 rfl rfl ?_
        obtain ⟨r_7, M_5, hc_6, h⟩ := h
        refine v_1 (ci := 0) (C := (RX0, TX0, 13)) [vR (some (5, k1))] [] 88 dX0_askOn_85 rfl rfl rfl rfl rfl mo_X0_nearestNew ml_0_130 rfl rfl hc_6 ?_
        refine r_istore_n (ls' := [some (vR (some (9, 0))), some (vR (some (5, k1))), some (vI r_7)]) 89 dX0_askOn_88 rfl rfl rfl rfl ?_
        refine r_iload_n 90 dX0_askOn_89 rfl rfl ?_
        refine r_iconst 91 dX0_askOn_90 rfl (InR_of rfl) ?_
        refine r_icmp_ne 94 99 dX0_askOn_91 rfl rfl (fun c => ?_) (fun c => ?_)
        · have h := h.1 (c)
          refine r_iload_n 100 dX0_askOn_99 rfl rfl ?_
          exact r_iret dX0_askOn_100 rfl (.inl rfl) h.1 h.2
        · have h := h.2 (Decidable.not_not.mp c)
          refine r_aload_n 95 dX0_askOn_94 rfl rfl ?_
          refine r_iconst 96 dX0_askOn_95 rfl (InR_of rfl) ?_
          refine p_I 99 dX0_askOn_96 rfl rfl rfl rfl pf_0_124 (.inl rfl) rfl ?_
          refine r_iload_n 100 dX0_askOn_99 rfl rfl ?_
          exact r_iret dX0_askOn_100 rfl (.inl rfl) h.1 h.2
      · have h := h.2 (Decidable.not_not.mp c)
        refine r_aload_n 77 dX0_askOn_76 rfl rfl ?_
        refine g_I 80 dX0_askOn_77 rfl rfl rfl fi_0_47 (mI_0 (upI_f rfl)) ?_
        refine r_goto 88 dX0_askOn_80 rfl ?_
        refine r_istore_n (ls' := [some (vR (some (9, 0))), some (vR (some (5, k1))), some (vI (M_3.1 9 0 5))]) 89 dX0_askOn_88 rfl rfl rfl rfl ?_
        refine r_iload_n 90 dX0_askOn_89 rfl rfl ?_
        refine r_iconst 91 dX0_askOn_90 rfl (InR_of rfl) ?_
        refine r_icmp_ne 94 99 dX0_askOn_91 rfl rfl (fun c => ?_) (fun c => ?_)
        · have h := h.1 (c)
          refine r_iload_n 100 dX0_askOn_99 rfl rfl ?_
          exact r_iret dX0_askOn_100 rfl (.inl rfl) h.1 h.2
        · have h := h.2 (Decidable.not_not.mp c)
          refine r_aload_n 95 dX0_askOn_94 rfl rfl ?_
          refine r_iconst 96 dX0_askOn_95 rfl (InR_of rfl) ?_
          refine p_I 99 dX0_askOn_96 rfl rfl rfl rfl pf_0_124 (.inl rfl) rfl ?_
          refine r_iload_n 100 dX0_askOn_99 rfl rfl ?_
          exact r_iret dX0_askOn_100 rfl (.inl rfl) h.1 h.2
    · have h := h.2 (Decidable.not_not.mp c)
      refine r_aload_n 54 dX0_askOn_53 rfl rfl ?_
      refine r_iconst 55 dX0_askOn_54 rfl (InR_of rfl) ?_
      refine p_I 58 dX0_askOn_55 rfl rfl rfl rfl pf_0_124 (.inl rfl) rfl ?_
      refine r_aload_n 59 dX0_askOn_58 rfl rfl ?_
      refine r_aload_n 60 dX0_askOn_59 rfl rfl ?_
      refine g_I 63 dX0_askOn_60 rfl rfl rfl fi_0_47 (mI_0 ((upI_f rfl).trans (upI_f rfl))) ?_
      refine p_I 66 dX0_askOn_63 rfl rfl rfl rfl pf_0_127 (.inl rfl) rfl ?_
      refine r_iconst 67 dX0_askOn_66 rfl (InR_of rfl) ?_
      exact r_iret dX0_askOn_67 rfl (.inl rfl) h.1 h.2
  · have h := h.2 (c)
    refine r_iconst 8 dX0_askOn_7 rfl (InR_of rfl) ?_
    exact r_iret dX0_askOn_8 rfl (.inl rfl) h.1 h.2

set_option maxRecDepth 4000 in
theorem xX0_comesInTime_0 {l : Launch} {G : Gt} {d : Nat} {M M' : Mem} {r : Option Vl} {k1 : Nat} {x2 : Int} (hS : Sh M.2.1) (h : 
    (InR ((M.1 5 k1 6) * 8) ∧ InR (((M.1 5 k1 6) * 8) + x2) ∧ (0 ≤ (((M.1 5 k1 6) * 8) + x2) ∧ (((M.1 5 k1 6) * 8) + x2) < 64) ∧ InR ((M.1 5 k1 7) + (M.1 34 0 (((M.1 5 k1 6) * 8) + x2).toNat))) ∧ ((((if 999 < ((M.1 5 k1 7) + (M.1 34 0 (((M.1 5 k1 6) * 8) + x2).toNat)) then 0 else 1 : Int) = 0 ∨ (if 999 < ((M.1 5 k1 7) + (M.1 34 0 (((M.1 5 k1 6) * 8) + x2).toNat)) then 0 else 1 : Int) = 1)) ∧ r = some (vI (if 999 < ((M.1 5 k1 7) + (M.1 34 0 (((M.1 5 k1 6) * 8) + x2).toNat)) then 0 else 1 : Int)) ∧ M' = M)) : Cl l G d mX0_comesInTime [vR (some (9, 0)), vR (some (5, k1)), vI x2] M r M' := by
  show Ex l G d mX0_comesInTime 0 [some (vR (some (9, 0))), some (vR (some (5, k1))), some (vI x2)] [] M r M'
  obtain ⟨⟨o_1, o_2, o_3, o_4⟩, h⟩ := h
  refine r_aload_n 1 dX0_comesInTime_0 rfl rfl ?_
  refine g_I 4 dX0_comesInTime_1 rfl rfl rfl fi_0_113 rfl ?_
  refine r_aload_n 5 dX0_comesInTime_4 rfl rfl ?_
  refine g_R 8 dX0_comesInTime_5 rfl rfl rfl fr_0_15 (sh_0_0 hS) ?_
  refine g_R 11 dX0_comesInTime_8 rfl rfl rfl fr_0_134 (sh_8_3 hS _) ?_
  refine r_aload_n 12 dX0_comesInTime_11 rfl rfl ?_
  refine g_I 15 dX0_comesInTime_12 rfl rfl rfl fi_0_116 rfl ?_
  refine r_bipush 17 dX0_comesInTime_15 rfl rfl ?_
  refine r_imul 18 dX0_comesInTime_17 rfl o_1 ?_
  refine r_iload_n 19 dX0_comesInTime_18 rfl rfl ?_
  refine r_iadd 20 dX0_comesInTime_19 rfl o_2 ?_
  refine a_I 64 21 dX0_comesInTime_20 rfl rfl rfl rfl o_3 rfl ?_
  refine r_iadd 22 dX0_comesInTime_21 rfl o_4 ?_
  refine r_sipush 25 dX0_comesInTime_22 rfl rfl ?_
  have hJ_5 : Ex l G d mX0_comesInTime 33 [some (vR (some (9, 0))), some (vR (some (5, k1))), some (vI x2)] [vI (if 999 < ((M.1 5 k1 7) + (M.1 34 0 (((M.1 5 k1 6) * 8) + x2).toNat)) then 0 else 1 : Int)] M r M' := by
    obtain ⟨o_7, h⟩ := h
    exact r_iret dX0_comesInTime_33 rfl (.inr ⟨rfl, o_7⟩) h.1 h.2
  refine r_icmp_gt 28 32 dX0_comesInTime_25 rfl rfl (fun c => ?_) (fun c => ?_)
  · have c_6 := c
    refine r_iconst 33 dX0_comesInTime_32 rfl (InR_of rfl) ?_
    exact (Ex.at hJ_5 rfl (show [vI 0] = [vI (if 999 < ((M.1 5 k1 7) + (M.1 34 0 (((M.1 5 k1 6) * 8) + x2).toNat)) then 0 else 1 : Int)] by simp only [if_pos c_6]) rfl)
  · have c_6 := c
    refine r_iconst 29 dX0_comesInTime_28 rfl (InR_of rfl) ?_
    refine r_goto 33 dX0_comesInTime_29 rfl ?_
    exact (Ex.at hJ_5 rfl (show [vI 1] = [vI (if 999 < ((M.1 5 k1 7) + (M.1 34 0 (((M.1 5 k1 6) * 8) + x2).toNat)) then 0 else 1 : Int)] by simp only [if_neg c_6]) rfl)

set_option maxRecDepth 4000 in
theorem xX0_goTo_0 {l : Launch} {G : Gt} {d : Nat} {M M' : Mem} {r : Option Vl} {k1 : Nat} {x2 : Int} (hS : Sh M.2.1) (h : 
    (InR ((M.1 5 k1 6) * 8) ∧ InR (((M.1 5 k1 6) * 8) + x2) ∧ (0 ≤ (((M.1 5 k1 6) * 8) + x2) ∧ (((M.1 5 k1 6) * 8) + x2) < 64) ∧ InR ((M.1 5 k1 7) + (M.1 34 0 (((M.1 5 k1 6) * 8) + x2).toNat)) ∧ (0 ≤ x2 ∧ x2 < 32) ∧ InR ((M.1 5 k1 10) + 1)) ∧ r = none ∧ M' = ((upI (upI (upI (upI M.1 5 k1 7 ((M.1 5 k1 7) + (M.1 34 0 (((M.1 5 k1 6) * 8) + x2).toNat))) 5 k1 6 x2) 5 k1 9 (aOr (M.1 5 k1 9) (aShl 1 x2))) 5 k1 10 ((M.1 5 k1 10) + 1)), M.2.1, M.2.2)) : Cl l G d mX0_goTo [vR (some (9, 0)), vR (some (5, k1)), vI x2] M r M' := by
  show Ex l G d mX0_goTo 0 [some (vR (some (9, 0))), some (vR (some (5, k1))), some (vI x2)] [] M r M'
  obtain ⟨⟨o_1, o_2, o_3, o_4, o_5, o_6⟩, h⟩ := h
  refine r_aload_n 1 dX0_goTo_0 rfl rfl ?_
  refine r_dup 2 dX0_goTo_1 rfl rfl ?_
  refine g_I 5 dX0_goTo_2 rfl rfl rfl fi_0_113 rfl ?_
  refine r_aload_n 6 dX0_goTo_5 rfl rfl ?_
  refine g_R 9 dX0_goTo_6 rfl rfl rfl fr_0_15 (sh_0_0 hS) ?_
  refine g_R 12 dX0_goTo_9 rfl rfl rfl fr_0_134 (sh_8_3 hS _) ?_
  refine r_aload_n 13 dX0_goTo_12 rfl rfl ?_
  refine g_I 16 dX0_goTo_13 rfl rfl rfl fi_0_116 rfl ?_
  refine r_bipush 18 dX0_goTo_16 rfl rfl ?_
  refine r_imul 19 dX0_goTo_18 rfl o_1 ?_
  refine r_iload_n 20 dX0_goTo_19 rfl rfl ?_
  refine r_iadd 21 dX0_goTo_20 rfl o_2 ?_
  refine a_I 64 22 dX0_goTo_21 rfl rfl rfl rfl o_3 rfl ?_
  refine r_iadd 23 dX0_goTo_22 rfl o_4 ?_
  refine p_I 26 dX0_goTo_23 rfl rfl rfl rfl pf_0_113 (.inl rfl) rfl ?_
  refine r_aload_n 27 dX0_goTo_26 rfl rfl ?_
  refine r_iload_n 28 dX0_goTo_27 rfl rfl ?_
  refine p_I 31 dX0_goTo_28 rfl rfl rfl rfl pf_0_116 (.inl rfl) rfl ?_
  refine r_aload_n 32 dX0_goTo_31 rfl rfl ?_
  refine r_dup 33 dX0_goTo_32 rfl rfl ?_
  refine g_I 36 dX0_goTo_33 rfl rfl rfl fi_0_137 (mI_0 ((upI_i (by decide)).trans (upI_i (by decide)))) ?_
  refine r_iconst 37 dX0_goTo_36 rfl (InR_of rfl) ?_
  refine r_iload_n 38 dX0_goTo_37 rfl rfl ?_
  refine r_ishl 39 dX0_goTo_38 rfl o_5 ?_
  refine r_ior 40 dX0_goTo_39 rfl ?_
  refine p_I 43 dX0_goTo_40 rfl rfl rfl rfl pf_0_137 (.inl rfl) rfl ?_
  refine r_aload_n 44 dX0_goTo_43 rfl rfl ?_
  refine r_dup 45 dX0_goTo_44 rfl rfl ?_
  refine g_I 48 dX0_goTo_45 rfl rfl rfl fi_0_140 (mI_0 ((upI_i (by decide)).trans ((upI_i (by decide)).trans (upI_i (by decide))))) ?_
  refine r_iconst 49 dX0_goTo_48 rfl (InR_of rfl) ?_
  refine r_iadd 50 dX0_goTo_49 rfl o_6 ?_
  refine p_I 53 dX0_goTo_50 rfl rfl rfl rfl pf_0_140 (.inl rfl) rfl ?_
  exact r_vret dX0_goTo_53 rfl h.1 h.2

set_option maxRecDepth 4000 in
theorem xX0_goToEnd_0 {l : Launch} {G : Gt} {d : Nat} {M M' : Mem} {r : Option Vl} {k1 : Nat} (h : 
    Ex l G (d + 1) mX0_goToEnd 2 [some (vR (some (9, 0))), some (vR (some (5, k1))), some (vI 0), none] [] M r M') : Cl l G (d + 1) mX0_goToEnd [vR (some (9, 0)), vR (some (5, k1))] M r M' := by
  show Ex l G (d + 1) mX0_goToEnd 0 [some (vR (some (9, 0))), some (vR (some (5, k1))), none, none] [] M r M'
  refine r_iconst 1 dX0_goToEnd_0 rfl (InR_of rfl) ?_
  refine r_istore_n (ls' := [some (vR (some (9, 0))), some (vR (some (5, k1))), some (vI 0), none]) 2 dX0_goToEnd_1 rfl rfl rfl rfl ?_
  exact h
set_option maxRecDepth 4000 in
theorem xX0_goToEnd_2 {l : Launch} {G : Gt} {d : Nat} {M M' : Mem} {r : Option Vl} {k1 : Nat} {x2 : Int} (h : 
    (100 ≤ x2 → r = none ∧ M' = M) ∧ (¬ (100 ≤ x2) → ∃ (r_3 : Int) (M_1 : Mem), Cl l G d mX0_askOn [vR (some (9, 0)), vR (some (5, k1))] M (some (vI r_3)) M_1 ∧ ((r_3 = (-1) → r = none ∧ M' = M_1) ∧ (¬ (r_3 = (-1)) → ∃ (r_6 : Int) (M_4 : Mem), Cl l G d mX0_comesInTime [vR (some (9, 0)), vR (some (5, k1)), vI r_3] M_1 (some (vI r_6)) M_4 ∧ ((¬ (r_6 = 0) → ∃ (M_7 : Mem), Cl l G d mX0_goTo [vR (some (9, 0)), vR (some (5, k1)), vI r_3] M_4 none M_7 ∧ (InR (x2 + 1)) ∧ Ex l G (d + 1) mX0_goToEnd 2 [some (vR (some (9, 0))), some (vR (some (5, k1))), some (vI (x2 + 1)), none] [] M_7 r M') ∧ (r_6 = 0 → r = none ∧ M' = M_4)))))) : Ex l G (d + 1) mX0_goToEnd 2 [some (vR (some (9, 0))), some (vR (some (5, k1))), some (vI x2), none] [] M r M' := by
  refine r_iload_n 3 dX0_goToEnd_2 rfl rfl ?_
  refine r_bipush 5 dX0_goToEnd_3 rfl rfl ?_
  refine r_icmp_ge 8 41 dX0_goToEnd_5 rfl rfl (fun c => ?_) (fun c => ?_)
  · have h := h.1 (c)
    exact r_vret dX0_goToEnd_41 rfl h.1 h.2
  · have h := h.2 (c)
    refine r_aload_n 9 dX0_goToEnd_8 rfl rfl ?_
    refine r_aload_n 10 dX0_goToEnd_9 rfl rfl ?_
    obtain ⟨r_3, M_1, hc_2, h⟩ := h
    refine v_1 (ci := 0) (C := (RX0, TX0, 13)) [vR (some (5, k1))] [] 13 dX0_goToEnd_10 rfl rfl rfl rfl rfl mo_X0_askOn ml_0_153 rfl rfl hc_2 ?_
    refine r_istore_n (ls' := [some (vR (some (9, 0))), some (vR (some (5, k1))), some (vI x2), some (vI r_3)]) 14 dX0_goToEnd_13 rfl rfl rfl rfl ?_
    refine r_iload_n 15 dX0_goToEnd_14 rfl rfl ?_
    refine r_iconst 16 dX0_goToEnd_15 rfl (InR_of rfl) ?_
    refine r_icmp_eq 19 28 dX0_goToEnd_16 rfl rfl (fun c => ?_) (fun c => ?_)
    · have h := h.1 (c)
      exact r_vret dX0_goToEnd_28 rfl h.1 h.2
    · have h := h.2 (c)
      refine r_aload_n 20 dX0_goToEnd_19 rfl rfl ?_
      refine r_aload_n 21 dX0_goToEnd_20 rfl rfl ?_
      refine r_iload_n 22 dX0_goToEnd_21 rfl rfl ?_
      obtain ⟨r_6, M_4, hc_5, h⟩ := h
      refine v_1 (ci := 0) (C := (RX0, TX0, 13)) [vR (some (5, k1)), vI r_3] [] 25 dX0_goToEnd_22 rfl rfl rfl rfl rfl mo_X0_comesInTime ml_0_160 rfl rfl hc_5 ?_
      refine r_if_ne 28 29 dX0_goToEnd_25 rfl rfl (fun c => ?_) (fun c => ?_)
      · have h := h.1 (c)
        refine r_aload_n 30 dX0_goToEnd_29 rfl rfl ?_
        refine r_aload_n 31 dX0_goToEnd_30 rfl rfl ?_
        refine r_iload_n 32 dX0_goToEnd_31 rfl rfl ?_
        obtain ⟨M_7, hc_8, h⟩ := h
        refine v_0 (ci := 0) (C := (RX0, TX0, 13)) [vR (some (5, k1)), vI r_3] [] 35 dX0_goToEnd_32 rfl rfl rfl rfl rfl mo_X0_goTo ml_0_156 rfl rfl hc_8 ?_
        obtain ⟨o_9, h⟩ := h
        refine r_iinc (ls' := [some (vR (some (9, 0))), some (vR (some (5, k1))), some (vI (x2 + 1)), some (vI r_3)]) 38 dX0_goToEnd_35 rfl rfl rfl rfl o_9 rfl ?_
        refine r_goto 2 dX0_goToEnd_38 rfl ?_
        exact Ex.weak h ⟨rfl, rfl, rfl, trivial⟩
      · have h := h.2 (Decidable.not_not.mp c)
        exact r_vret dX0_goToEnd_28 rfl h.1 h.2

/-- what becomes of a letter at a place: 1 opened by, 0 goes on to, 2 sent back -/
def stp (Q : QT) (cv s : Nat) (sent day : Int) (place : Nat) (w : Nat → Bool) : Int × Int := match ask1 Q cv s sent day place with
  | some (_, h, x) => if h = 0 then (1, x) else (0, x)
  | none => if unsF Q place w 8 = -1 then (2, -1) else (0, unsF Q place w 8)
def lw (L : Nat → Int) : Nat → Bool := fun i => tb (L 9) (i : Int)
def stpL (Q : QT) (cv : Nat) (L : Nat → Int) : Int × Int := stp Q cv (L 1).toNat (L 4) (L 7) (L 6).toNat (lw L)
def akL (Q : QT) (cv : Nat) (L : Nat → Int) : Nat → Bool := akd1 Q cv (L 1).toNat (L 4) (L 7) (L 6).toNat
def askL (x : Int × Int) (ak : Int) (L : Nat → Int) : Nat → Int := fun i => if i = 11 then aOr (L 11) ak else if i = 5 then (if x.1 = 0 then L 5 else x.1) else if i = 8 then (if x.1 = 1 then x.2 else L 8) else L i
def goL (Q : QT) (to : Int) (L : Nat → Int) : Nat → Int := fun i => if i = 7 then L 7 + rd Q (L 6) to else if i = 6 then to else if i = 9 then aOr (L 9) (aShl 1 to) else if i = 10 then L 10 + 1 else L i
def toL (x : Int × Int) : Int := if x.1 = 0 then x.2 else -1
def endL (Q : QT) (cv : Nat) : Nat → (Nat → Int) → (Nat → Int)
  | 0, L => L
  | n + 1, L => if (stpL Q cv L).1 = 0 ∧ L 7 + rd Q (L 6) (stpL Q cv L).2 ≤ 999 then endL Q cv n (goL Q (stpL Q cv L).2 (askL (stpL Q cv L) (bI 12 (akL Q cv L)) L)) else askL (stpL Q cv L) (bI 12 (akL Q cv L)) L
def WL (Q : QT) (L : Nat → Int) : Prop := (0 ≤ L 1 ∧ L 1 < nPp Q) ∧ (0 ≤ L 6 ∧ L 6 < 8) ∧ L 9 = bI 8 (lw L) ∧ (0 ≤ L 7 ∧ L 7 ≤ 2000) ∧ (0 ≤ L 10 ∧ L 10 ≤ L 7)
theorem stp_or {Q : QT} (hq : WFQ Q) (cv s : Nat) (sent day : Int) (place : Nat) (w : Nat → Bool) : ((stp Q cv s sent day place w).1 = 1 ∧ ∃ v : Nat, v < nPp Q ∧ (stp Q cv s sent day place w).2 = (v : Int)) ∨ ((stp Q cv s sent day place w).1 = 2 ∧ (stp Q cv s sent day place w).2 = -1) ∨ ((stp Q cv s sent day place w).1 = 0 ∧ ∃ v : Nat, v < 8 ∧ (stp Q cv s sent day place w).2 = (v : Int) ∧ 1 ≤ rd Q place v) := by
  have hrp : ∀ v : Nat, ¬ rd Q place v = 0 → 1 ≤ rd Q place v := fun v h => by have := rd_in hq.2.1 (place : Int) (v : Int); omega
  unfold stp
  rcases ask1_or (cv := cv) (s := s) (place := place) (sent := sent) (day := day) hq with e | ⟨r, h, x, e, _, ⟨rfl, v, h1, h2⟩ | ⟨rfl, v, h1, h2, h3⟩⟩
  · rw [e]
    dsimp only
    rcases unsF_or Q place w 8 with u | ⟨v, u1, u2, u3⟩
    · rw [if_pos u]; exact .inr (.inl ⟨rfl, rfl⟩)
    · rw [if_neg (by omega), u2]; exact .inr (.inr ⟨rfl, v, u1, rfl, hrp v u3⟩)
  · rw [e]
    exact .inl ⟨rfl, v, h1, h2⟩
  · rw [e]
    exact .inr (.inr ⟨rfl, v, h1, h2, hrp v h3⟩)
theorem stpL_or {Q : QT} (hq : WFQ Q) {cv : Nat} {L : Nat → Int} (hL : WL Q L) : ((stpL Q cv L).1 = 1 ∧ ∃ v : Nat, v < nPp Q ∧ (stpL Q cv L).2 = (v : Int)) ∨ ((stpL Q cv L).1 = 2 ∧ (stpL Q cv L).2 = -1) ∨ ((stpL Q cv L).1 = 0 ∧ ∃ v : Nat, v < 8 ∧ (stpL Q cv L).2 = (v : Int) ∧ 1 ≤ rd Q (L 6) v) := by
  have := stp_or hq cv (L 1).toNat (L 4) (L 7) (L 6).toNat (lw L)
  rw [show (((L 6).toNat : Nat) : Int) = L 6 by have := hL.2.1; omega] at this
  exact this
theorem WL.ask {Q : QT} {L : Nat → Int} (h : WL Q L) (x : Int × Int) (ak : Int) : WL Q (askL x ak L) := h
theorem lw_or {L : Nat → Int} {v : Nat} (h : L 9 = bI 8 (lw L)) (hv : v < 8) : aOr (L 9) (aShl 1 (v : Int)) = bI 8 (fun i => lw L i || decide (i = v)) := by
  rw [h, bI_one (n := 8) (s := v) (by omega) hv, bI_or (by omega)]
theorem WL.go {Q : QT} {L : Nat → Int} {v : Nat} (hq : WFQ Q) (h : WL Q L) (hv : v < 8) (h1 : 1 ≤ rd Q (L 6) v) (h9 : L 7 ≤ 1990) : WL Q (goL Q (v : Int) L) := by
  have hr := rd_in hq.2.1 (L 6) (v : Int)
  refine ⟨h.1, ?_, ?_, ?_, ?_⟩
  · show 0 ≤ (v : Int) ∧ (v : Int) < 8; omega
  · show aOr (L 9) (aShl 1 (v : Int)) = bI 8 (fun i => tb (aOr (L 9) (aShl 1 (v : Int))) (i : Int))
    rw [lw_or h.2.2.1 hv]
    refine bI_ext fun i hi => ?_
    rw [tb_bI (by omega)]
    simp [hi]
  · show 0 ≤ L 7 + rd Q (L 6) v ∧ L 7 + rd Q (L 6) v ≤ 2000
    have := h.2.2.2.1
    omega
  · show 0 ≤ L 10 + 1 ∧ L 10 + 1 ≤ L 7 + rd Q (L 6) v
    have := h.2.2.2.2
    omega
section LT
variable {l : Launch} {G : Gt} {d : Nat} {Q : QT} {M : Mem}
theorem let_up {I : IM} {k1 : Nat} {g : Nat → Int} (f k i : Nat) (hn : ¬ scL k1 f k i) : seI I 5 k1 g f k i = I f k i := by
  rw [seI_o (fun e => hn (.inr e))]
theorem RelB.lt {k1 : Nat} {g : Nat → Int} (h : RelB Q M) : RelB Q (seI M.1 5 k1 g, M.2.1, M.2.2) := by
  refine ⟨h.1.I fun f k i hr => ?_, ⟨fun a b ha hb => ?_, fun a b ha hb => ?_⟩, fun a b ha hb => ?_⟩
  · rw [seI_fam (by unfold relF at hr; omega)]
  · dsimp only; rw [seI_fam (by omega)]; exact h.2.1.1 a b ha hb
  · dsimp only; rw [seI_fam (by omega)]; exact h.2.1.2 a b ha hb
  · dsimp only; rw [seI_fam (by omega)]; exact h.2.2 a b ha hb
theorem KX0_askOn {k1 cv : Nat} {L : Nat → Int} (hR : RelB Q M) (hq : WFQ Q) (hT : M.2.1 5 k1 0 = some (13, cv)) (hcv : cv < nCv Q) (hM : M.1 5 k1 = L) (hL : WL Q L) : ∃ M', Cl l G (d + 4) mX0_askOn [vR (some (9, 0)), vR (some (5, k1))] M (some (vI (toL (stpL Q cv L)))) M' ∧ RelB Q M' ∧ frG (scL k1) M M' ∧ M'.1 5 k1 = askL (stpL Q cv L) (bI 12 (akL Q cv L)) L := by
  have h12 := nPp_le hq.1
  have g1 := hL.1
  have g6 := hL.2.1
  obtain ⟨M3, c3, R3, f3, a3, k3⟩ := KX0_ask (l := l) (G := G) (d := d) (cv := cv) (s := (L 1).toNat) (sent := L 4) (day := L 7) (place := (L 6).toNat) hR hq hcv (by omega) (by omega)
  rw [show (((L 1).toNat : Nat) : Int) = L 1 by omega, show (((L 6).toNat : Nat) : Int) = L 6 by omega] at c3
  have eM : M3.1 5 k1 = L := by rw [← hM]; funext i; exact f3.1 _ _ _ (by unfold scK scA; omega)
  have fL : frG (scL k1) M M3 := f3.mo fun _ _ _ => scK.l
  have fin : ∀ g : Nat → Int, (∀ j, g j = askL (stpL Q cv L) (bI 12 (akL Q cv L)) L j) → RelB Q (seI M3.1 5 k1 g, M3.2.1, M3.2.2) ∧ frG (scL k1) M (seI M3.1 5 k1 g, M3.2.1, M3.2.2) ∧ (seI M3.1 5 k1 g) 5 k1 = askL (stpL Q cv L) (bI 12 (akL Q cv L)) L := fun g hg => ⟨R3.lt, fL.tr (frG.I let_up), seI_s.trans (funext hg)⟩
  have eA : ∀ {v : Int}, upI M3.1 5 k1 11 v = seI M3.1 5 k1 (fun j => if j = 11 then v else L j) := fun {v} => by rw [upI_eq, eM]
  have eA11 : M3.1 5 k1 11 = L 11 := by rw [eM]
  rcases ask1_or (cv := cv) (s := (L 1).toNat) (place := (L 6).toNat) (sent := L 4) (day := L 7) hq with e | ⟨r, h, x, e, _, ⟨rfl, v, h1, rfl⟩ | ⟨rfl, v, h1, rfl, h3⟩⟩
  · rw [e] at a3
    obtain ⟨q1, q2, q3⟩ := a3
    have eS : stpL Q cv L = if unsF Q (L 6).toNat (lw L) 8 = -1 then (2, -1) else (0, unsF Q (L 6).toNat (lw L) 8) := by unfold stpL stp; rw [e]
    have nn := KX0_nearestNew (l := l) (G := G) (d := d + 2) (M := (seI M3.1 5 k1 (fun j => if j = 11 then aOr (L 11) (bI 12 (akL Q cv L)) else L j), M3.2.1, M3.2.2)) (k1 := k1) (a := (L 6).toNat) (w := lw L) R3.1.1 hq.2.1 (R3.lt (k1 := k1)).2.2 (by omega) (by dsimp only; rw [seI_s]; show L 6 = _; omega) (by dsimp only; rw [seI_s]; exact hL.2.2.1)
    by_cases u : unsF Q (L 6).toNat (lw L) 8 = -1
    · rw [if_pos u] at eS
      refine ⟨_, xX0_askOn_0 ⟨fun _ => ⟨cv, hT, M3, by rw [hM]; exact c3, fun _ => ⟨fun _ => ⟨_, _, by rw [eA, k3, eA11]; exact nn, fun c => absurd u c, fun _ => ⟨by rw [eS, u]; rfl, rfl⟩⟩, fun c => by omega⟩, fun c => by omega⟩, fun c => absurd c (by rw [hT]; simp)⟩, ?_⟩
      dsimp only
      rw [upI_seI]
      exact fin _ fun j => by rw [eS]; unfold askL; dsimp only; ((repeat' split) <;> first | rfl | (exfalso; omega) | (congr 1; omega) | congr 1)
    · rw [if_neg u] at eS
      refine ⟨_, xX0_askOn_0 ⟨fun _ => ⟨cv, hT, M3, by rw [hM]; exact c3, fun _ => ⟨fun _ => ⟨_, _, by rw [eA, k3, eA11]; exact nn, fun _ => ⟨by rw [eS]; rfl, rfl⟩, fun c => absurd c u⟩, fun c => by omega⟩, fun c => by omega⟩, fun c => absurd c (by rw [hT]; simp)⟩, ?_⟩
      exact fin _ fun j => by rw [eS]; unfold askL; dsimp only; ((repeat' split) <;> first | rfl | (exfalso; omega) | (congr 1; omega) | congr 1)
  · rw [e] at a3
    obtain ⟨q1, q2, q3⟩ := a3
    have eS : stpL Q cv L = (1, (v : Int)) := by unfold stpL stp; rw [e]; rfl
    refine ⟨_, xX0_askOn_0 ⟨fun _ => ⟨cv, hT, M3, by rw [hM]; exact c3, fun c => absurd q1 c, fun _ => ⟨by rw [eS]; rfl, by rw [eA, k3, eA11, upI_seI, upI_seI, q2]⟩⟩, fun c => absurd c (by rw [hT]; simp)⟩, ?_⟩
    exact fin _ fun j => by rw [eS]; unfold askL; dsimp only; ((repeat' split) <;> first | rfl | (exfalso; omega) | (congr 1; omega) | congr 1)
  · rw [e] at a3
    obtain ⟨q1, q2, q3⟩ := a3
    have eS : stpL Q cv L = (0, (v : Int)) := by unfold stpL stp; rw [e]; rfl
    refine ⟨_, xX0_askOn_0 ⟨fun _ => ⟨cv, hT, M3, by rw [hM]; exact c3, fun _ => ⟨fun c => absurd q1 c, fun _ => ⟨fun _ => ⟨by rw [eS, q2]; rfl, by rw [eA, k3, eA11]⟩, fun c => by omega⟩⟩, fun c => by omega⟩, fun c => absurd c (by rw [hT]; simp)⟩, ?_⟩
    exact fin _ fun j => by rw [eS]; unfold askL; dsimp only; ((repeat' split) <;> first | rfl | (exfalso; omega) | (congr 1; omega) | congr 1)
theorem KX0_comesInTime {k1 v : Nat} {L : Nat → Int} (hR : RelB Q M) (hq : WFQ Q) (hM : M.1 5 k1 = L) (hL : WL Q L) (hv : v < 8) : Cl l G d mX0_comesInTime [vR (some (9, 0)), vR (some (5, k1)), vI (v : Int)] M (some (vI (if 999 < L 7 + rd Q (L 6) v then 0 else 1))) M := by
  have g6 := hL.2.1
  have g7 := hL.2.2.2.1
  have hr := rd_in hq.2.1 (L 6) (v : Int)
  have er : M.1 34 0 (L 6 * 8 + (v : Int)).toNat = rd Q (L 6) v := by
    have := hR.2.2 (L 6).toNat v (by omega) hv
    rw [show (((L 6).toNat : Nat) : Int) = L 6 by omega] at this
    rw [show (L 6 * 8 + (v : Int)).toNat = 8 * (L 6).toNat + v by omega]
    exact this
  refine xX0_comesInTime_0 hR.1.1 ?_
  rw [hM, er]
  exact ⟨⟨by unfold InR; omega, by unfold InR; omega, by omega, by unfold InR; omega⟩, by split <;> omega, rfl, rfl⟩
theorem KX0_goTo {k1 v : Nat} {L : Nat → Int} (hR : RelB Q M) (hq : WFQ Q) (hM : M.1 5 k1 = L) (hL : WL Q L) (hv : v < 8) : ∃ M', Cl l G d mX0_goTo [vR (some (9, 0)), vR (some (5, k1)), vI (v : Int)] M none M' ∧ RelB Q M' ∧ frG (scL k1) M M' ∧ M'.1 5 k1 = goL Q (v : Int) L ∧ M'.2 = M.2 := by
  have g6 := hL.2.1
  have g7 := hL.2.2.2.1
  have g10 := hL.2.2.2.2
  have hr := rd_in hq.2.1 (L 6) (v : Int)
  have er : M.1 34 0 (L 6 * 8 + (v : Int)).toNat = rd Q (L 6) v := by
    have := hR.2.2 (L 6).toNat v (by omega) hv
    rw [show (((L 6).toNat : Nat) : Int) = L 6 by omega] at this
    rw [show (L 6 * 8 + (v : Int)).toNat = 8 * (L 6).toNat + v by omega]
    exact this
  refine ⟨(seI M.1 5 k1 (goL Q (v : Int) L), M.2.1, M.2.2), xX0_goTo_0 hR.1.1 ?_, hR.lt, frG.I let_up, by dsimp only; rw [seI_s], rfl⟩
  rw [hM, er]
  refine ⟨⟨by unfold InR; omega, by unfold InR; omega, by omega, by unfold InR; omega, by omega, by unfold InR; omega⟩, rfl, ?_⟩
  rw [upI_eq (I := M.1), upI_seI, upI_seI, upI_seI, hM]
  refine congrArg (fun x => (x, M.2.1, M.2.2)) (congrArg (seI M.1 5 k1) (funext fun j => ?_))
  unfold goL
  ((repeat' split) <;> first | rfl | (exfalso; omega) | (congr 1; omega) | congr 1)
theorem goEnd_2 {k1 cv : Nat} (hq : WFQ Q) (hcv : cv < nCv Q) : ∀ n : Nat, n ≤ 100 → ∀ (M : Mem) (L : Nat → Int), RelB Q M → M.2.1 5 k1 0 = some (13, cv) → M.1 5 k1 = L → WL Q L → L 7 ≤ 999 → ∃ M', Ex l G (d + 5) mX0_goToEnd 2 [some (vR (some (9, 0))), some (vR (some (5, k1))), some (vI (100 - n : Int)), none] [] M none M' ∧ RelB Q M' ∧ frG (scL k1) M M' ∧ M'.1 5 k1 = endL Q cv n L := by
  intro n
  induction n with
  | zero =>
    intro _ M L hR hT hM hL h9
    exact ⟨M, xX0_goToEnd_2 ⟨fun _ => ⟨rfl, rfl⟩, fun c => absurd (by omega) c⟩, hR, frG.rf, hM⟩
  | succ n ih =>
    intro hn M L hR hT hM hL h9
    obtain ⟨M1, c1, R1, f1, e1⟩ := KX0_askOn (l := l) (G := G) (d := d) hR hq hT hcv hM hL
    have eE : endL Q cv (n + 1) L = if (stpL Q cv L).1 = 0 ∧ L 7 + rd Q (L 6) (stpL Q cv L).2 ≤ 999 then endL Q cv n (goL Q (stpL Q cv L).2 (askL (stpL Q cv L) (bI 12 (akL Q cv L)) L)) else askL (stpL Q cv L) (bI 12 (akL Q cv L)) L := rfl
    rcases stpL_or (cv := cv) hq hL with ⟨s1, v, s2, s3⟩ | ⟨s1, s2⟩ | ⟨s1, v, s2, s3, s4⟩
    · have et : toL (stpL Q cv L) = -1 := by unfold toL; rw [if_neg (by omega)]
      rw [et] at c1
      refine ⟨M1, xX0_goToEnd_2 ⟨fun c => by omega, fun _ => ⟨_, M1, c1, fun _ => ⟨rfl, rfl⟩, fun c => absurd rfl c⟩⟩, R1, f1, ?_⟩
      rw [eE, if_neg (by omega)]; exact e1
    · have et : toL (stpL Q cv L) = -1 := by unfold toL; rw [if_neg (by omega)]
      rw [et] at c1
      refine ⟨M1, xX0_goToEnd_2 ⟨fun c => by omega, fun _ => ⟨_, M1, c1, fun _ => ⟨rfl, rfl⟩, fun c => absurd rfl c⟩⟩, R1, f1, ?_⟩
      rw [eE, if_neg (by omega)]; exact e1
    · have et : toL (stpL Q cv L) = (v : Int) := by unfold toL; rw [if_pos s1, s3]
      rw [et] at c1
      have hLa := hL.ask (stpL Q cv L) (bI 12 (akL Q cv L))
      have k2 := KX0_comesInTime (l := l) (G := G) (d := d + 4) (v := v) R1 hq e1 hLa s2
      have e7 : askL (stpL Q cv L) (bI 12 (akL Q cv L)) L 7 = L 7 := rfl
      have e6 : askL (stpL Q cv L) (bI 12 (akL Q cv L)) L 6 = L 6 := rfl
      rw [e7, e6] at k2
      by_cases c : 999 < L 7 + rd Q (L 6) v
      · rw [if_pos c] at k2
        refine ⟨M1, xX0_goToEnd_2 ⟨fun c => by omega, fun _ => ⟨_, M1, c1, fun c => by omega, fun _ => ⟨_, M1, k2, fun c => absurd rfl c, fun _ => ⟨rfl, rfl⟩⟩⟩⟩, R1, f1, ?_⟩
        rw [eE, if_neg (by rw [s3]; omega)]; exact e1
      · rw [if_neg c] at k2
        obtain ⟨M7, c7, R7, f7, e7', r7⟩ := KX0_goTo (l := l) (G := G) (d := d + 4) (v := v) R1 hq e1 hLa s2
        have hT7 : M7.2.1 5 k1 0 = some (13, cv) := by rw [r7, f1.2.1 _ _ _ (by omega)]; exact hT
        obtain ⟨M', x1, x2, x3, x4⟩ := ih (by omega) M7 _ R7 hT7 e7' (hLa.go hq s2 s4 (by show L 7 ≤ 1990; omega)) (by show L 7 + rd Q (L 6) v ≤ 999; omega)
        refine ⟨M', xX0_goToEnd_2 ⟨fun c => by omega, fun _ => ⟨_, M1, c1, fun c => by omega, fun _ => ⟨_, M1, k2, fun _ => ⟨M7, c7, by unfold InR; omega, ?_⟩, fun c => by omega⟩⟩⟩, x2, (f1.tr f7).tr x3, ?_⟩
        · rw [show (100 - ((n + 1 : Nat) : Int) + 1) = 100 - (n : Int) by omega]
          exact x1
        · rw [eE, if_pos ⟨s1, by rw [s3]; omega⟩, s3]; exact x4
theorem KX0_goToEnd {k1 cv : Nat} {L : Nat → Int} (hR : RelB Q M) (hq : WFQ Q) (hT : M.2.1 5 k1 0 = some (13, cv)) (hcv : cv < nCv Q) (hM : M.1 5 k1 = L) (hL : WL Q L) (h9 : L 7 ≤ 999) : ∃ M', Cl l G (d + 5) mX0_goToEnd [vR (some (9, 0)), vR (some (5, k1))] M none M' ∧ RelB Q M' ∧ frG (scL k1) M M' ∧ M'.1 5 k1 = endL Q cv 100 L := by
  obtain ⟨M', h1, h2⟩ := goEnd_2 (l := l) (G := G) (d := d) (k1 := k1) hq hcv 100 (by omega) M L hR hT hM hL h9
  exact ⟨M', xX0_goToEnd_0 h1, h2⟩
end LT
