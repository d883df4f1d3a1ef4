/-! image, back: the reference -/
set_option maxRecDepth 4000 in
theorem xX12_carry_0 {l : Launch} {G : Gt} {d : Nat} {M M' : Mem} {r : Option Vl} {f1 : Nat} {k1 : Nat} (hf_f1 : fK f1 = 1) (h2_f1 : 2 ≤ f1) (h : 
    Ex l G d mX12_carry 2 [some (vR (some (3, 0))), some (vR (some (f1, k1))), some (vI 0)] [] M r M') : Cl l G d mX12_carry [vR (some (3, 0)), vR (some (f1, k1))] M r M' := by
  show Ex l G d mX12_carry 0 [some (vR (some (3, 0))), some (vR (some (f1, k1))), none] [] M r M'
  refine r_iconst 1 dX12_carry_0 rfl (InR_of rfl) ?_
  refine r_istore_n (ls' := [some (vR (some (3, 0))), some (vR (some (f1, k1))), some (vI 0)]) 2 dX12_carry_1 rfl rfl rfl rfl ?_
  exact h
set_option maxRecDepth 4000 in
theorem xX12_carry_2 {l : Launch} {G : Gt} {d : Nat} {M M' : Mem} {r : Option Vl} {k1 : Nat} {x2 : Int} {f1 : Nat} (hf_f1 : fK f1 = 1) (h2_f1 : 2 ≤ f1) (hS : Sh M.2.1) (h : 
    (InR (aLen M.2.2 f1 k1 : Int)) ∧ (((aLen M.2.2 f1 k1 : Int) ≤ x2 → r = none ∧ M' = M) ∧ (¬ ((aLen M.2.2 f1 k1 : Int) ≤ x2) → ((M.1 3 0 67) = 0 → ((0 ≤ x2 ∧ x2 < (aLen M.2.2 f1 k1 : Int)) ∧ (0 ≤ (M.1 3 0 66) ∧ (M.1 3 0 66) < 2280) ∧ InR ((M.1 3 0 66) + 1) ∧ InR (x2 + 1)) ∧ Ex l G d mX12_carry 2 [some (vR (some (3, 0))), some (vR (some (f1, k1))), some (vI (x2 + 1))] [] ((upI (upI M.1 90 0 (M.1 3 0 66).toNat (M.1 f1 k1 x2.toNat)) 3 0 66 ((M.1 3 0 66) + 1)), M.2.1, M.2.2) r M') ∧ (¬ ((M.1 3 0 67) = 0) → ((0 ≤ (M.1 3 0 66) ∧ (M.1 3 0 66) < 2280) ∧ (0 ≤ x2 ∧ x2 < (aLen M.2.2 f1 k1 : Int)) ∧ InR (((upI M.1 f1 k1 x2.toNat (M.1 90 0 (M.1 3 0 66).toNat)) 3 0 66) + 1) ∧ InR (x2 + 1)) ∧ Ex l G d mX12_carry 2 [some (vR (some (3, 0))), some (vR (some (f1, k1))), some (vI (x2 + 1))] [] ((upI (upI M.1 f1 k1 x2.toNat (M.1 90 0 (M.1 3 0 66).toNat)) 3 0 66 (((upI M.1 f1 k1 x2.toNat (M.1 90 0 (M.1 3 0 66).toNat)) 3 0 66) + 1)), M.2.1, M.2.2) r M')))) : Ex l G d mX12_carry 2 [some (vR (some (3, 0))), some (vR (some (f1, k1))), some (vI x2)] [] M r M' := by
  obtain ⟨o_1, h⟩ := h
  refine r_iload_n 3 dX12_carry_2 rfl rfl ?_
  refine r_aload_n 4 dX12_carry_3 rfl rfl ?_
  refine r_alen (v := (aLen M.2.2 f1 k1 : Int)) 5 dX12_carry_4 rfl rfl (.inl hf_f1) rfl o_1 ?_
  refine r_icmp_ge 8 58 dX12_carry_5 rfl rfl (fun c => ?_) (fun c => ?_)
  · have h := h.1 (c)
    exact r_vret dX12_carry_58 rfl h.1 h.2
  · have h := h.2 (c)
    refine r_aload_n 9 dX12_carry_8 rfl rfl ?_
    refine g_I 12 dX12_carry_9 rfl rfl rfl fi_12_455 rfl ?_
    refine r_if_eq 15 30 dX12_carry_12 rfl rfl (fun c => ?_) (fun c => ?_)
    · have h := h.1 (c)
      obtain ⟨⟨o_2, o_3, o_4, o_5⟩, h⟩ := h
      refine r_aload_n 31 dX12_carry_30 rfl rfl ?_
      refine g_R 34 dX12_carry_31 rfl rfl rfl fr_12_138 (sh_12_64 hS) ?_
      refine r_aload_n 35 dX12_carry_34 rfl rfl ?_
      refine g_I 38 dX12_carry_35 rfl rfl rfl fi_12_459 rfl ?_
      refine r_aload_n 39 dX12_carry_38 rfl rfl ?_
      refine r_iload_n 40 dX12_carry_39 rfl rfl ?_
      refine a_I (aLen M.2.2 f1 k1 : Int) 41 dX12_carry_40 rfl rfl hf_f1 rfl o_2 rfl ?_
      refine s_I 2280 42 dX12_carry_41 rfl rfl (by decide) rfl rfl o_3 ?_
      refine r_aload_n 43 dX12_carry_42 rfl rfl ?_
      refine r_dup 44 dX12_carry_43 rfl rfl ?_
      refine g_I 47 dX12_carry_44 rfl rfl rfl fi_12_459 (mI_0 (upI_f rfl)) ?_
      refine r_iconst 48 dX12_carry_47 rfl (InR_of rfl) ?_
      refine r_iadd 49 dX12_carry_48 rfl o_4 ?_
      refine p_I 52 dX12_carry_49 rfl rfl rfl rfl pf_12_459 (.inl rfl) rfl ?_
      refine r_iinc (ls' := [some (vR (some (3, 0))), some (vR (some (f1, k1))), some (vI (x2 + 1))]) 55 dX12_carry_52 rfl rfl rfl rfl o_5 rfl ?_
      refine r_goto 2 dX12_carry_55 rfl ?_
      exact h
    · have h := h.2 (c)
      obtain ⟨⟨o_6, o_7, o_8, o_9⟩, h⟩ := h
      refine r_aload_n 16 dX12_carry_15 rfl rfl ?_
      refine r_iload_n 17 dX12_carry_16 rfl rfl ?_
      refine r_aload_n 18 dX12_carry_17 rfl rfl ?_
      refine g_R 21 dX12_carry_18 rfl rfl rfl fr_12_138 (sh_12_64 hS) ?_
      refine r_aload_n 22 dX12_carry_21 rfl rfl ?_
      refine g_I 25 dX12_carry_22 rfl rfl rfl fi_12_459 rfl ?_
      refine a_I 2280 26 dX12_carry_25 rfl rfl rfl rfl o_6 rfl ?_
      refine s_I (aLen M.2.2 f1 k1 : Int) 27 dX12_carry_26 rfl rfl h2_f1 hf_f1 rfl o_7 ?_
      refine r_goto 42 dX12_carry_27 rfl ?_
      refine r_aload_n 43 dX12_carry_42 rfl rfl ?_
      refine r_dup 44 dX12_carry_43 rfl rfl ?_
      refine g_I 47 dX12_carry_44 rfl rfl rfl fi_12_459 (mI_0 rfl) ?_
      refine r_iconst 48 dX12_carry_47 rfl (InR_of rfl) ?_
      refine r_iadd 49 dX12_carry_48 rfl o_8 ?_
      refine p_I 52 dX12_carry_49 rfl rfl rfl rfl pf_12_459 (.inl rfl) rfl ?_
      refine r_iinc (ls' := [some (vR (some (3, 0))), some (vR (some (f1, k1))), some (vI (x2 + 1))]) 55 dX12_carry_52 rfl rfl rfl rfl o_9 rfl ?_
      refine r_goto 2 dX12_carry_55 rfl ?_
      exact h

set_option maxRecDepth 4000 in
theorem xX12_carriesAll_0 {l : Launch} {G : Gt} {d : Nat} {M M' : Mem} {r : Option Vl} {x1 : Int} {x2 : Int} (hS : Sh M.2.1) (h : 
    (InR (570 * x1) ∧ (x2 = 0 ∨ x2 = 1)) ∧ (∃ (M_3 : Mem), Cl l G d mX12_carry [vR (some (3, 0)), vR (some (48, 0))] ((upI (upI M.1 3 0 66 (570 * x1)) 3 0 67 x2), M.2.1, M.2.2) none M_3 ∧ Sh M_3.2.1 ∧ (∃ (M_5 : Mem), Cl l G d mX12_carry [vR (some (3, 0)), vR (some (49, 0))] M_3 none M_5 ∧ Sh M_5.2.1 ∧ (∃ (M_7 : Mem), Cl l G d mX12_carry [vR (some (3, 0)), vR (some (50, 0))] M_5 none M_7 ∧ Sh M_7.2.1 ∧ (∃ (M_9 : Mem), Cl l G d mX12_carry [vR (some (3, 0)), vR (some (51, 0))] M_7 none M_9 ∧ Sh M_9.2.1 ∧ (∃ (M_11 : Mem), Cl l G d mX12_carry [vR (some (3, 0)), vR (some (52, 0))] M_9 none M_11 ∧ Sh M_11.2.1 ∧ (∃ (M_13 : Mem), Cl l G d mX12_carry [vR (some (3, 0)), vR (some (53, 0))] M_11 none M_13 ∧ Sh M_13.2.1 ∧ (∃ (M_15 : Mem), Cl l G d mX12_carry [vR (some (3, 0)), vR (some (54, 0))] M_13 none M_15 ∧ Sh M_15.2.1 ∧ (∃ (M_17 : Mem), Cl l G d mX12_carry [vR (some (3, 0)), vR (some (55, 0))] M_15 none M_17 ∧ Sh M_17.2.1 ∧ (∃ (M_19 : Mem), Cl l G d mX12_carry [vR (some (3, 0)), vR (some (56, 0))] M_17 none M_19 ∧ Sh M_19.2.1 ∧ (∃ (M_21 : Mem), Cl l G d mX12_carry [vR (some (3, 0)), vR (some (57, 0))] M_19 none M_21 ∧ Sh M_21.2.1 ∧ (∃ (M_23 : Mem), Cl l G d mX12_carry [vR (some (3, 0)), vR (some (58, 0))] M_21 none M_23 ∧ Sh M_23.2.1 ∧ (∃ (M_25 : Mem), Cl l G d mX12_carry [vR (some (3, 0)), vR (some (59, 0))] M_23 none M_25 ∧ Sh M_25.2.1 ∧ (∃ (M_27 : Mem), Cl l G d mX12_carry [vR (some (3, 0)), vR (some (60, 0))] M_25 none M_27 ∧ Sh M_27.2.1 ∧ (∃ (M_29 : Mem), Cl l G d mX12_carry [vR (some (3, 0)), vR (some (61, 0))] M_27 none M_29 ∧ Sh M_29.2.1 ∧ (∃ (M_31 : Mem), Cl l G d mX12_carry [vR (some (3, 0)), vR (some (62, 0))] M_29 none M_31 ∧ Sh M_31.2.1 ∧ (∃ (M_33 : Mem), Cl l G d mX12_carry [vR (some (3, 0)), vR (some (63, 0))] M_31 none M_33 ∧ Sh M_33.2.1 ∧ (∃ (M_35 : Mem), Cl l G d mX12_carry [vR (some (3, 0)), vR (some (64, 0))] M_33 none M_35 ∧ Sh M_35.2.1 ∧ (∃ (M_37 : Mem), Cl l G d mX12_carry [vR (some (3, 0)), vR (some (65, 0))] M_35 none M_37 ∧ Sh M_37.2.1 ∧ (∃ (M_39 : Mem), Cl l G d mX12_carry [vR (some (3, 0)), vR (some (66, 0))] M_37 none M_39 ∧ Sh M_39.2.1 ∧ (∃ (M_41 : Mem), Cl l G d mX12_carry [vR (some (3, 0)), vR (some (67, 0))] M_39 none M_41 ∧ Sh M_41.2.1 ∧ (∃ (M_43 : Mem), Cl l G d mX12_carry [vR (some (3, 0)), vR (some (68, 0))] M_41 none M_43 ∧ Sh M_43.2.1 ∧ (∃ (M_45 : Mem), Cl l G d mX12_carry [vR (some (3, 0)), vR (some (69, 0))] M_43 none M_45 ∧ Sh M_45.2.1 ∧ (∃ (M_47 : Mem), Cl l G d mX12_carry [vR (some (3, 0)), vR (some (70, 0))] M_45 none M_47 ∧ r = none ∧ M' = M_47)))))))))))))))))))))))) : Cl l G (d + 1) mX12_carriesAll [vR (some (3, 0)), vI x1, vI x2] M r M' := by
  show Ex l G (d + 1) mX12_carriesAll 0 [some (vR (some (3, 0))), some (vI x1), some (vI x2)] [] M r M'
  obtain ⟨⟨o_1, o_2⟩, h⟩ := h
  refine r_aload_n 1 dX12_carriesAll_0 rfl rfl ?_
  refine r_sipush 4 dX12_carriesAll_1 rfl rfl ?_
  refine r_iload_n 5 dX12_carriesAll_4 rfl rfl ?_
  refine r_imul 6 dX12_carriesAll_5 rfl o_1 ?_
  refine p_I 9 dX12_carriesAll_6 rfl rfl rfl rfl pf_12_459 (.inl rfl) rfl ?_
  refine r_aload_n 10 dX12_carriesAll_9 rfl rfl ?_
  refine r_iload_n 11 dX12_carriesAll_10 rfl rfl ?_
  refine p_Z 14 dX12_carriesAll_11 rfl rfl rfl rfl pf_12_455 (.inl rfl) rfl o_2 ?_
  refine r_aload_n 15 dX12_carriesAll_14 rfl rfl ?_
  refine r_aload_n 16 dX12_carriesAll_15 rfl rfl ?_
  refine g_R 19 dX12_carriesAll_16 rfl rfl rfl fr_12_7 (mR_0 (sh_12_1 hS)) ?_
  obtain ⟨M_3, hc_4, hS, h⟩ := h
  refine v_0 (ci := 12) (C := (RX12, TX12, 68)) [vR (some (48, 0))] [] 22 dX12_carriesAll_19 rfl rfl rfl rfl rfl mo_X12_carry ml_12_462 rfl rfl hc_4 ?_
  refine r_aload_n 23 dX12_carriesAll_22 rfl rfl ?_
  refine r_aload_n 24 dX12_carriesAll_23 rfl rfl ?_
  refine g_R 27 dX12_carriesAll_24 rfl rfl rfl fr_12_13 (sh_12_2 hS) ?_
  obtain ⟨M_5, hc_6, hS, h⟩ := h
  refine v_0 (ci := 12) (C := (RX12, TX12, 68)) [vR (some (49, 0))] [] 30 dX12_carriesAll_27 rfl rfl rfl rfl rfl mo_X12_carry ml_12_462 rfl rfl hc_6 ?_
  refine r_aload_n 31 dX12_carriesAll_30 rfl rfl ?_
  refine r_aload_n 32 dX12_carriesAll_31 rfl rfl ?_
  refine g_R 35 dX12_carriesAll_32 rfl rfl rfl fr_12_16 (sh_12_3 hS) ?_
  obtain ⟨M_7, hc_8, hS, h⟩ := h
  refine v_0 (ci := 12) (C := (RX12, TX12, 68)) [vR (some (50, 0))] [] 38 dX12_carriesAll_35 rfl rfl rfl rfl rfl mo_X12_carry ml_12_462 rfl rfl hc_8 ?_
  refine r_aload_n 39 dX12_carriesAll_38 rfl rfl ?_
  refine r_aload_n 40 dX12_carriesAll_39 rfl rfl ?_
  refine g_R 43 dX12_carriesAll_40 rfl rfl rfl fr_12_19 (sh_12_4 hS) ?_
  obtain ⟨M_9, hc_10, hS, h⟩ := h
  refine v_0 (ci := 12) (C := (RX12, TX12, 68)) [vR (some (51, 0))] [] 46 dX12_carriesAll_43 rfl rfl rfl rfl rfl mo_X12_carry ml_12_462 rfl rfl hc_10 ?_
  refine r_aload_n 47 dX12_carriesAll_46 rfl rfl ?_
  refine r_aload_n 48 dX12_carriesAll_47 rfl rfl ?_
  refine g_R 51 dX12_carriesAll_48 rfl rfl rfl fr_12_22 (sh_12_5 hS) ?_
  obtain ⟨M_11, hc_12, hS, h⟩ := h
  refine v_0 (ci := 12) (C := (RX12, TX12, 68)) [vR (some (52, 0))] [] 54 dX12_carriesAll_51 rfl rfl rfl rfl rfl mo_X12_carry ml_12_462 rfl rfl hc_12 ?_
  refine r_aload_n 55 dX12_carriesAll_54 rfl rfl ?_
  refine r_aload_n 56 dX12_carriesAll_55 rfl rfl ?_
  refine g_R 59 dX12_carriesAll_56 rfl rfl rfl fr_12_25 (sh_12_6 hS) ?_
  obtain ⟨M_13, hc_14, hS, h⟩ := h
  refine v_0 (ci := 12) (C := (RX12, TX12, 68)) [vR (some (53, 0))] [] 62 dX12_carriesAll_59 rfl rfl rfl rfl rfl mo_X12_carry ml_12_462 rfl rfl hc_14 ?_
  refine r_aload_n 63 dX12_carriesAll_62 rfl rfl ?_
  refine r_aload_n 64 dX12_carriesAll_63 rfl rfl ?_
  refine g_R 67 dX12_carriesAll_64 rfl rfl rfl fr_12_28 (sh_12_7 hS) ?_
  obtain ⟨M_15, hc_16, hS, h⟩ := h
  refine v_0 (ci := 12) (C := (RX12, TX12, 68)) [vR (some (54, 0))] [] 70 dX12_carriesAll_67 rfl rfl rfl rfl rfl mo_X12_carry ml_12_462 rfl rfl hc_16 ?_
  refine r_aload_n 71 dX12_carriesAll_70 rfl rfl ?_
  refine r_aload_n 72 dX12_carriesAll_71 rfl rfl ?_
  refine g_R 75 dX12_carriesAll_72 rfl rfl rfl fr_12_31 (sh_12_8 hS) ?_
  obtain ⟨M_17, hc_18, hS, h⟩ := h
  refine v_0 (ci := 12) (C := (RX12, TX12, 68)) [vR (some (55, 0))] [] 78 dX12_carriesAll_75 rfl rfl rfl rfl rfl mo_X12_carry ml_12_462 rfl rfl hc_18 ?_
  refine r_aload_n 79 dX12_carriesAll_78 rfl rfl ?_
  refine r_aload_n 80 dX12_carriesAll_79 rfl rfl ?_
  refine g_R 83 dX12_carriesAll_80 rfl rfl rfl fr_12_34 (sh_12_9 hS) ?_
  obtain ⟨M_19, hc_20, hS, h⟩ := h
  refine v_0 (ci := 12) (C := (RX12, TX12, 68)) [vR (some (56, 0))] [] 86 dX12_carriesAll_83 rfl rfl rfl rfl rfl mo_X12_carry ml_12_462 rfl rfl hc_20 ?_
  refine r_aload_n 87 dX12_carriesAll_86 rfl rfl ?_
  refine r_aload_n 88 dX12_carriesAll_87 rfl rfl ?_
  refine g_R 91 dX12_carriesAll_88 rfl rfl rfl fr_12_37 (sh_12_10 hS) ?_
  obtain ⟨M_21, hc_22, hS, h⟩ := h
  refine v_0 (ci := 12) (C := (RX12, TX12, 68)) [vR (some (57, 0))] [] 94 dX12_carriesAll_91 rfl rfl rfl rfl rfl mo_X12_carry ml_12_462 rfl rfl hc_22 ?_
  refine r_aload_n 95 dX12_carriesAll_94 rfl rfl ?_
  refine r_aload_n 96 dX12_carriesAll_95 rfl rfl ?_
  refine g_R 99 dX12_carriesAll_96 rfl rfl rfl fr_12_40 (sh_12_11 hS) ?_
  obtain ⟨M_23, hc_24, hS, h⟩ := h
  refine v_0 (ci := 12) (C := (RX12, TX12, 68)) [vR (some (58, 0))] [] 102 dX12_carriesAll_99 rfl rfl rfl rfl rfl mo_X12_carry ml_12_462 rfl rfl hc_24 ?_
  refine r_aload_n 103 dX12_carriesAll_102 rfl rfl ?_
  refine r_aload_n 104 dX12_carriesAll_103 rfl rfl ?_
  refine g_R 107 dX12_carriesAll_104 rfl rfl rfl fr_12_43 (sh_12_12 hS) ?_
  obtain ⟨M_25, hc_26, hS, h⟩ := h
  refine v_0 (ci := 12) (C := (RX12, TX12, 68)) [vR (some (59, 0))] [] 110 dX12_carriesAll_107 rfl rfl rfl rfl rfl mo_X12_carry ml_12_462 rfl rfl hc_26 ?_
  refine r_aload_n 111 dX12_carriesAll_110 rfl rfl ?_
  refine r_aload_n 112 dX12_carriesAll_111 rfl rfl ?_
  refine g_R 115 dX12_carriesAll_112 rfl rfl rfl fr_12_46 (sh_12_13 hS) ?_
  obtain ⟨M_27, hc_28, hS, h⟩ := h
  refine v_0 (ci := 12) (C := (RX12, TX12, 68)) [vR (some (60, 0))] [] 118 dX12_carriesAll_115 rfl rfl rfl rfl rfl mo_X12_carry ml_12_462 rfl rfl hc_28 ?_
  refine r_aload_n 119 dX12_carriesAll_118 rfl rfl ?_
  refine r_aload_n 120 dX12_carriesAll_119 rfl rfl ?_
  refine g_R 123 dX12_carriesAll_120 rfl rfl rfl fr_12_49 (sh_12_14 hS) ?_
  obtain ⟨M_29, hc_30, hS, h⟩ := h
  refine v_0 (ci := 12) (C := (RX12, TX12, 68)) [vR (some (61, 0))] [] 126 dX12_carriesAll_123 rfl rfl rfl rfl rfl mo_X12_carry ml_12_462 rfl rfl hc_30 ?_
  refine r_aload_n 127 dX12_carriesAll_126 rfl rfl ?_
  refine r_aload_n 128 dX12_carriesAll_127 rfl rfl ?_
  refine g_R 131 dX12_carriesAll_128 rfl rfl rfl fr_12_52 (sh_12_15 hS) ?_
  obtain ⟨M_31, hc_32, hS, h⟩ := h
  refine v_0 (ci := 12) (C := (RX12, TX12, 68)) [vR (some (62, 0))] [] 134 dX12_carriesAll_131 rfl rfl rfl rfl rfl mo_X12_carry ml_12_462 rfl rfl hc_32 ?_
  refine r_aload_n 135 dX12_carriesAll_134 rfl rfl ?_
  refine r_aload_n 136 dX12_carriesAll_135 rfl rfl ?_
  refine g_R 139 dX12_carriesAll_136 rfl rfl rfl fr_12_55 (sh_12_16 hS) ?_
  obtain ⟨M_33, hc_34, hS, h⟩ := h
  refine v_0 (ci := 12) (C := (RX12, TX12, 68)) [vR (some (63, 0))] [] 142 dX12_carriesAll_139 rfl rfl rfl rfl rfl mo_X12_carry ml_12_462 rfl rfl hc_34 ?_
  refine r_aload_n 143 dX12_carriesAll_142 rfl rfl ?_
  refine r_aload_n 144 dX12_carriesAll_143 rfl rfl ?_
  refine g_R 147 dX12_carriesAll_144 rfl rfl rfl fr_12_58 (sh_12_17 hS) ?_
  obtain ⟨M_35, hc_36, hS, h⟩ := h
  refine v_0 (ci := 12) (C := (RX12, TX12, 68)) [vR (some (64, 0))] [] 150 dX12_carriesAll_147 rfl rfl rfl rfl rfl mo_X12_carry ml_12_462 rfl rfl hc_36 ?_
  refine r_aload_n 151 dX12_carriesAll_150 rfl rfl ?_
  refine r_aload_n 152 dX12_carriesAll_151 rfl rfl ?_
  refine g_R 155 dX12_carriesAll_152 rfl rfl rfl fr_12_61 (sh_12_18 hS) ?_
  obtain ⟨M_37, hc_38, hS, h⟩ := h
  refine v_0 (ci := 12) (C := (RX12, TX12, 68)) [vR (some (65, 0))] [] 158 dX12_carriesAll_155 rfl rfl rfl rfl rfl mo_X12_carry ml_12_462 rfl rfl hc_38 ?_
  refine r_aload_n 159 dX12_carriesAll_158 rfl rfl ?_
  refine r_aload_n 160 dX12_carriesAll_159 rfl rfl ?_
  refine g_R 163 dX12_carriesAll_160 rfl rfl rfl fr_12_64 (sh_12_19 hS) ?_
  obtain ⟨M_39, hc_40, hS, h⟩ := h
  refine v_0 (ci := 12) (C := (RX12, TX12, 68)) [vR (some (66, 0))] [] 166 dX12_carriesAll_163 rfl rfl rfl rfl rfl mo_X12_carry ml_12_462 rfl rfl hc_40 ?_
  refine r_aload_n 167 dX12_carriesAll_166 rfl rfl ?_
  refine r_aload_n 168 dX12_carriesAll_167 rfl rfl ?_
  refine g_R 171 dX12_carriesAll_168 rfl rfl rfl fr_12_67 (sh_12_20 hS) ?_
  obtain ⟨M_41, hc_42, hS, h⟩ := h
  refine v_0 (ci := 12) (C := (RX12, TX12, 68)) [vR (some (67, 0))] [] 174 dX12_carriesAll_171 rfl rfl rfl rfl rfl mo_X12_carry ml_12_462 rfl rfl hc_42 ?_
  refine r_aload_n 175 dX12_carriesAll_174 rfl rfl ?_
  refine r_aload_n 176 dX12_carriesAll_175 rfl rfl ?_
  refine g_R 179 dX12_carriesAll_176 rfl rfl rfl fr_12_70 (sh_12_21 hS) ?_
  obtain ⟨M_43, hc_44, hS, h⟩ := h
  refine v_0 (ci := 12) (C := (RX12, TX12, 68)) [vR (some (68, 0))] [] 182 dX12_carriesAll_179 rfl rfl rfl rfl rfl mo_X12_carry ml_12_462 rfl rfl hc_44 ?_
  refine r_aload_n 183 dX12_carriesAll_182 rfl rfl ?_
  refine r_aload_n 184 dX12_carriesAll_183 rfl rfl ?_
  refine g_R 187 dX12_carriesAll_184 rfl rfl rfl fr_12_73 (sh_12_22 hS) ?_
  obtain ⟨M_45, hc_46, hS, h⟩ := h
  refine v_0 (ci := 12) (C := (RX12, TX12, 68)) [vR (some (69, 0))] [] 190 dX12_carriesAll_187 rfl rfl rfl rfl rfl mo_X12_carry ml_12_462 rfl rfl hc_46 ?_
  refine r_aload_n 191 dX12_carriesAll_190 rfl rfl ?_
  refine r_aload_n 192 dX12_carriesAll_191 rfl rfl ?_
  refine g_R 195 dX12_carriesAll_192 rfl rfl rfl fr_12_76 (sh_12_23 hS) ?_
  obtain ⟨M_47, hc_48, h⟩ := h
  refine v_0 (ci := 12) (C := (RX12, TX12, 68)) [vR (some (70, 0))] [] 198 dX12_carriesAll_195 rfl rfl rfl rfl rfl mo_X12_carry ml_12_462 rfl rfl hc_48 ?_
  exact r_vret dX12_carriesAll_198 rfl h.1 h.2

set_option maxRecDepth 4000 in
theorem xX12_image_0 {l : Launch} {G : Gt} {d : Nat} {M M' : Mem} {r : Option Vl} {x1 : Int} (hS : Sh M.2.1) (h : 
    (0 ≤ x1 ∧ x1 ≤ 3 → ((0 ≤ x1 ∧ x1 < 4)) ∧ (∃ (M_2 : Mem), Cl l G d mX12_carriesAll [vR (some (3, 0)), vI x1, vI 0] ((upI M.1 91 0 x1.toNat 1), M.2.1, M.2.2) none M_2 ∧ Sh M_2.2.1 ∧ r = some (vI (M_2.1 48 0 5)) ∧ M' = M_2)) ∧ (¬ (0 ≤ x1 ∧ x1 ≤ 3) → r = some (vI (-1)) ∧ M' = M)) : Cl l G (d + 1) mX12_image [vR (some (3, 0)), vI x1] M r M' := by
  show Ex l G (d + 1) mX12_image 0 [some (vR (some (3, 0))), some (vI x1)] [] M r M'
  refine r_iload_n 1 dX12_image_0 rfl rfl ?_
  refine r_i2l 2 dX12_image_1 rfl ?_
  refine r_lconst (x := 0) 3 dX12_image_2 rfl (by decide +kernel) (InR_of rfl) ?_
  refine r_ldc2 (n := 3) 6 dX12_image_3 rfl (inT7 (List.mem_of_getElem? (i := 234) rfl) rfl) (by decide +kernel) (InR_of rfl) ?_
  refine c_1 [vL x1, vL 0, vL 3] [] 9 dX12_image_6 rfl rfl mo_X12_in ml_12_154 rfl rfl (KX12_in) ?_
  refine r_if_ne 12 14 dX12_image_9 rfl rfl (fun c => ?_) (fun c => ?_)
  · have h := h.1 (b2_1.mp c)
    obtain ⟨o_1, h⟩ := h
    refine r_aload_n 15 dX12_image_14 rfl rfl ?_
    refine g_R 18 dX12_image_15 rfl rfl rfl fr_12_141 (sh_12_65 hS) ?_
    refine r_iload_n 19 dX12_image_18 rfl rfl ?_
    refine r_iconst 20 dX12_image_19 rfl (InR_of rfl) ?_
    refine s_Z 4 21 dX12_image_20 rfl rfl (by decide) rfl rfl o_1 (.inr rfl) ?_
    refine r_aload_n 22 dX12_image_21 rfl rfl ?_
    refine r_iload_n 23 dX12_image_22 rfl rfl ?_
    refine r_iconst 24 dX12_image_23 rfl (InR_of rfl) ?_
    obtain ⟨M_2, hc_3, hS, h⟩ := h
    refine v_0 (ci := 12) (C := (RX12, TX12, 68)) [vI x1, vI 0] [] 27 dX12_image_24 rfl rfl rfl rfl rfl mo_X12_carriesAll ml_12_468 rfl rfl hc_3 ?_
    refine r_aload_n 28 dX12_image_27 rfl rfl ?_
    refine g_R 31 dX12_image_28 rfl rfl rfl fr_12_7 (sh_12_1 hS) ?_
    refine r_iconst 32 dX12_image_31 rfl (InR_of rfl) ?_
    refine a_I 6 33 dX12_image_32 rfl rfl rfl rfl ⟨by decide, by decide⟩ rfl ?_
    exact r_iret dX12_image_33 rfl (.inl rfl) h.1 h.2
  · have h := h.2 (b2_0.mp (Decidable.not_not.mp c))
    refine r_iconst 13 dX12_image_12 rfl (InR_of rfl) ?_
    exact r_iret dX12_image_13 rfl (.inl rfl) h.1 h.2

set_option maxRecDepth 4000 in
theorem xX12_back_0 {l : Launch} {G : Gt} {d : Nat} {M M' : Mem} {r : Option Vl} {x1 : Int} (hS : Sh M.2.1) (h : 
    (¬ (0 ≤ x1 ∧ x1 ≤ 3) → r = some (vI (-1)) ∧ M' = M) ∧ (0 ≤ x1 ∧ x1 ≤ 3 → ((0 ≤ x1 ∧ x1 < 4)) ∧ ((¬ ((M.1 91 0 x1.toNat) = 0) → ∃ (M_2 : Mem), Cl l G d mX12_carriesAll [vR (some (3, 0)), vI x1, vI 1] M none M_2 ∧ (∃ (M_4 : Mem), Cl l G d mX12_sorts [vR (some (3, 0))] M_2 none M_4 ∧ Sh M_4.2.1 ∧ r = some (vI (M_4.1 48 0 5)) ∧ M' = M_4)) ∧ ((M.1 91 0 x1.toNat) = 0 → r = some (vI (-1)) ∧ M' = M)))) : Cl l G (d + 1) mX12_back [vR (some (3, 0)), vI x1] M r M' := by
  show Ex l G (d + 1) mX12_back 0 [some (vR (some (3, 0))), some (vI x1)] [] M r M'
  refine r_iload_n 1 dX12_back_0 rfl rfl ?_
  refine r_i2l 2 dX12_back_1 rfl ?_
  refine r_lconst (x := 0) 3 dX12_back_2 rfl (by decide +kernel) (InR_of rfl) ?_
  refine r_ldc2 (n := 3) 6 dX12_back_3 rfl (inT7 (List.mem_of_getElem? (i := 234) rfl) rfl) (by decide +kernel) (InR_of rfl) ?_
  refine c_1 [vL x1, vL 0, vL 3] [] 9 dX12_back_6 rfl rfl mo_X12_in ml_12_154 rfl rfl (KX12_in) ?_
  refine r_if_eq 12 21 dX12_back_9 rfl rfl (fun c => ?_) (fun c => ?_)
  · have h := h.1 (b2_0.mp c)
    refine r_iconst 22 dX12_back_21 rfl (InR_of rfl) ?_
    exact r_iret dX12_back_22 rfl (.inl rfl) h.1 h.2
  · have h := h.2 (b2_1.mp c)
    obtain ⟨o_1, h⟩ := h
    refine r_aload_n 13 dX12_back_12 rfl rfl ?_
    refine g_R 16 dX12_back_13 rfl rfl rfl fr_12_141 (sh_12_65 hS) ?_
    refine r_iload_n 17 dX12_back_16 rfl rfl ?_
    refine a_Z 4 18 dX12_back_17 rfl rfl rfl rfl o_1 rfl ?_
    refine r_if_ne 21 23 dX12_back_18 rfl rfl (fun c => ?_) (fun c => ?_)
    · have h := h.1 (c)
      refine r_aload_n 24 dX12_back_23 rfl rfl ?_
      refine r_iload_n 25 dX12_back_24 rfl rfl ?_
      refine r_iconst 26 dX12_back_25 rfl (InR_of rfl) ?_
      obtain ⟨M_2, hc_3, h⟩ := h
      refine v_0 (ci := 12) (C := (RX12, TX12, 68)) [vI x1, vI 1] [] 29 dX12_back_26 rfl rfl rfl rfl rfl mo_X12_carriesAll ml_12_468 rfl rfl hc_3 ?_
      refine r_aload_n 30 dX12_back_29 rfl rfl ?_
      obtain ⟨M_4, hc_5, hS, h⟩ := h
      refine v_0 (ci := 12) (C := (RX12, TX12, 68)) [] [] 33 dX12_back_30 rfl rfl rfl rfl rfl mo_X12_sorts ml_12_180 rfl rfl hc_5 ?_
      refine r_aload_n 34 dX12_back_33 rfl rfl ?_
      refine g_R 37 dX12_back_34 rfl rfl rfl fr_12_7 (sh_12_1 hS) ?_
      refine r_iconst 38 dX12_back_37 rfl (InR_of rfl) ?_
      refine a_I 6 39 dX12_back_38 rfl rfl rfl rfl ⟨by decide, by decide⟩ rfl ?_
      exact r_iret dX12_back_39 rfl (.inl rfl) h.1 h.2
    · have h := h.2 (Decidable.not_not.mp c)
      refine r_iconst 22 dX12_back_21 rfl (InR_of rfl) ?_
      exact r_iret dX12_back_22 rfl (.inl rfl) h.1 h.2

/-- which row and place a place of an image holds -/
def dF (o : Nat) : Nat × Nat := if o < 6 then (48, o) else if o < 18 then (49, o - 6) else if o < 30 then (50, o - 18) else if o < 47 then (51, o - 30) else if o < 67 then (52, o - 47) else if o < 115 then (53 + (o - 67) / 16, (o - 67) % 16) else if o < 475 then (56 + (o - 115) / 60, (o - 115) % 60) else (62 + (o - 475) / 8, (o - 475) % 8)
theorem lenF_1 {f : Nat} (h : f = 48) : lenF f = 6 := by unfold lenF; rw [if_pos h]
theorem off_in {f i : Nat} (h1 : 48 ≤ f) (h2 : f ≤ 70) (hi : i < lenF f) : offF f + i < 547 ∧ dF (offF f + i) = (f, i) := by
  unfold lenF at hi
  unfold offF
  by_cases c48 : f = 48
  · rw [if_pos c48] at hi ⊢
    refine ⟨by omega, ?_⟩
    unfold dF
    rw [if_pos (by omega), c48]; simp
  · rw [if_neg c48] at hi ⊢
    by_cases c49 : f = 49
    · rw [if_pos (show f ≤ 50 by omega)] at hi
      rw [if_pos c49]
      refine ⟨by omega, ?_⟩
      unfold dF
      rw [if_neg (by omega), if_pos (by omega), c49]
      congr 1; omega
    · rw [if_neg c49]
      by_cases c50 : f = 50
      · rw [if_pos (show f ≤ 50 by omega)] at hi
        rw [if_pos c50]
        refine ⟨by omega, ?_⟩
        unfold dF
        rw [if_neg (by omega), if_neg (by omega), if_pos (by omega), c50]
        congr 1; omega
      · rw [if_neg (show ¬ f ≤ 50 by omega)] at hi
        rw [if_neg c50]
        by_cases c51 : f = 51
        · rw [if_pos c51] at hi ⊢
          refine ⟨by omega, ?_⟩
          unfold dF
          rw [if_neg (by omega), if_neg (by omega), if_neg (by omega), if_pos (by omega), c51]
          congr 1; omega
        · rw [if_neg c51] at hi ⊢
          by_cases c52 : f = 52
          · rw [if_pos c52] at hi ⊢
            refine ⟨by omega, ?_⟩
            unfold dF
            rw [if_neg (by omega), if_neg (by omega), if_neg (by omega), if_neg (by omega), if_pos (by omega), c52]
            congr 1; omega
          · rw [if_neg c52] at hi ⊢
            by_cases c55 : f ≤ 55
            · rw [if_pos c55] at hi ⊢
              refine ⟨by omega, ?_⟩
              unfold dF
              rw [if_neg (by omega), if_neg (by omega), if_neg (by omega), if_neg (by omega), if_neg (by omega), if_pos (by omega)]
              congr 1 <;> omega
            · rw [if_neg c55] at hi ⊢
              by_cases c61 : f ≤ 61
              · rw [if_pos c61] at hi ⊢
                refine ⟨by omega, ?_⟩
                unfold dF
                rw [if_neg (by omega), if_neg (by omega), if_neg (by omega), if_neg (by omega), if_neg (by omega), if_neg (by omega), if_pos (by omega)]
                congr 1 <;> omega
              · rw [if_neg c61] at hi ⊢
                refine ⟨by omega, ?_⟩
                unfold dF
                rw [if_neg (by omega), if_neg (by omega), if_neg (by omega), if_neg (by omega), if_neg (by omega), if_neg (by omega), if_neg (by omega)]
                exact Prod.ext (by dsimp only; omega) (by dsimp only; omega)
theorem offF_s {f : Nat} (h1 : 48 ≤ f) (h2 : f ≤ 69) : offF (f + 1) = offF f + lenF f := by
  have h : ∀ x : Fin 22, offF (48 + x.val + 1) = offF (48 + x.val) + lenF (48 + x.val) := by decide
  have := h ⟨f - 48, by omega⟩
  rw [show 48 + (f - 48) = f by omega] at this
  exact this
theorem lenF_60 {f : Nat} : lenF f ≤ 60 := by unfold lenF; (repeat' split) <;> omega
theorem offF_le {f : Nat} (h1 : 48 ≤ f) (h2 : f ≤ 70) : offF f + lenF f ≤ 547 := by
  have h : ∀ x : Fin 23, offF (48 + x.val) + lenF (48 + x.val) ≤ 547 := by decide
  have := h ⟨f - 48, by omega⟩
  rw [show 48 + (f - 48) = f by omega] at this
  exact this
theorem aLen_m {c : Ct} {f : Nat} (h1 : 48 ≤ f) (h2 : f ≤ 70) : aLen c f 0 = lenF f := by
  have h : ∀ x : Fin 23, fL (48 + x.val) = some (lenF (48 + x.val)) := by decide
  have := h ⟨f - 48, by omega⟩
  rw [show 48 + (f - 48) = f by omega] at this
  unfold aLen
  rw [this]
theorem fK_m {f : Nat} (h1 : 48 ≤ f) (h2 : f ≤ 70) : fK f = 1 := by
  have h : ∀ x : Fin 23, fK (48 + x.val) = 1 := by decide
  have := h ⟨f - 48, by omega⟩
  rw [show 48 + (f - 48) = f by omega] at this
  exact this
theorem offF_lt {g f : Nat} (h1 : 48 ≤ g) (h2 : g < f) (h3 : f ≤ 70) : offF g + lenF g ≤ offF f := by
  have h : ∀ x : Fin 23, ∀ y : Fin 23, x.val < y.val → offF (48 + x.val) + lenF (48 + x.val) ≤ offF (48 + y.val) := by decide
  have := h ⟨g - 48, by omega⟩ ⟨f - 48, by omega⟩ (by show g - 48 < f - 48; omega)
  dsimp only at this
  rw [show 48 + (g - 48) = g by omega, show 48 + (f - 48) = f by omega] at this
  exact this
theorem dF_in {o : Nat} (h : o < 547) : 48 ≤ (dF o).1 ∧ (dF o).1 ≤ 70 ∧ (dF o).2 < lenF (dF o).1 ∧ offF (dF o).1 + (dF o).2 = o := by
  unfold dF
  by_cases c1 : o < 6
  · rw [if_pos c1]; exact ⟨by dsimp only; omega, by dsimp only; omega, c1, by show 0 + o = o; omega⟩
  · rw [if_neg c1]
    by_cases c2 : o < 18
    · rw [if_pos c2]; exact ⟨by dsimp only; omega, by dsimp only; omega, by show o - 6 < 12; omega, by show 6 + (o - 6) = o; omega⟩
    · rw [if_neg c2]
      by_cases c3 : o < 30
      · rw [if_pos c3]; exact ⟨by dsimp only; omega, by dsimp only; omega, by show o - 18 < 12; omega, by show 18 + (o - 18) = o; omega⟩
      · rw [if_neg c3]
        by_cases c4 : o < 47
        · rw [if_pos c4]; exact ⟨by dsimp only; omega, by dsimp only; omega, by show o - 30 < 17; omega, by show 30 + (o - 30) = o; omega⟩
        · rw [if_neg c4]
          by_cases c5 : o < 67
          · rw [if_pos c5]; exact ⟨by dsimp only; omega, by dsimp only; omega, by show o - 47 < 20; omega, by show 47 + (o - 47) = o; omega⟩
          · rw [if_neg c5]
            by_cases c6 : o < 115
            · rw [if_pos c6]
              refine ⟨by dsimp only; omega, by dsimp only; omega, ?_, ?_⟩
              · unfold lenF; dsimp only
                rw [if_neg (by omega), if_neg (by omega), if_neg (by omega), if_neg (by omega), if_pos (by omega)]; omega
              · unfold offF; dsimp only
                rw [if_neg (by omega), if_neg (by omega), if_neg (by omega), if_neg (by omega), if_neg (by omega), if_pos (by omega)]; omega
            · rw [if_neg c6]
              by_cases c7 : o < 475
              · rw [if_pos c7]
                refine ⟨by dsimp only; omega, by dsimp only; omega, ?_, ?_⟩
                · unfold lenF; dsimp only
                  rw [if_neg (by omega), if_neg (by omega), if_neg (by omega), if_neg (by omega), if_neg (by omega), if_pos (by omega)]; omega
                · unfold offF; dsimp only
                  rw [if_neg (by omega), if_neg (by omega), if_neg (by omega), if_neg (by omega), if_neg (by omega), if_neg (by omega), if_pos (by omega)]; omega
              · rw [if_neg c7]
                refine ⟨by dsimp only; omega, by dsimp only; omega, ?_, ?_⟩
                · unfold lenF; dsimp only
                  rw [if_neg (by omega), if_neg (by omega), if_neg (by omega), if_neg (by omega), if_neg (by omega), if_neg (by omega)]; omega
                · unfold offF; dsimp only
                  rw [if_neg (by omega), if_neg (by omega), if_neg (by omega), if_neg (by omega), if_neg (by omega), if_neg (by omega), if_neg (by omega)]; omega
section CA
variable {l : Launch} {G : Gt} {d : Nat} {Q Q' : QT} {M : Mem}
/-- what was carried, up to a row -/
def CarI (bk : Int) (k : Nat) (M0 : IM) (f : Nat) (I : IM) : Prop := I 3 0 66 = ((570 * k + offF f : Nat) : Int) ∧ I 3 0 67 = bk ∧ (∀ g j i, ¬ (g = 3 ∧ j = 0 ∧ (i = 66 ∨ i = 67)) → ¬ (g = 90 ∧ j = 0) → ¬ (48 ≤ g ∧ g ≤ 70 ∧ j = 0) → I g j i = M0 g j i) ∧
  (bk = 0 → (∀ g j i, 48 ≤ g → g ≤ 70 → I g j i = M0 g j i) ∧ (∀ g i, 48 ≤ g → g < f → i < lenF g → I 90 0 (570 * k + offF g + i) = M0 g 0 i) ∧ ∀ j, ¬ (570 * k ≤ j ∧ j < 570 * k + offF f) → I 90 0 j = M0 90 0 j) ∧
  (¬ bk = 0 → (∀ i, I 90 0 i = M0 90 0 i) ∧ (∀ g i, 48 ≤ g → g < f → i < lenF g → I g 0 i = M0 90 0 (570 * k + offF g + i)) ∧ (∀ g i, 48 ≤ g → g ≤ 70 → lenF g ≤ i → I g 0 i = M0 g 0 i) ∧ ∀ g i, f ≤ g → g ≤ 70 → I g 0 i = M0 g 0 i)
theorem car_step {bk : Int} {k f : Nat} {M0 I : IM} {R : RM} {C : Ct} (hS : Sh R) (hk : k < 4) (h1 : 48 ≤ f) (h2 : f ≤ 70) (hI : CarI bk k M0 f I) : ∃ I', Cl l G d mX12_carry [vR (some (3, 0)), vR (some (f, 0))] (I, R, C) none (I', R, C) ∧ I' 3 0 66 = ((570 * k + offF f + lenF f : Nat) : Int) ∧ I' 3 0 67 = bk ∧ (∀ g j i, ¬ (g = 3 ∧ j = 0 ∧ (i = 66 ∨ i = 67)) → ¬ (g = 90 ∧ j = 0) → ¬ (g = f ∧ j = 0) → I' g j i = I g j i) ∧ (bk = 0 → (∀ i, I' f 0 i = I f 0 i) ∧ (∀ i, i < lenF f → I' 90 0 (570 * k + offF f + i) = I f 0 i) ∧ ∀ j, ¬ (570 * k + offF f ≤ j ∧ j < 570 * k + offF f + lenF f) → I' 90 0 j = I 90 0 j) ∧ (¬ bk = 0 → (∀ i, I' 90 0 i = I 90 0 i) ∧ (∀ i, i < lenF f → I' f 0 i = I 90 0 (570 * k + offF f + i)) ∧ ∀ i, lenF f ≤ i → I' f 0 i = I f 0 i) := by
  have hol := offF_le h1 h2
  have hfk := fK_m h1 h2
  have hl60 := lenF_60 (f := f)
  have key : ∀ n x : Nat, n + x = lenF f → ∀ J : IM, J 3 0 66 = ((570 * k + offF f + x : Nat) : Int) → J 3 0 67 = bk → (∀ g j i, ¬ (g = 3 ∧ j = 0 ∧ (i = 66 ∨ i = 67)) → ¬ (g = 90 ∧ j = 0) → ¬ (g = f ∧ j = 0) → J g j i = I g j i) → (bk = 0 → (∀ i, J f 0 i = I f 0 i) ∧ (∀ i, i < x → J 90 0 (570 * k + offF f + i) = I f 0 i) ∧ ∀ j, ¬ (570 * k + offF f ≤ j ∧ j < 570 * k + offF f + x) → J 90 0 j = I 90 0 j) → (¬ bk = 0 → (∀ i, J 90 0 i = I 90 0 i) ∧ (∀ i, i < x → J f 0 i = I 90 0 (570 * k + offF f + i)) ∧ ∀ i, x ≤ i → J f 0 i = I f 0 i) → ∃ I', Ex l G d mX12_carry 2 [some (vR (some (3, 0))), some (vR (some (f, 0))), some (vI (x : Int))] [] (J, R, C) none (I', R, C) ∧ I' 3 0 66 = ((570 * k + offF f + lenF f : Nat) : Int) ∧ I' 3 0 67 = bk ∧ (∀ g j i, ¬ (g = 3 ∧ j = 0 ∧ (i = 66 ∨ i = 67)) → ¬ (g = 90 ∧ j = 0) → ¬ (g = f ∧ j = 0) → I' g j i = I g j i) ∧ (bk = 0 → (∀ i, I' f 0 i = I f 0 i) ∧ (∀ i, i < lenF f → I' 90 0 (570 * k + offF f + i) = I f 0 i) ∧ ∀ j, ¬ (570 * k + offF f ≤ j ∧ j < 570 * k + offF f + lenF f) → I' 90 0 j = I 90 0 j) ∧ (¬ bk = 0 → (∀ i, I' 90 0 i = I 90 0 i) ∧ (∀ i, i < lenF f → I' f 0 i = I 90 0 (570 * k + offF f + i)) ∧ ∀ i, lenF f ≤ i → I' f 0 i = I f 0 i) := by
    intro n
    induction n with
    | zero =>
      intro x hx J a1 a2 a3 a4 a5
      have ex : x = lenF f := by omega
      subst ex
      refine ⟨J, xX12_carry_2 hfk (by omega) hS ?_, a1, a2, a3, a4, a5⟩
      dsimp only
      rw [aLen_m h1 h2]
      exact ⟨by unfold InR; omega, fun _ => ⟨rfl, rfl⟩, fun c => absurd (by omega) c⟩
    | succ n ih =>
      intro x hx J a1 a2 a3 a4 a5
      have e66 : (((570 * k + offF f + x : Nat) : Int)).toNat = 570 * k + offF f + x := Int.toNat_natCast _
      by_cases cb : bk = 0
      · obtain ⟨b1, b2, b3⟩ := a4 cb
        obtain ⟨I', y1, y2⟩ := ih (x + 1) (by omega) (upI (upI J 90 0 (570 * k + offF f + x) (J f 0 x)) 3 0 66 (((570 * k + offF f + x : Nat) : Int) + 1)) (by rw [upI_s]; omega) (by rw [upI_i (by omega), upI_o (by omega)]; exact a2) (fun g j i q1 q2 q3 => by
          by_cases e : g = 3 ∧ j = 0
          · obtain ⟨rfl, rfl⟩ := e
            rw [upI_i (by omega), upI_o (by omega)]
            exact a3 _ _ _ q1 q2 q3
          · rw [upI_o e, upI_o q2]
            exact a3 _ _ _ q1 q2 q3) (fun _ => ⟨fun i => by rw [upI_o (by omega), upI_o (by omega)]; exact b1 i, fun i hi => by
          rw [upI_o (by omega)]
          by_cases e : i = x
          · rw [e, upI_s, b1]
          · rw [upI_i (by omega)]; exact b2 i (by omega), fun j hj => by rw [upI_o (by omega), upI_i (by omega)]; exact b3 j (by omega)⟩) (fun c => absurd cb c)
        refine ⟨I', xX12_carry_2 hfk (by omega) hS ?_, y2⟩
        dsimp only
        rw [aLen_m h1 h2, a1, a2, e66, Int.toNat_natCast]
        exact ⟨by unfold InR; omega, fun c => by omega, fun _ => ⟨fun _ => ⟨⟨by omega, by omega, by unfold InR; omega, by unfold InR; omega⟩, y1⟩, fun c => absurd cb c⟩⟩
      · obtain ⟨b1, b2, b3⟩ := a5 cb
        have eu : upI J f 0 x (J 90 0 (570 * k + offF f + x)) 3 0 66 = ((570 * k + offF f + x : Nat) : Int) := by rw [upI_o (by omega)]; exact a1
        obtain ⟨I', y1, y2⟩ := ih (x + 1) (by omega) (upI (upI J f 0 x (J 90 0 (570 * k + offF f + x))) 3 0 66 (((570 * k + offF f + x : Nat) : Int) + 1)) (by rw [upI_s]; omega) (by rw [upI_i (by omega), upI_o (by omega)]; exact a2) (fun g j i q1 q2 q3 => by
          by_cases e : g = 3 ∧ j = 0
          · obtain ⟨rfl, rfl⟩ := e
            rw [upI_i (by omega), upI_o (by omega)]
            exact a3 _ _ _ q1 q2 q3
          · rw [upI_o e, upI_o q3]
            exact a3 _ _ _ q1 q2 q3) (fun c => absurd c cb) (fun _ => ⟨fun i => by rw [upI_o (by omega), upI_o (by omega)]; exact b1 i, fun i hi => by
          rw [upI_o (by omega)]
          by_cases e : i = x
          · rw [e, upI_s, b1]
          · rw [upI_i e]; exact b2 i (by omega), fun i hi => by rw [upI_o (by omega), upI_i (by omega)]; exact b3 i (by omega)⟩)
        refine ⟨I', xX12_carry_2 hfk (by omega) hS ?_, y2⟩
        dsimp only
        rw [aLen_m h1 h2, a1, a2, e66, Int.toNat_natCast, eu]
        exact ⟨by unfold InR; omega, fun c => by omega, fun _ => ⟨fun c => absurd c cb, fun _ => ⟨⟨by omega, by omega, by unfold InR; omega, by unfold InR; omega⟩, y1⟩⟩⟩
  obtain ⟨I', y1, y2⟩ := key (lenF f) 0 (by omega) I hI.1 hI.2.1 (fun _ _ _ _ _ _ => rfl) (fun _ => ⟨fun _ => rfl, fun i hi => by omega, fun _ _ => rfl⟩) (fun _ => ⟨fun _ => rfl, fun i hi => by omega, fun _ _ => rfl⟩)
  exact ⟨I', xX12_carry_0 hfk (by omega) y1, y2⟩
theorem CarI.step {bk : Int} {k f : Nat} {M0 I : IM} {R : RM} {C : Ct} (hS : Sh R) (hk : k < 4) (h1 : 48 ≤ f) (h2 : f ≤ 69) (hI : CarI bk k M0 f I) : ∃ I', Cl l G d mX12_carry [vR (some (3, 0)), vR (some (f, 0))] (I, R, C) none (I', R, C) ∧ CarI bk k M0 (f + 1) I' := by
  obtain ⟨I', y1, z1, z2, z3, z4, z5⟩ := car_step (l := l) (G := G) (d := d) (C := C) hS hk h1 (by omega) hI
  obtain ⟨a1, a2, a3, a4, a5⟩ := hI
  have eo := offF_s h1 h2
  refine ⟨I', y1, by rw [z1, eo, Nat.add_assoc], z2, fun g j i q1 q2 q3 => (z3 g j i q1 q2 (by omega)).trans (a3 g j i q1 q2 q3), fun cb => ?_, fun cb => ?_⟩
  · obtain ⟨b1, b2, b3⟩ := a4 cb
    obtain ⟨c1, c2, c3⟩ := z4 cb
    refine ⟨fun g j i q1 q2 => ?_, fun g i q1 q2 q3 => ?_, fun j hj => ?_⟩
    · by_cases e : g = f ∧ j = 0
      · rw [e.1, e.2, c1]; exact b1 _ _ _ h1 (by omega)
      · rw [z3 g j i (by omega) (by omega) e]; exact b1 g j i q1 q2
    · by_cases e : g = f
      · rw [e] at q3 ⊢
        rw [c2 i q3]
        exact b1 _ _ _ h1 (by omega)
      · have hoff : offF g + lenF g ≤ offF f := offF_lt q1 (by omega) (by omega)
        rw [c3 _ (by omega)]
        exact b2 g i q1 (by omega) q3
    · rw [eo] at hj
      rw [c3 j (by omega)]
      exact b3 j (by omega)
  · obtain ⟨b1, b2, b3, b4⟩ := a5 cb
    obtain ⟨c1, c2, c3⟩ := z5 cb
    refine ⟨fun i => (c1 i).trans (b1 i), fun g i q1 q2 q3 => ?_, fun g i q1 q2 q3 => ?_, fun g i q1 q2 => ?_⟩
    · by_cases e : g = f
      · rw [e] at q3 ⊢
        rw [c2 i q3]
        exact b1 _
      · rw [z3 g 0 i (by omega) (by omega) (by omega)]
        exact b2 g i q1 (by omega) q3
    · by_cases e : g = f
      · rw [e] at q3 ⊢
        rw [c3 i q3]
        exact b3 _ _ h1 (by omega) q3
      · rw [z3 g 0 i (by omega) (by omega) (by omega)]
        exact b3 g i q1 q2 q3
    · rw [z3 g 0 i (by omega) (by omega) (by omega)]
      exact b4 g i (by omega) q2
theorem KX12_carriesAll {bk : Int} {k : Nat} (hS : Sh M.2.1) (hk : k < 4) (hb : bk = 0 ∨ bk = 1) : ∃ I', Cl l G (d + 1) mX12_carriesAll [vR (some (3, 0)), vI (k : Int), vI bk] M none (I', M.2.1, M.2.2) ∧ (∀ g j i, ¬ (g = 3 ∧ j = 0 ∧ (i = 66 ∨ i = 67)) → ¬ (g = 90 ∧ j = 0) → ¬ (48 ≤ g ∧ g ≤ 70 ∧ j = 0) → I' g j i = M.1 g j i) ∧ (bk = 0 → (∀ g j i, 48 ≤ g → g ≤ 70 → I' g j i = M.1 g j i) ∧ (∀ g i, 48 ≤ g → g ≤ 70 → i < lenF g → I' 90 0 (570 * k + offF g + i) = M.1 g 0 i) ∧ ∀ j, ¬ (570 * k ≤ j ∧ j < 570 * k + 547) → I' 90 0 j = M.1 90 0 j) ∧ (¬ bk = 0 → (∀ i, I' 90 0 i = M.1 90 0 i) ∧ (∀ g i, 48 ≤ g → g ≤ 70 → i < lenF g → I' g 0 i = M.1 90 0 (570 * k + offF g + i)) ∧ ∀ g i, 48 ≤ g → g ≤ 70 → lenF g ≤ i → I' g 0 i = M.1 g 0 i) := by
  have c48 : CarI bk k M.1 48 (upI (upI M.1 3 0 66 (570 * (k : Int))) 3 0 67 bk) := by
    refine ⟨by rw [upI_i (by omega), upI_s, show offF 48 = 0 from rfl]; omega, upI_s, fun g j i q1 q2 q3 => ?_, fun _ => ⟨fun g j i q1 q2 => by rw [upI_o (by omega), upI_o (by omega)], fun g i q1 q2 => by omega, fun j _ => by rw [upI_o (by omega), upI_o (by omega)]⟩, fun _ => ⟨fun i => by rw [upI_o (by omega), upI_o (by omega)], fun g i q1 q2 => by omega, fun g i q1 q2 _ => by rw [upI_o (by omega), upI_o (by omega)], fun g i q1 q2 => by rw [upI_o (by omega), upI_o (by omega)]⟩⟩
    by_cases e : g = 3 ∧ j = 0
    · obtain ⟨rfl, rfl⟩ := e
      rw [upI_i (by omega), upI_i (by omega)]
    · rw [upI_o e, upI_o e]
  obtain ⟨J49, k48, c49⟩ := c48.step (l := l) (G := G) (d := d) (C := M.2.2) hS hk (by omega) (by omega)
  obtain ⟨J50, k49, c50⟩ := c49.step (l := l) (G := G) (d := d) (C := M.2.2) hS hk (by omega) (by omega)
  obtain ⟨J51, k50, c51⟩ := c50.step (l := l) (G := G) (d := d) (C := M.2.2) hS hk (by omega) (by omega)
  obtain ⟨J52, k51, c52⟩ := c51.step (l := l) (G := G) (d := d) (C := M.2.2) hS hk (by omega) (by omega)
  obtain ⟨J53, k52, c53⟩ := c52.step (l := l) (G := G) (d := d) (C := M.2.2) hS hk (by omega) (by omega)
  obtain ⟨J54, k53, c54⟩ := c53.step (l := l) (G := G) (d := d) (C := M.2.2) hS hk (by omega) (by omega)
  obtain ⟨J55, k54, c55⟩ := c54.step (l := l) (G := G) (d := d) (C := M.2.2) hS hk (by omega) (by omega)
  obtain ⟨J56, k55, c56⟩ := c55.step (l := l) (G := G) (d := d) (C := M.2.2) hS hk (by omega) (by omega)
  obtain ⟨J57, k56, c57⟩ := c56.step (l := l) (G := G) (d := d) (C := M.2.2) hS hk (by omega) (by omega)
  obtain ⟨J58, k57, c58⟩ := c57.step (l := l) (G := G) (d := d) (C := M.2.2) hS hk (by omega) (by omega)
  obtain ⟨J59, k58, c59⟩ := c58.step (l := l) (G := G) (d := d) (C := M.2.2) hS hk (by omega) (by omega)
  obtain ⟨J60, k59, c60⟩ := c59.step (l := l) (G := G) (d := d) (C := M.2.2) hS hk (by omega) (by omega)
  obtain ⟨J61, k60, c61⟩ := c60.step (l := l) (G := G) (d := d) (C := M.2.2) hS hk (by omega) (by omega)
  obtain ⟨J62, k61, c62⟩ := c61.step (l := l) (G := G) (d := d) (C := M.2.2) hS hk (by omega) (by omega)
  obtain ⟨J63, k62, c63⟩ := c62.step (l := l) (G := G) (d := d) (C := M.2.2) hS hk (by omega) (by omega)
  obtain ⟨J64, k63, c64⟩ := c63.step (l := l) (G := G) (d := d) (C := M.2.2) hS hk (by omega) (by omega)
  obtain ⟨J65, k64, c65⟩ := c64.step (l := l) (G := G) (d := d) (C := M.2.2) hS hk (by omega) (by omega)
  obtain ⟨J66, k65, c66⟩ := c65.step (l := l) (G := G) (d := d) (C := M.2.2) hS hk (by omega) (by omega)
  obtain ⟨J67, k66, c67⟩ := c66.step (l := l) (G := G) (d := d) (C := M.2.2) hS hk (by omega) (by omega)
  obtain ⟨J68, k67, c68⟩ := c67.step (l := l) (G := G) (d := d) (C := M.2.2) hS hk (by omega) (by omega)
  obtain ⟨J69, k68, c69⟩ := c68.step (l := l) (G := G) (d := d) (C := M.2.2) hS hk (by omega) (by omega)
  obtain ⟨J70, k69, c70⟩ := c69.step (l := l) (G := G) (d := d) (C := M.2.2) hS hk (by omega) (by omega)
  have c70 : CarI bk k M.1 70 J70 := c70
  obtain ⟨I', y1, z1, z2, z3, z4, z5⟩ := car_step (l := l) (G := G) (d := d) (C := M.2.2) hS hk (show 48 ≤ 70 by omega) (by omega) c70
  obtain ⟨a1, a2, a3, a4, a5⟩ := c70
  refine ⟨I', xX12_carriesAll_0 hS ⟨⟨by unfold InR; omega, hb⟩, _, k48, hS, _, k49, hS, _, k50, hS, _, k51, hS, _, k52, hS, _, k53, hS, _, k54, hS, _, k55, hS, _, k56, hS, _, k57, hS, _, k58, hS, _, k59, hS, _, k60, hS, _, k61, hS, _, k62, hS, _, k63, hS, _, k64, hS, _, k65, hS, _, k66, hS, _, k67, hS, _, k68, hS, _, k69, hS, _, y1, rfl, rfl⟩, fun g j i q1 q2 q3 => (z3 g j i q1 q2 (by omega)).trans (a3 g j i q1 q2 q3), fun cb => ?_, fun cb => ?_⟩
  · obtain ⟨b1, b2, b3⟩ := a4 cb
    obtain ⟨c1, c2, c3⟩ := z4 cb
    refine ⟨fun g j i q1 q2 => ?_, fun g i q1 q2 q3 => ?_, fun j hj => ?_⟩
    · by_cases e : g = 70 ∧ j = 0
      · rw [e.1, e.2, c1]; exact b1 _ _ _ (by omega) (by omega)
      · rw [z3 g j i (by omega) (by omega) e]; exact b1 g j i q1 q2
    · by_cases e : g = 70
      · rw [e] at q3 ⊢
        rw [c2 i q3]
        exact b1 _ _ _ (by omega) (by omega)
      · have hoff : offF g + lenF g ≤ offF 70 := offF_lt q1 (by omega) (by omega)
        rw [c3 _ (by omega)]
        exact b2 g i q1 (by omega) q3
    · have e70 : offF 70 + lenF 70 = 547 := rfl
      rw [c3 j (by omega)]
      exact b3 j (by omega)
  · obtain ⟨b1, b2, b3, b4⟩ := a5 cb
    obtain ⟨c1, c2, c3⟩ := z5 cb
    refine ⟨fun i => (c1 i).trans (b1 i), fun g i q1 q2 q3 => ?_, fun g i q1 q2 q3 => ?_⟩
    · by_cases e : g = 70
      · rw [e] at q3 ⊢
        rw [c2 i q3]
        exact b1 _
      · rw [z3 g 0 i (by omega) (by omega) (by omega)]
        exact b2 g i q1 (by omega) q3
    · by_cases e : g = 70
      · rw [e] at q3 ⊢
        rw [c3 i q3]
        exact b3 _ _ (by omega) (by omega) q3
      · rw [z3 g 0 i (by omega) (by omega) (by omega)]
        exact b3 g i q1 q2 q3
/-! the state behind image, behind back -/
def imQ (Q : QT) (k : Nat) : QT := fun f => if f = 90 then fun j => if 570 * k ≤ j ∧ j < 570 * k + 547 then Q (dF (j - 570 * k)).1 (dF (j - 570 * k)).2 else Q 90 j else if f = 91 then fun i => if i = k then 1 else Q 91 i else Q f
def bkQ (Q : QT) (k : Nat) : QT := fun f => if 48 ≤ f ∧ f ≤ 70 then QB Q k f else Q f
def imageV (Q : QT) (k : Int) : Int := if 0 ≤ k ∧ k ≤ 3 then Q 48 5 else -1
def imageQ (Q : QT) (k : Int) : QT := if 0 ≤ k ∧ k ≤ 3 then imQ Q k.toNat else Q
def backV (Q : QT) (k : Int) : Int := if (0 ≤ k ∧ k ≤ 3) ∧ ¬ Q 91 k.toNat = 0 then bkQ Q k.toNat 48 5 else -1
def backQ (Q : QT) (k : Int) : QT := if (0 ≤ k ∧ k ≤ 3) ∧ ¬ Q 91 k.toNat = 0 then bkQ Q k.toNat else Q
theorem imQ_f {k f : Nat} (h : ¬ (f = 90 ∨ f = 91)) : imQ Q k f = Q f := by
  unfold imQ
  rw [if_neg (by omega), if_neg (by omega)]
theorem imQ_im {k j : Nat} : imQ Q k 90 j = if 570 * k ≤ j ∧ j < 570 * k + 547 then Q (dF (j - 570 * k)).1 (dF (j - 570 * k)).2 else Q 90 j := by
  unfold imQ
  rw [if_pos rfl]
theorem imQ_md {k i : Nat} : imQ Q k 91 i = if i = k then 1 else Q 91 i := by
  unfold imQ
  rw [if_neg (by omega), if_pos rfl]
theorem imQ_at {k f i : Nat} (h1 : 48 ≤ f) (h2 : f ≤ 70) (hi : i < lenF f) : imQ Q k 90 (570 * k + offF f + i) = Q f i := by
  obtain ⟨e1, e2⟩ := off_in h1 h2 hi
  rw [imQ_im, if_pos (by omega), show 570 * k + offF f + i - 570 * k = offF f + i by omega, e2]
theorem QB_f {k f : Nat} (h : 48 ≤ f ∧ f ≤ 70) {i : Nat} : QB Q k f i = if i < lenF f then Q 90 (570 * k + offF f + i) else 0 := by
  unfold QB
  rw [if_pos h]
theorem QB_im {k f : Nat} (h : WFz Q) (h1 : 48 ≤ f) (h2 : f ≤ 70) : QB (imQ Q k) k f = Q f := by
  funext i
  rw [QB_f ⟨h1, h2⟩]
  by_cases c : i < lenF f
  · rw [if_pos c, imQ_at h1 h2 c]
  · rw [if_neg c, h f i h1 h2 (by omega)]
theorem QB_33 {k : Nat} : QB Q k 3 33 = Q 3 33 := by
  unfold QB
  rw [if_neg (by omega), if_pos rfl, if_pos rfl]
theorem QB_ot {k k' : Nat} (h : k' ≠ k) : QB (imQ Q k) k' = QB Q k' := by
  funext f
  by_cases c : 48 ≤ f ∧ f ≤ 70
  · funext i
    rw [QB_f c, QB_f c]
    by_cases ci : i < lenF f
    · obtain ⟨e1, _⟩ := off_in c.1 c.2 ci
      rw [if_pos ci, if_pos ci, imQ_im, if_neg (by omega)]
    · rw [if_neg ci, if_neg ci]
  · unfold QB
    rw [if_neg c, if_neg c, imQ_f (by omega)]
/-- what holds of a state hangs on its rows alone -/
theorem WFi_c (h : WFi Q) (hf : ∀ f, 48 ≤ f → f ≤ 70 → Q' f = Q f) (h33 : Q' 3 33 = Q 3 33) : WFi Q' := by
  have hc : eqC Q Q' := ⟨by rw [hf _ (by omega) (by omega)], by rw [hf _ (by omega) (by omega)], hf _ (by omega) (by omega), hf _ (by omega) (by omega), hf _ (by omega) (by omega), hf _ (by omega) (by omega), hf _ (by omega) (by omega), hf _ (by omega) (by omega), hf _ (by omega) (by omega)⟩
  have hr : eqR Q Q' := ⟨by rw [hf _ (by omega) (by omega)], hf _ (by omega) (by omega), hf _ (by omega) (by omega), hf _ (by omega) (by omega)⟩
  have hv : nCv Q' = nCv Q := by unfold nCv; rw [h33]
  refine ⟨WFc_q hc h.1, WFr_q hr h.2.1, ?_, ?_, ?_, ?_, ?_, ?_⟩
  · unfold WFk; rw [hf _ (by omega) (by omega)]; exact h.2.2.1
  · unfold WFp; rw [hf _ (by omega) (by omega), nPp_q hc]; exact h.2.2.2.1
  · exact h.2.2.2.2.1.eq (nPp_q hc) hv (by rw [hf _ (by omega) (by omega)]) (by rw [hf _ (by omega) (by omega)]) (fun f h1 h2 => hf f (by omega) h2)
  · rw [hf _ (by omega) (by omega), nPp_q hc]; exact h.2.2.2.2.2.1
  · rw [hf _ (by omega) (by omega)]; exact h.2.2.2.2.2.2.1
  · rw [hf 48 (by omega) (by omega), hf 52 (by omega) (by omega)]; exact h.2.2.2.2.2.2.2
theorem imageQ_W {k : Int} (h : WFA Q) : WFA (imageQ Q k) := by
  unfold imageQ
  split
  · rename_i g
    obtain ⟨w1, w2, w3, w4, w5, w6⟩ := h
    have hv : eqV Q (imQ Q k.toNat) := ⟨by rw [imQ_f (by omega)], imQ_f (by omega), imQ_f (by omega), imQ_f (by omega), imQ_f (by omega), imQ_f (by omega)⟩
    refine ⟨WFi_c w1 (fun f h1 h2 => imQ_f (by omega)) (by rw [imQ_f (by omega)]), WFV_q hv w2, by rw [imQ_f (by omega), imQ_f (by omega)]; exact w3, fun f i h1 h2 h3 => by rw [imQ_f (by omega)]; exact w4 f i h1 h2 h3, fun k' hk' => ?_, by rw [imQ_f (by omega), imQ_f (by omega)]; exact w6⟩
    rw [imQ_md]
    by_cases e : k' = k.toNat
    · rw [if_pos e, e]
      exact .inr ⟨rfl, WFi_c w1 (fun f h1 h2 => QB_im w4 h1 h2) (by rw [QB_33, imQ_f (by omega)])⟩
    · rw [if_neg e, QB_ot e]
      exact w5 k' hk'
  · exact h
theorem bkQ_f {k f : Nat} (h : ¬ (48 ≤ f ∧ f ≤ 70)) : bkQ Q k f = Q f := by unfold bkQ; rw [if_neg h]
theorem bkQ_r {k f : Nat} (h1 : 48 ≤ f) (h2 : f ≤ 70) : bkQ Q k f = QB Q k f := by unfold bkQ; rw [if_pos ⟨h1, h2⟩]
theorem backQ_W {k : Int} (h : WFA Q) : WFA (backQ Q k) := by
  unfold backQ
  split
  · rename_i g
    obtain ⟨w1, w2, w3, w4, w5, w6⟩ := h
    have hv : eqV Q (bkQ Q k.toNat) := ⟨by rw [bkQ_f (by omega)], bkQ_f (by omega), bkQ_f (by omega), bkQ_f (by omega), bkQ_f (by omega), bkQ_f (by omega)⟩
    have hm : eqM Q (bkQ Q k.toNat) := ⟨bkQ_f (by omega), by rw [bkQ_f (by omega)], bkQ_f (by omega)⟩
    have hi : WFi (QB Q k.toNat) := by
      rcases w5 k.toNat (by omega) with a | a
      · exact absurd a g.2
      · exact a.2
    refine ⟨WFi_c hi (fun f h1 h2 => bkQ_r h1 h2) (by rw [QB_33, bkQ_f (by omega)]), WFV_q hv w2, by rw [bkQ_f (by omega), bkQ_f (by omega)]; exact w3, fun f i h1 h2 h3 => ?_, fun k' hk' => ?_, by rw [bkQ_f (by omega), bkQ_f (by omega)]; exact w6⟩
    · rw [bkQ_r h1 h2, QB_f ⟨h1, h2⟩, if_neg (by omega)]
    · rw [hm.2.2, QB_eq hm]
      exact w5 k' hk'
  · exact h
theorem KX12_image {k : Int} (hS : Sh M.2.1) (hw : WFA Q) (hH : HoldsQ Q M.1) : ∃ I', Cl l G (d + 2) mX12_image [vR (some (3, 0)), vI k] M (some (vI (imageV Q k))) (I', M.2.1, M.2.2) ∧ HoldsQ (imageQ Q k) I' ∧ frR M.1 I' := by
  unfold imageV imageQ
  by_cases g : 0 ≤ k ∧ k ≤ 3
  · rw [if_pos g, if_pos g]
    obtain ⟨I', y1, y2, y3, _⟩ := KX12_carriesAll (l := l) (G := G) (d := d) (M := (upI M.1 91 0 k.toNat 1, M.2.1, M.2.2)) (bk := 0) (k := k.toNat) hS (by omega) (.inl rfl)
    dsimp only at y2 y3
    obtain ⟨z1, z2, z3⟩ := y3 rfl
    rw [show ((k.toNat : Nat) : Int) = k by omega] at y1
    have er : ∀ f i, 48 ≤ f → f ≤ 70 → I' f 0 i = Q f i := fun f i h1 h2 => by rw [z1 f 0 i h1 h2, upI_o (by omega)]; exact hH.1 f i (by unfold perF; omega)
    refine ⟨I', xX12_image_0 hS ⟨fun _ => ⟨by omega, _, y1, hS, ?_, rfl⟩, fun c => absurd g c⟩, ⟨fun f i hp => ?_, fun i hi => ?_⟩, fun f j i hn => ?_⟩
    · dsimp only
      rw [er _ _ (by omega) (by omega)]
    · by_cases c1 : 48 ≤ f ∧ f ≤ 70
      · rw [er f i c1.1 c1.2, imQ_f (by omega)]
      · by_cases c2 : f = 90
        · rw [c2, imQ_im]
          by_cases ci : 570 * k.toNat ≤ i ∧ i < 570 * k.toNat + 547
          · rw [if_pos ci]
            obtain ⟨q1, q2, q3, q4⟩ := dF_in (o := i - 570 * k.toNat) (by omega)
            have := z2 (dF (i - 570 * k.toNat)).1 (dF (i - 570 * k.toNat)).2 q1 q2 q3
            rw [show 570 * k.toNat + offF (dF (i - 570 * k.toNat)).1 + (dF (i - 570 * k.toNat)).2 = i by omega] at this
            rw [this, upI_o (by omega)]
            exact hH.1 _ _ (by unfold perF; omega)
          · rw [if_neg ci, z3 i ci, upI_o (by omega)]
            exact hH.1 _ _ (by unfold perF; omega)
        · rw [y2 f 0 i (by unfold perF at hp; omega) (by omega) (by omega)]
          by_cases c3 : f = 91
          · rw [c3, imQ_md, upI_c]
            split
            · rfl
            · exact hH.1 _ _ (by unfold perF; omega)
          · rw [upI_o (by omega), imQ_f (by omega)]
            exact hH.1 f i hp
    · have e : srt (imQ Q k.toNat) = srt Q := srt_q ⟨by rw [imQ_f (by omega)], by rw [imQ_f (by omega)], imQ_f (by omega), imQ_f (by omega), imQ_f (by omega), imQ_f (by omega), imQ_f (by omega), imQ_f (by omega), imQ_f (by omega)⟩
      have en : nCh (imQ Q k.toNat) = nCh Q := by unfold nCh; rw [imQ_f (by omega)]
      rw [en] at hi
      rw [y2 _ _ _ (by omega) (by omega) (by omega), upI_o (by omega), e]
      exact hH.2 i hi
    · rw [y2 f j i (by omega) (by omega) (by omega), upI_o (by omega)]
  · rw [if_neg g, if_neg g]
    exact ⟨M.1, xX12_image_0 hS ⟨fun c => absurd c g, fun _ => ⟨rfl, rfl⟩⟩, hH, frR.rf⟩
theorem KX12_back {k : Int} (hS : Sh M.2.1) (hw : WFA Q) (hH : HoldsQ Q M.1) : ∃ I', Cl l G (d + 2) mX12_back [vR (some (3, 0)), vI k] M (some (vI (backV Q k))) (I', M.2.1, M.2.2) ∧ HoldsQ (backQ Q k) I' ∧ frR M.1 I' := by
  have hW := backQ_W (k := k) hw
  unfold backV
  unfold backQ at hW ⊢
  by_cases g : (0 ≤ k ∧ k ≤ 3) ∧ ¬ Q 91 k.toNat = 0
  · rw [if_pos g] at hW
    rw [if_pos g, if_pos g]
    have em : M.1 91 0 k.toNat = Q 91 k.toNat := hH.1 _ _ (by unfold perF; omega)
    obtain ⟨I1, y1, y2, _, y3⟩ := KX12_carriesAll (l := l) (G := G) (d := d) (M := M) (bk := 1) (k := k.toNat) hS (by omega) (.inr rfl)
    obtain ⟨z1, z2, z3⟩ := y3 (by omega)
    rw [show ((k.toNat : Nat) : Int) = k by omega] at y1
    have er : ∀ f i, 48 ≤ f → f ≤ 70 → I1 f 0 i = bkQ Q k.toNat f i := fun f i h1 h2 => by
      rw [bkQ_r h1 h2, QB_f ⟨h1, h2⟩]
      by_cases c : i < lenF f
      · rw [if_pos c, z2 f i h1 h2 c]
        exact hH.1 _ _ (by unfold perF; omega)
      · rw [if_neg c, z3 f i h1 h2 (by omega), hH.1 f i (by unfold perF; omega)]
        exact hw.2.2.2.1 f i h1 h2 (by omega)
    have hn := hW.1.1
    have ks := KX12_sorts (l := l) (G := G) (d := d + 1) (M := (I1, M.2.1, M.2.2)) hS (n := nCh (bkQ Q k.toNat)) (by dsimp only; rw [er _ _ (by omega) (by omega)]; exact nCh_eq hn) (nCh_le hn)
    dsimp only at ks
    refine ⟨seI I1 74 0 (rowS (I1 56 0) (I1 74 0) (nCh (bkQ Q k.toNat))), xX12_back_0 hS ⟨fun c => absurd g.1 c, fun _ => ⟨by omega, fun _ => ⟨_, y1, _, ks, hS, ?_, rfl⟩, fun c => absurd (em.symm.trans c) g.2⟩⟩, ⟨fun f i hp => ?_, fun i hi => ?_⟩, fun f j i hn => ?_⟩
    · dsimp only
      rw [seI_o (by omega), er _ _ (by omega) (by omega)]
    · rw [seI_o (by unfold perF at hp; omega)]
      by_cases c1 : 48 ≤ f ∧ f ≤ 70
      · exact er f i c1.1 c1.2
      · rw [bkQ_f c1]
        by_cases c2 : f = 90
        · rw [c2, z1]; exact hH.1 _ _ (by unfold perF; omega)
        · rw [y2 f 0 i (by unfold perF at hp; omega) (by omega) (by omega)]
          exact hH.1 f i hp
    · rw [seI_s]
      unfold rowS
      rw [if_pos hi, show I1 56 0 = bkQ Q k.toNat 56 from funext fun i => er _ _ (by omega) (by omega)]
      rfl
    · rw [seI_o (by omega), y2 f j i (by omega) (by omega) (by omega)]
  · rw [if_neg g, if_neg g]
    refine ⟨M.1, xX12_back_0 hS ⟨fun _ => ⟨rfl, rfl⟩, fun c => ⟨by omega, fun c2 => ?_, fun _ => ⟨rfl, rfl⟩⟩⟩, hH, frR.rf⟩
    have em : M.1 91 0 k.toNat = Q 91 k.toNat := hH.1 _ _ (by unfold perF; omega)
    rw [em] at c2
    exact absurd ⟨c, c2⟩ g
end CA
