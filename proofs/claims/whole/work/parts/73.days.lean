/-! days: the reference -/
set_option maxRecDepth 4000 in
theorem xX12_goesOn_0 {l : Launch} {G : Gt} {d : Nat} {M M' : Mem} {r : Option Vl} {x1 : Int} (hS : Sh M.2.1) (h : 
    ((0 ≤ x1 ∧ x1 < 8)) ∧ (∃ (M_2 : Mem), Cl l G d mX12_lays [vR (some (3, 0)), vI 0, vI (M.1 65 0 x1.toNat)] M none M_2 ∧ Sh M_2.2.1 ∧ (∃ (M_4 : Mem), Cl l G d mX12_lays [vR (some (3, 0)), vI 1, vI (M_2.1 48 0 5)] M_2 none M_4 ∧ Sh M_4.2.1 ∧ (((0 ≤ x1 ∧ x1 < 8)) ∧ (∃ (r_9 : Int) (M_7 : Mem), Cl l G d mX12_asks [vR (some (3, 0)), vI (M_4.1 63 0 x1.toNat), vI (M_4.1 62 0 x1.toNat), vI (M_4.1 67 0 x1.toNat)] M_4 (some (vI r_9)) M_7 ∧ Sh M_7.2.1 ∧ ((¬ (r_9 = 0) → (¬ (r_9 = 1) → ((0 ≤ x1 ∧ x1 < 8)) ∧ (∃ (r_13 : Int) (M_11 : Mem), Cl l G d mX12_unseen [vR (some (3, 0)), vI (M_7.1 67 0 x1.toNat), vI (M_7.1 70 0 x1.toNat)] M_7 (some (vI r_13)) M_11 ∧ Sh M_11.2.1 ∧ ((¬ (r_13 = (-1)) → ((0 ≤ x1 ∧ x1 < 8)) ∧ (∃ (r_17 : Int) (M_15 : Mem), Cl l G d mX12_roadOf [vR (some (3, 0)), vI (M_11.1 67 0 x1.toNat), vI r_13] M_11 (some (vI r_17)) M_15 ∧ Sh M_15.2.1 ∧ ((0 ≤ r_17 ∧ r_17 < 16) ∧ InR ((M_11.1 48 0 5) + (M_15.1 55 0 r_17.toNat)) ∧ (0 ≤ x1 ∧ x1 < 8) ∧ (0 ≤ r_13 ∧ r_13 < 32)) ∧ r = none ∧ M' = ((upI (upI (upI M_15.1 68 0 x1.toNat ((M_11.1 48 0 5) + (M_15.1 55 0 r_17.toNat))) 67 0 x1.toNat r_13) 70 0 x1.toNat (aOr (M_15.1 70 0 x1.toNat) (aShl 1 r_13))), M_15.2.1, M_15.2.2))) ∧ (r_13 = (-1) → ((0 ≤ x1 ∧ x1 < 8)) ∧ r = none ∧ M' = ((upI M_11.1 66 0 x1.toNat 2), M_11.2.1, M_11.2.2))))) ∧ (r_9 = 1 → (¬ ((M_7.1 3 0 49) = (-1)) → ((0 ≤ x1 ∧ x1 < 8)) ∧ (∃ (r_26 : Int) (M_24 : Mem), Cl l G d mX12_roadOf [vR (some (3, 0)), vI (M_7.1 67 0 x1.toNat), vI (M_7.1 3 0 49)] M_7 (some (vI r_26)) M_24 ∧ Sh M_24.2.1 ∧ ((0 ≤ r_26 ∧ r_26 < 16) ∧ InR ((M_7.1 48 0 5) + (M_24.1 55 0 r_26.toNat)) ∧ (0 ≤ x1 ∧ x1 < 8) ∧ (0 ≤ (M_7.1 3 0 49) ∧ (M_7.1 3 0 49) < 32)) ∧ r = none ∧ M' = ((upI (upI (upI M_24.1 68 0 x1.toNat ((M_7.1 48 0 5) + (M_24.1 55 0 r_26.toNat))) 67 0 x1.toNat (M_7.1 3 0 49)) 70 0 x1.toNat (aOr (M_24.1 70 0 x1.toNat) (aShl 1 (M_7.1 3 0 49)))), M_24.2.1, M_24.2.2))) ∧ ((M_7.1 3 0 49) = (-1) → ((0 ≤ x1 ∧ x1 < 8)) ∧ r = none ∧ M' = ((upI M_7.1 66 0 x1.toNat 2), M_7.2.1, M_7.2.2)))) ∧ (r_9 = 0 → ((0 ≤ x1 ∧ x1 < 8)) ∧ r = none ∧ M' = ((upI (upI M_7.1 66 0 x1.toNat 1) 69 0 x1.toNat (M_7.1 3 0 48)), M_7.2.1, M_7.2.2)))))))) : Cl l G (d + 1) mX12_goesOn [vR (some (3, 0)), vI x1] M r M' := by
  show Ex l G (d + 1) mX12_goesOn 0 [some (vR (some (3, 0))), some (vI x1), none, none] [] M r M'
  obtain ⟨o_1, h⟩ := h
  refine r_aload_n 1 dX12_goesOn_0 rfl rfl ?_
  refine r_iconst 2 dX12_goesOn_1 rfl (InR_of rfl) ?_
  refine r_aload_n 3 dX12_goesOn_2 rfl rfl ?_
  refine g_R 6 dX12_goesOn_3 rfl rfl rfl fr_12_61 (sh_12_18 hS) ?_
  refine r_iload_n 7 dX12_goesOn_6 rfl rfl ?_
  refine a_I 8 8 dX12_goesOn_7 rfl rfl rfl rfl o_1 rfl ?_
  obtain ⟨M_2, hc_3, hS, h⟩ := h
  refine v_0 (ci := 12) (C := (RX12, TX12, 68)) [vI 0, vI (M.1 65 0 x1.toNat)] [] 11 dX12_goesOn_8 rfl rfl rfl rfl rfl mo_X12_lays ml_12_198 rfl rfl hc_3 ?_
  refine r_aload_n 12 dX12_goesOn_11 rfl rfl ?_
  refine r_iconst 13 dX12_goesOn_12 rfl (InR_of rfl) ?_
  refine r_aload_n 14 dX12_goesOn_13 rfl rfl ?_
  refine g_R 17 dX12_goesOn_14 rfl rfl rfl fr_12_7 (sh_12_1 hS) ?_
  refine r_iconst 18 dX12_goesOn_17 rfl (InR_of rfl) ?_
  refine a_I 6 19 dX12_goesOn_18 rfl rfl rfl rfl ⟨by decide, by decide⟩ rfl ?_
  obtain ⟨M_4, hc_5, hS, h⟩ := h
  refine v_0 (ci := 12) (C := (RX12, TX12, 68)) [vI 1, vI (M_2.1 48 0 5)] [] 22 dX12_goesOn_19 rfl rfl rfl rfl rfl mo_X12_lays ml_12_198 rfl rfl hc_5 ?_
  obtain ⟨o_6, h⟩ := h
  refine r_aload_n 23 dX12_goesOn_22 rfl rfl ?_
  refine r_aload_n 24 dX12_goesOn_23 rfl rfl ?_
  refine g_R 27 dX12_goesOn_24 rfl rfl rfl fr_12_55 (sh_12_16 hS) ?_
  refine r_iload_n 28 dX12_goesOn_27 rfl rfl ?_
  refine a_I 8 29 dX12_goesOn_28 rfl rfl rfl rfl o_6 rfl ?_
  refine r_aload_n 30 dX12_goesOn_29 rfl rfl ?_
  refine g_R 33 dX12_goesOn_30 rfl rfl rfl fr_12_52 (sh_12_15 hS) ?_
  refine r_iload_n 34 dX12_goesOn_33 rfl rfl ?_
  refine a_I 8 35 dX12_goesOn_34 rfl rfl rfl rfl o_6 rfl ?_
  refine r_aload_n 36 dX12_goesOn_35 rfl rfl ?_
  refine g_R 39 dX12_goesOn_36 rfl rfl rfl fr_12_67 (sh_12_20 hS) ?_
  refine r_iload_n 40 dX12_goesOn_39 rfl rfl ?_
  refine a_I 8 41 dX12_goesOn_40 rfl rfl rfl rfl o_6 rfl ?_
  obtain ⟨r_9, M_7, hc_8, hS, h⟩ := h
  refine v_1 (ci := 12) (C := (RX12, TX12, 68)) [vI (M_4.1 63 0 x1.toNat), vI (M_4.1 62 0 x1.toNat), vI (M_4.1 67 0 x1.toNat)] [] 44 dX12_goesOn_41 rfl rfl rfl rfl rfl mo_X12_asks ml_12_352 rfl rfl hc_8 ?_
  refine r_istore_n (ls' := [some (vR (some (3, 0))), some (vI x1), some (vI r_9), none]) 45 dX12_goesOn_44 rfl rfl rfl rfl ?_
  refine r_iload_n 46 dX12_goesOn_45 rfl rfl ?_
  refine r_if_ne 49 67 dX12_goesOn_46 rfl rfl (fun c => ?_) (fun c => ?_)
  · have h := h.1 (c)
    refine r_iload_n 68 dX12_goesOn_67 rfl rfl ?_
    refine r_iconst 69 dX12_goesOn_68 rfl (InR_of rfl) ?_
    refine r_icmp_ne 72 79 dX12_goesOn_69 rfl rfl (fun c => ?_) (fun c => ?_)
    · have h := h.1 (c)
      obtain ⟨o_10, h⟩ := h
      refine r_aload_n 80 dX12_goesOn_79 rfl rfl ?_
      refine r_aload_n 81 dX12_goesOn_80 rfl rfl ?_
      refine g_R 84 dX12_goesOn_81 rfl rfl rfl fr_12_67 (sh_12_20 hS) ?_
      refine r_iload_n 85 dX12_goesOn_84 rfl rfl ?_
      refine a_I 8 86 dX12_goesOn_85 rfl rfl rfl rfl o_10 rfl ?_
      refine r_aload_n 87 dX12_goesOn_86 rfl rfl ?_
      refine g_R 90 dX12_goesOn_87 rfl rfl rfl fr_12_76 (sh_12_23 hS) ?_
      refine r_iload_n 91 dX12_goesOn_90 rfl rfl ?_
      refine a_I 8 92 dX12_goesOn_91 rfl rfl rfl rfl o_10 rfl ?_
      obtain ⟨r_13, M_11, hc_12, hS, h⟩ := h
      refine v_1 (ci := 12) (C := (RX12, TX12, 68)) [vI (M_7.1 67 0 x1.toNat), vI (M_7.1 70 0 x1.toNat)] [] 95 dX12_goesOn_92 rfl rfl rfl rfl rfl mo_X12_unseen ml_12_355 rfl rfl hc_12 ?_
      refine r_istore_n (ls' := [some (vR (some (3, 0))), some (vI x1), some (vI r_9), some (vI r_13)]) 96 dX12_goesOn_95 rfl rfl rfl rfl ?_
      refine r_iload_n 97 dX12_goesOn_96 rfl rfl ?_
      refine r_iconst 98 dX12_goesOn_97 rfl (InR_of rfl) ?_
      refine r_icmp_ne 101 109 dX12_goesOn_98 rfl rfl (fun c => ?_) (fun c => ?_)
      · have h := h.1 (c)
        obtain ⟨o_14, h⟩ := h
        refine r_aload_n 110 dX12_goesOn_109 rfl rfl ?_
        refine g_R 113 dX12_goesOn_110 rfl rfl rfl fr_12_70 (sh_12_21 hS) ?_
        refine r_iload_n 114 dX12_goesOn_113 rfl rfl ?_
        refine r_aload_n 115 dX12_goesOn_114 rfl rfl ?_
        refine g_R 118 dX12_goesOn_115 rfl rfl rfl fr_12_7 (sh_12_1 hS) ?_
        refine r_iconst 119 dX12_goesOn_118 rfl (InR_of rfl) ?_
        refine a_I 6 120 dX12_goesOn_119 rfl rfl rfl rfl ⟨by decide, by decide⟩ rfl ?_
        refine r_aload_n 121 dX12_goesOn_120 rfl rfl ?_
        refine g_R 124 dX12_goesOn_121 rfl rfl rfl fr_12_31 (sh_12_8 hS) ?_
        refine r_aload_n 125 dX12_goesOn_124 rfl rfl ?_
        refine r_aload_n 126 dX12_goesOn_125 rfl rfl ?_
        refine g_R 129 dX12_goesOn_126 rfl rfl rfl fr_12_67 (sh_12_20 hS) ?_
        refine r_iload_n 130 dX12_goesOn_129 rfl rfl ?_
        refine a_I 8 131 dX12_goesOn_130 rfl rfl rfl rfl o_14 rfl ?_
        refine r_iload_n 132 dX12_goesOn_131 rfl rfl ?_
        obtain ⟨r_17, M_15, hc_16, hS, h⟩ := h
        refine v_1 (ci := 12) (C := (RX12, TX12, 68)) [vI (M_11.1 67 0 x1.toNat), vI r_13] [vR (some (55, 0)), vI (M_11.1 48 0 5), vI x1, vR (some (68, 0))] 135 dX12_goesOn_132 rfl rfl rfl rfl rfl mo_X12_roadOf ml_12_166 rfl rfl hc_16 ?_
        obtain ⟨⟨o_18, o_19, o_20, o_21⟩, h⟩ := h
        refine a_I 16 136 dX12_goesOn_135 rfl rfl rfl rfl o_18 rfl ?_
        refine r_iadd 137 dX12_goesOn_136 rfl o_19 ?_
        refine s_I 8 138 dX12_goesOn_137 rfl rfl (by decide) rfl rfl o_20 ?_
        refine r_aload_n 139 dX12_goesOn_138 rfl rfl ?_
        refine g_R 142 dX12_goesOn_139 rfl rfl rfl fr_12_67 (mR_0 (sh_12_20 hS)) ?_
        refine r_iload_n 143 dX12_goesOn_142 rfl rfl ?_
        refine r_iload_n 144 dX12_goesOn_143 rfl rfl ?_
        refine s_I 8 145 dX12_goesOn_144 rfl rfl (by decide) rfl rfl o_20 ?_
        refine r_aload_n 146 dX12_goesOn_145 rfl rfl ?_
        refine g_R 149 dX12_goesOn_146 rfl rfl rfl fr_12_76 (mR_0 (sh_12_23 hS)) ?_
        refine r_iload_n 150 dX12_goesOn_149 rfl rfl ?_
        refine r_dup2 151 dX12_goesOn_150 rfl rfl ?_
        refine a_I 8 152 dX12_goesOn_151 rfl rfl rfl rfl o_20 (mI_0 ((upI_f rfl).trans (upI_f rfl))) ?_
        refine r_iconst 153 dX12_goesOn_152 rfl (InR_of rfl) ?_
        refine r_iload_n 154 dX12_goesOn_153 rfl rfl ?_
        refine r_ishl 155 dX12_goesOn_154 rfl o_21 ?_
        refine r_ior 156 dX12_goesOn_155 rfl ?_
        refine s_I 8 157 dX12_goesOn_156 rfl rfl (by decide) rfl rfl o_20 ?_
        exact r_vret dX12_goesOn_157 rfl h.1 h.2
      · have h := h.2 (Decidable.not_not.mp c)
        obtain ⟨o_22, h⟩ := h
        refine r_aload_n 102 dX12_goesOn_101 rfl rfl ?_
        refine g_R 105 dX12_goesOn_102 rfl rfl rfl fr_12_64 (sh_12_19 hS) ?_
        refine r_iload_n 106 dX12_goesOn_105 rfl rfl ?_
        refine r_iconst 107 dX12_goesOn_106 rfl (InR_of rfl) ?_
        refine s_I 8 108 dX12_goesOn_107 rfl rfl (by decide) rfl rfl o_22 ?_
        exact r_vret dX12_goesOn_108 rfl h.1 h.2
    · have h := h.2 (Decidable.not_not.mp c)
      refine r_aload_n 73 dX12_goesOn_72 rfl rfl ?_
      refine g_I 76 dX12_goesOn_73 rfl rfl rfl fi_12_340 rfl ?_
      refine r_goto 95 dX12_goesOn_76 rfl ?_
      refine r_istore_n (ls' := [some (vR (some (3, 0))), some (vI x1), some (vI r_9), some (vI (M_7.1 3 0 49))]) 96 dX12_goesOn_95 rfl rfl rfl rfl ?_
      refine r_iload_n 97 dX12_goesOn_96 rfl rfl ?_
      refine r_iconst 98 dX12_goesOn_97 rfl (InR_of rfl) ?_
      refine r_icmp_ne 101 109 dX12_goesOn_98 rfl rfl (fun c => ?_) (fun c => ?_)
      · have h := h.1 (c)
        obtain ⟨o_23, h⟩ := h
        refine r_aload_n 110 dX12_goesOn_109 rfl rfl ?_
        refine g_R 113 dX12_goesOn_110 rfl rfl rfl fr_12_70 (sh_12_21 hS) ?_
        refine r_iload_n 114 dX12_goesOn_113 rfl rfl ?_
        refine r_aload_n 115 dX12_goesOn_114 rfl rfl ?_
        refine g_R 118 dX12_goesOn_115 rfl rfl rfl fr_12_7 (sh_12_1 hS) ?_
        refine r_iconst 119 dX12_goesOn_118 rfl (InR_of rfl) ?_
        refine a_I 6 120 dX12_goesOn_119 rfl rfl rfl rfl ⟨by decide, by decide⟩ rfl ?_
        refine r_aload_n 121 dX12_goesOn_120 rfl rfl ?_
        refine g_R 124 dX12_goesOn_121 rfl rfl rfl fr_12_31 (sh_12_8 hS) ?_
        refine r_aload_n 125 dX12_goesOn_124 rfl rfl ?_
        refine r_aload_n 126 dX12_goesOn_125 rfl rfl ?_
        refine g_R 129 dX12_goesOn_126 rfl rfl rfl fr_12_67 (sh_12_20 hS) ?_
        refine r_iload_n 130 dX12_goesOn_129 rfl rfl ?_
        refine a_I 8 131 dX12_goesOn_130 rfl rfl rfl rfl o_23 rfl ?_
        refine r_iload_n 132 dX12_goesOn_131 rfl rfl ?_
        obtain ⟨r_26, M_24, hc_25, hS, h⟩ := h
        refine v_1 (ci := 12) (C := (RX12, TX12, 68)) [vI (M_7.1 67 0 x1.toNat), vI (M_7.1 3 0 49)] [vR (some (55, 0)), vI (M_7.1 48 0 5), vI x1, vR (some (68, 0))] 135 dX12_goesOn_132 rfl rfl rfl rfl rfl mo_X12_roadOf ml_12_166 rfl rfl hc_25 ?_
        obtain ⟨⟨o_27, o_28, o_29, o_30⟩, h⟩ := h
        refine a_I 16 136 dX12_goesOn_135 rfl rfl rfl rfl o_27 rfl ?_
        refine r_iadd 137 dX12_goesOn_136 rfl o_28 ?_
        refine s_I 8 138 dX12_goesOn_137 rfl rfl (by decide) rfl rfl o_29 ?_
        refine r_aload_n 139 dX12_goesOn_138 rfl rfl ?_
        refine g_R 142 dX12_goesOn_139 rfl rfl rfl fr_12_67 (mR_0 (sh_12_20 hS)) ?_
        refine r_iload_n 143 dX12_goesOn_142 rfl rfl ?_
        refine r_iload_n 144 dX12_goesOn_143 rfl rfl ?_
        refine s_I 8 145 dX12_goesOn_144 rfl rfl (by decide) rfl rfl o_29 ?_
        refine r_aload_n 146 dX12_goesOn_145 rfl rfl ?_
        refine g_R 149 dX12_goesOn_146 rfl rfl rfl fr_12_76 (mR_0 (sh_12_23 hS)) ?_
        refine r_iload_n 150 dX12_goesOn_149 rfl rfl ?_
        refine r_dup2 151 dX12_goesOn_150 rfl rfl ?_
        refine a_I 8 152 dX12_goesOn_151 rfl rfl rfl rfl o_29 (mI_0 ((upI_f rfl).trans (upI_f rfl))) ?_
        refine r_iconst 153 dX12_goesOn_152 rfl (InR_of rfl) ?_
        refine r_iload_n 154 dX12_goesOn_153 rfl rfl ?_
        refine r_ishl 155 dX12_goesOn_154 rfl o_30 ?_
        refine r_ior 156 dX12_goesOn_155 rfl ?_
        refine s_I 8 157 dX12_goesOn_156 rfl rfl (by decide) rfl rfl o_29 ?_
        exact r_vret dX12_goesOn_157 rfl h.1 h.2
      · have h := h.2 (Decidable.not_not.mp c)
        obtain ⟨o_31, h⟩ := h
        refine r_aload_n 102 dX12_goesOn_101 rfl rfl ?_
        refine g_R 105 dX12_goesOn_102 rfl rfl rfl fr_12_64 (sh_12_19 hS) ?_
        refine r_iload_n 106 dX12_goesOn_105 rfl rfl ?_
        refine r_iconst 107 dX12_goesOn_106 rfl (InR_of rfl) ?_
        refine s_I 8 108 dX12_goesOn_107 rfl rfl (by decide) rfl rfl o_31 ?_
        exact r_vret dX12_goesOn_108 rfl h.1 h.2
  · have h := h.2 (Decidable.not_not.mp c)
    obtain ⟨o_32, h⟩ := h
    refine r_aload_n 50 dX12_goesOn_49 rfl rfl ?_
    refine g_R 53 dX12_goesOn_50 rfl rfl rfl fr_12_64 (sh_12_19 hS) ?_
    refine r_iload_n 54 dX12_goesOn_53 rfl rfl ?_
    refine r_iconst 55 dX12_goesOn_54 rfl (InR_of rfl) ?_
    refine s_I 8 56 dX12_goesOn_55 rfl rfl (by decide) rfl rfl o_32 ?_
    refine r_aload_n 57 dX12_goesOn_56 rfl rfl ?_
    refine g_R 60 dX12_goesOn_57 rfl rfl rfl fr_12_73 (mR_0 (sh_12_22 hS)) ?_
    refine r_iload_n 61 dX12_goesOn_60 rfl rfl ?_
    refine r_aload_n 62 dX12_goesOn_61 rfl rfl ?_
    refine g_I 65 dX12_goesOn_62 rfl rfl rfl fi_12_337 (mI_0 (upI_f rfl)) ?_
    refine s_I 8 66 dX12_goesOn_65 rfl rfl (by decide) rfl rfl o_32 ?_
    exact r_vret dX12_goesOn_66 rfl h.1 h.2

set_option maxRecDepth 4000 in
theorem xX12_underWay_0 {l : Launch} {G : Gt} {d : Nat} {M M' : Mem} {r : Option Vl}  (h : 
    Ex l G d mX12_underWay 4 [some (vR (some (3, 0))), some (vI 0), some (vI 0)] [] M r M') : Cl l G d mX12_underWay [vR (some (3, 0))] M r M' := by
  show Ex l G d mX12_underWay 0 [some (vR (some (3, 0))), none, none] [] M r M'
  refine r_iconst 1 dX12_underWay_0 rfl (InR_of rfl) ?_
  refine r_istore_n (ls' := [some (vR (some (3, 0))), some (vI 0), none]) 2 dX12_underWay_1 rfl rfl rfl rfl ?_
  refine r_iconst 3 dX12_underWay_2 rfl (InR_of rfl) ?_
  refine r_istore_n (ls' := [some (vR (some (3, 0))), some (vI 0), some (vI 0)]) 4 dX12_underWay_3 rfl rfl rfl rfl ?_
  exact h
set_option maxRecDepth 4000 in
theorem xX12_underWay_4 {l : Launch} {G : Gt} {d : Nat} {M M' : Mem} {r : Option Vl} {x1 : Int} {x2 : Int} (hS : Sh M.2.1) (h : 
    ((M.1 48 0 3) ≤ x2 → r = some (vI x1) ∧ M' = M) ∧ (¬ ((M.1 48 0 3) ≤ x2) → ((0 ≤ x2 ∧ x2 < 8)) ∧ (InR (x1 + (if (M.1 66 0 x2.toNat) = 0 then 1 else 0 : Int)) ∧ InR (x2 + 1)) ∧ Ex l G d mX12_underWay 4 [some (vR (some (3, 0))), some (vI (x1 + (if (M.1 66 0 x2.toNat) = 0 then 1 else 0 : Int))), some (vI (x2 + 1))] [] M r M')) : Ex l G d mX12_underWay 4 [some (vR (some (3, 0))), some (vI x1), some (vI x2)] [] M r M' := by
  refine r_iload_n 5 dX12_underWay_4 rfl rfl ?_
  refine r_aload_n 6 dX12_underWay_5 rfl rfl ?_
  refine g_R 9 dX12_underWay_6 rfl rfl rfl fr_12_7 (sh_12_1 hS) ?_
  refine r_iconst 10 dX12_underWay_9 rfl (InR_of rfl) ?_
  refine a_I 6 11 dX12_underWay_10 rfl rfl rfl rfl ⟨by decide, by decide⟩ rfl ?_
  refine r_icmp_ge 14 37 dX12_underWay_11 rfl rfl (fun c => ?_) (fun c => ?_)
  · have h := h.1 (c)
    refine r_iload_n 38 dX12_underWay_37 rfl rfl ?_
    exact r_iret dX12_underWay_38 rfl (.inl rfl) h.1 h.2
  · have h := h.2 (c)
    obtain ⟨o_1, h⟩ := h
    refine r_iload_n 15 dX12_underWay_14 rfl rfl ?_
    refine r_aload_n 16 dX12_underWay_15 rfl rfl ?_
    refine g_R 19 dX12_underWay_16 rfl rfl rfl fr_12_64 (sh_12_19 hS) ?_
    refine r_iload_n 20 dX12_underWay_19 rfl rfl ?_
    refine a_I 8 21 dX12_underWay_20 rfl rfl rfl rfl o_1 rfl ?_
    have hJ_2 : Ex l G d mX12_underWay 29 [some (vR (some (3, 0))), some (vI x1), some (vI x2)] [vI (if (M.1 66 0 x2.toNat) = 0 then 1 else 0 : Int), vI x1] M r M' := by
      obtain ⟨⟨o_4, o_5⟩, h⟩ := h
      refine r_iadd 30 dX12_underWay_29 rfl o_4 ?_
      refine r_istore_n (ls' := [some (vR (some (3, 0))), some (vI (x1 + (if (M.1 66 0 x2.toNat) = 0 then 1 else 0 : Int))), some (vI x2)]) 31 dX12_underWay_30 rfl rfl rfl rfl ?_
      refine r_iinc (ls' := [some (vR (some (3, 0))), some (vI (x1 + (if (M.1 66 0 x2.toNat) = 0 then 1 else 0 : Int))), some (vI (x2 + 1))]) 34 dX12_underWay_31 rfl rfl rfl rfl o_5 rfl ?_
      refine r_goto 4 dX12_underWay_34 rfl ?_
      exact h
    refine r_if_ne 24 28 dX12_underWay_21 rfl rfl (fun c => ?_) (fun c => ?_)
    · have c_3 := c
      refine r_iconst 29 dX12_underWay_28 rfl (InR_of rfl) ?_
      exact (Ex.at hJ_2 rfl (show [vI 0, vI x1] = [vI (if (M.1 66 0 x2.toNat) = 0 then 1 else 0 : Int), vI x1] by simp only [if_neg c_3]) rfl)
    · have c_3 := Decidable.not_not.mp c
      refine r_iconst 25 dX12_underWay_24 rfl (InR_of rfl) ?_
      refine r_goto 29 dX12_underWay_25 rfl ?_
      exact (Ex.at hJ_2 rfl (show [vI 1, vI x1] = [vI (if (M.1 66 0 x2.toNat) = 0 then 1 else 0 : Int), vI x1] by simp only [if_pos c_3]) rfl)

set_option maxRecDepth 4000 in
theorem xX12_days_0 {l : Launch} {G : Gt} {d : Nat} {M M' : Mem} {r : Option Vl} {x1 : Int} (hS : Sh M.2.1) (h : 
    (¬ (1 ≤ x1 ∧ x1 ≤ 60) → r = some (vI (-1)) ∧ M' = M) ∧ (1 ≤ x1 ∧ x1 ≤ 60 → (InR ((M.1 48 0 5) + x1)) ∧ ((((M.1 48 0 5) + x1) ≤ 999 → Ex l G (d + 1) mX12_days 30 [some (vR (some (3, 0))), some (vI x1), some (vI 0), none] [] M r M') ∧ (¬ (((M.1 48 0 5) + x1) ≤ 999) → r = some (vI (-1)) ∧ M' = M)))) : Cl l G (d + 1) mX12_days [vR (some (3, 0)), vI x1] M r M' := by
  show Ex l G (d + 1) mX12_days 0 [some (vR (some (3, 0))), some (vI x1), none, none] [] M r M'
  refine r_iload_n 1 dX12_days_0 rfl rfl ?_
  refine r_i2l 2 dX12_days_1 rfl ?_
  refine r_lconst (x := 1) 3 dX12_days_2 rfl (by decide +kernel) (InR_of rfl) ?_
  refine r_ldc2 (n := 60) 6 dX12_days_3 rfl (inT7 (List.mem_of_getElem? (i := 65) rfl) rfl) (by decide +kernel) (InR_of rfl) ?_
  refine c_1 [vL x1, vL 1, vL 60] [] 9 dX12_days_6 rfl rfl mo_X12_in ml_12_154 rfl rfl (KX12_in) ?_
  refine r_if_eq 12 26 dX12_days_9 rfl rfl (fun c => ?_) (fun c => ?_)
  · have h := h.1 (b2_0.mp c)
    refine r_iconst 27 dX12_days_26 rfl (InR_of rfl) ?_
    exact r_iret dX12_days_27 rfl (.inl rfl) h.1 h.2
  · have h := h.2 (b2_1.mp c)
    obtain ⟨o_1, h⟩ := h
    refine r_aload_n 13 dX12_days_12 rfl rfl ?_
    refine g_R 16 dX12_days_13 rfl rfl rfl fr_12_7 (sh_12_1 hS) ?_
    refine r_iconst 17 dX12_days_16 rfl (InR_of rfl) ?_
    refine a_I 6 18 dX12_days_17 rfl rfl rfl rfl ⟨by decide, by decide⟩ rfl ?_
    refine r_iload_n 19 dX12_days_18 rfl rfl ?_
    refine r_iadd 20 dX12_days_19 rfl o_1 ?_
    refine r_sipush 23 dX12_days_20 rfl rfl ?_
    refine r_icmp_le 26 28 dX12_days_23 rfl rfl (fun c => ?_) (fun c => ?_)
    · have h := h.1 (c)
      refine r_iconst 29 dX12_days_28 rfl (InR_of rfl) ?_
      refine r_istore_n (ls' := [some (vR (some (3, 0))), some (vI x1), some (vI 0), none]) 30 dX12_days_29 rfl rfl rfl rfl ?_
      exact h
    · have h := h.2 (c)
      refine r_iconst 27 dX12_days_26 rfl (InR_of rfl) ?_
      exact r_iret dX12_days_27 rfl (.inl rfl) h.1 h.2
set_option maxRecDepth 4000 in
theorem xX12_days_30 {l : Launch} {G : Gt} {d : Nat} {M M' : Mem} {r : Option Vl} {x1 : Int} {x2 : Int} (h : 
    (x1 ≤ x2 → ∃ (r_3 : Int) (M_1 : Mem), Cl l G d mX12_underWay [vR (some (3, 0))] M (some (vI r_3)) M_1 ∧ r = some (vI r_3) ∧ M' = M_1) ∧ (¬ (x1 ≤ x2) → Ex l G (d + 1) mX12_days 37 [some (vR (some (3, 0))), some (vI x1), some (vI x2), some (vI 0)] [] M r M')) : Ex l G (d + 1) mX12_days 30 [some (vR (some (3, 0))), some (vI x1), some (vI x2), none] [] M r M' := by
  refine r_iload_n 31 dX12_days_30 rfl rfl ?_
  refine r_iload_n 32 dX12_days_31 rfl rfl ?_
  refine r_icmp_ge 35 98 dX12_days_32 rfl rfl (fun c => ?_) (fun c => ?_)
  · have h := h.1 (c)
    refine r_aload_n 99 dX12_days_98 rfl rfl ?_
    obtain ⟨r_3, M_1, hc_2, h⟩ := h
    refine v_1 (ci := 12) (C := (RX12, TX12, 68)) [] [] 102 dX12_days_99 rfl rfl rfl rfl rfl mo_X12_underWay ml_12_363 rfl rfl hc_2 ?_
    exact r_iret dX12_days_102 rfl (.inl rfl) h.1 h.2
  · have h := h.2 (c)
    refine r_iconst 36 dX12_days_35 rfl (InR_of rfl) ?_
    refine r_istore_n (ls' := [some (vR (some (3, 0))), some (vI x1), some (vI x2), some (vI 0)]) 37 dX12_days_36 rfl rfl rfl rfl ?_
    exact h
set_option maxRecDepth 4000 in
theorem xX12_days_37 {l : Launch} {G : Gt} {d : Nat} {M M' : Mem} {r : Option Vl} {x1 : Int} {x2 : Int} {x3 : Int} (hS : Sh M.2.1) (h : 
    ((M.1 48 0 3) ≤ x3 → (InR ((M.1 48 0 5) + 1) ∧ InR (x2 + 1)) ∧ Ex l G (d + 1) mX12_days 30 [some (vR (some (3, 0))), some (vI x1), some (vI (x2 + 1)), none] [] ((upI M.1 48 0 5 ((M.1 48 0 5) + 1)), M.2.1, M.2.2) r M') ∧ (¬ ((M.1 48 0 3) ≤ x3) → ((0 ≤ x3 ∧ x3 < 8)) ∧ ((¬ ((M.1 66 0 x3.toNat) = 0) → (InR (x3 + 1)) ∧ Ex l G (d + 1) mX12_days 37 [some (vR (some (3, 0))), some (vI x1), some (vI x2), some (vI (x3 + 1))] [] M r M') ∧ ((M.1 66 0 x3.toNat) = 0 → ((0 ≤ x3 ∧ x3 < 8)) ∧ ((¬ ((M.1 68 0 x3.toNat) = (M.1 48 0 5)) → (InR (x3 + 1)) ∧ Ex l G (d + 1) mX12_days 37 [some (vR (some (3, 0))), some (vI x1), some (vI x2), some (vI (x3 + 1))] [] M r M') ∧ ((M.1 68 0 x3.toNat) = (M.1 48 0 5) → ∃ (M_7 : Mem), Cl l G d mX12_goesOn [vR (some (3, 0)), vI x3] M none M_7 ∧ (InR (x3 + 1)) ∧ Ex l G (d + 1) mX12_days 37 [some (vR (some (3, 0))), some (vI x1), some (vI x2), some (vI (x3 + 1))] [] M_7 r M')))))) : Ex l G (d + 1) mX12_days 37 [some (vR (some (3, 0))), some (vI x1), some (vI x2), some (vI x3)] [] M r M' := by
  refine r_iload_n 38 dX12_days_37 rfl rfl ?_
  refine r_aload_n 39 dX12_days_38 rfl rfl ?_
  refine g_R 42 dX12_days_39 rfl rfl rfl fr_12_7 (sh_12_1 hS) ?_
  refine r_iconst 43 dX12_days_42 rfl (InR_of rfl) ?_
  refine a_I 6 44 dX12_days_43 rfl rfl rfl rfl ⟨by decide, by decide⟩ rfl ?_
  refine r_icmp_ge 47 82 dX12_days_44 rfl rfl (fun c => ?_) (fun c => ?_)
  · have h := h.1 (c)
    obtain ⟨⟨o_1, o_2⟩, h⟩ := h
    refine r_aload_n 83 dX12_days_82 rfl rfl ?_
    refine g_R 86 dX12_days_83 rfl rfl rfl fr_12_7 (sh_12_1 hS) ?_
    refine r_iconst 87 dX12_days_86 rfl (InR_of rfl) ?_
    refine r_dup2 88 dX12_days_87 rfl rfl ?_
    refine a_I 6 89 dX12_days_88 rfl rfl rfl rfl ⟨by decide, by decide⟩ rfl ?_
    refine r_iconst 90 dX12_days_89 rfl (InR_of rfl) ?_
    refine r_iadd 91 dX12_days_90 rfl o_1 ?_
    refine s_I 6 92 dX12_days_91 rfl rfl (by decide) rfl rfl ⟨by decide, by decide⟩ ?_
    refine r_iinc (ls' := [some (vR (some (3, 0))), some (vI x1), some (vI (x2 + 1)), some (vI x3)]) 95 dX12_days_92 rfl rfl rfl rfl o_2 rfl ?_
    refine r_goto 30 dX12_days_95 rfl ?_
    exact Ex.weak h ⟨rfl, rfl, rfl, trivial⟩
  · have h := h.2 (c)
    obtain ⟨o_3, h⟩ := h
    refine r_aload_n 48 dX12_days_47 rfl rfl ?_
    refine g_R 51 dX12_days_48 rfl rfl rfl fr_12_64 (sh_12_19 hS) ?_
    refine r_iload_n 52 dX12_days_51 rfl rfl ?_
    refine a_I 8 53 dX12_days_52 rfl rfl rfl rfl o_3 rfl ?_
    refine r_if_ne 56 76 dX12_days_53 rfl rfl (fun c => ?_) (fun c => ?_)
    · have h := h.1 (c)
      obtain ⟨o_4, h⟩ := h
      refine r_iinc (ls' := [some (vR (some (3, 0))), some (vI x1), some (vI x2), some (vI (x3 + 1))]) 79 dX12_days_76 rfl rfl rfl rfl o_4 rfl ?_
      refine r_goto 37 dX12_days_79 rfl ?_
      exact h
    · have h := h.2 (Decidable.not_not.mp c)
      obtain ⟨o_5, h⟩ := h
      refine r_aload_n 57 dX12_days_56 rfl rfl ?_
      refine g_R 60 dX12_days_57 rfl rfl rfl fr_12_70 (sh_12_21 hS) ?_
      refine r_iload_n 61 dX12_days_60 rfl rfl ?_
      refine a_I 8 62 dX12_days_61 rfl rfl rfl rfl o_5 rfl ?_
      refine r_aload_n 63 dX12_days_62 rfl rfl ?_
      refine g_R 66 dX12_days_63 rfl rfl rfl fr_12_7 (sh_12_1 hS) ?_
      refine r_iconst 67 dX12_days_66 rfl (InR_of rfl) ?_
      refine a_I 6 68 dX12_days_67 rfl rfl rfl rfl ⟨by decide, by decide⟩ rfl ?_
      refine r_icmp_ne 71 76 dX12_days_68 rfl rfl (fun c => ?_) (fun c => ?_)
      · have h := h.1 (c)
        obtain ⟨o_6, h⟩ := h
        refine r_iinc (ls' := [some (vR (some (3, 0))), some (vI x1), some (vI x2), some (vI (x3 + 1))]) 79 dX12_days_76 rfl rfl rfl rfl o_6 rfl ?_
        refine r_goto 37 dX12_days_79 rfl ?_
        exact h
      · have h := h.2 (Decidable.not_not.mp c)
        refine r_aload_n 72 dX12_days_71 rfl rfl ?_
        refine r_iload_n 73 dX12_days_72 rfl rfl ?_
        obtain ⟨M_7, hc_8, h⟩ := h
        refine v_0 (ci := 12) (C := (RX12, TX12, 68)) [vI x3] [] 76 dX12_days_73 rfl rfl rfl rfl rfl mo_X12_goesOn ml_12_360 rfl rfl hc_8 ?_
        obtain ⟨o_9, h⟩ := h
        refine r_iinc (ls' := [some (vR (some (3, 0))), some (vI x1), some (vI x2), some (vI (x3 + 1))]) 79 dX12_days_76 rfl rfl rfl rfl o_9 rfl ?_
        refine r_goto 37 dX12_days_79 rfl ?_
        exact h

def cntF (p : Nat → Prop) [DecidablePred p] : Nat → Int
  | 0 => 0
  | k + 1 => cntF p k + (if p k then 1 else 0)
theorem cntF_in (p : Nat → Prop) [DecidablePred p] : ∀ k : Nat, 0 ≤ cntF p k ∧ cntF p k ≤ k := by
  intro k
  induction k with
  | zero => exact ⟨Int.le_refl _, Int.le_refl _⟩
  | succ k ih =>
    unfold cntF
    split <;> omega
def undV (Q : QT) : Int := cntF (fun k => Q 66 k = 0) (nLt Q)
def daysV (Q : QT) (n : Int) : Int := if (1 ≤ n ∧ n ≤ 60) ∧ Q 48 5 + n ≤ 999 then undV (daysF Q n.toNat) else -1
def daysQ (Q : QT) (n : Int) : QT := if (1 ≤ n ∧ n ≤ 60) ∧ Q 48 5 + n ≤ 999 then daysF Q n.toNat else Q
theorem nLt_eq {Q : QT} (h : WFl Q) : Q 48 3 = (nLt Q : Int) := by have := h.1; unfold nLt; omega
section DR
variable {l : Launch} {G : Gt} {d : Nat} {Q : QT} {M : Mem}
theorem KX12_goesOn {i : Nat} (hS : Sh M.2.1) (hq : WFQ Q) (hl : WFl Q) (hH : HoldsQ Q M.1) (hi : i < nLt Q) (hd : Q 68 i = Q 48 5) : ∃ I', Cl l G (d + 4) mX12_goesOn [vR (some (3, 0)), vI (i : Int)] M none (I', M.2.1, M.2.2) ∧ HoldsQ (stepQ Q i) I' ∧ frR M.1 I' := by
  have h8 : nLt Q ≤ 8 := by have := hl.1; unfold nLt; omega
  obtain ⟨a1, a2, a3, a4, a5, a6⟩ := hl.2.2 i hi
  have hnow := hl.2.1
  have hL := letL_WL hl hi
  obtain ⟨I0, c0, s0, L0⟩ := KX12_lays (l := l) (G := G) (d := d + 1) (row := 0) (x2 := Q 65 i) hS hq.1 hH.m.1 (by omega)
  have H0 := hH.fr (frM.ll s0)
  obtain ⟨I1, I3, res, c1, c3, f1, f3, L3, a3'⟩ := ref_ask (l := l) (G := G) (d := d) (cv := (Q 63 i).toNat) (R := M.2.1) (C := M.2.2) (L := letL Q i) hS hq H0.m L0 hL (by omega)
  have H1 := H0.fr f1.m
  have H3 := H0.fr f3.m
  have k0 : Cl l G (d + 3) mX12_lays [vR (some (3, 0)), vI 0, vI (M.1 65 0 (i : Int).toNat)] M none (I0, M.2.1, M.2.2) := by rw [hH.1 _ _ (by unfold perF; omega), Int.toNat_natCast]; exact c0
  have k1 : Cl l G (d + 3) mX12_lays [vR (some (3, 0)), vI 1, vI (I0 48 0 5)] (I0, M.2.1, M.2.2) none (I1, M.2.1, M.2.2) := by rw [H0.1 _ _ (by unfold perF; omega), ← hd]; exact c1
  have k3 : Cl l G (d + 3) mX12_asks [vR (some (3, 0)), vI (I1 63 0 (i : Int).toNat), vI (I1 62 0 (i : Int).toNat), vI (I1 67 0 (i : Int).toNat)] (I1, M.2.1, M.2.2) (some (vI res)) (I3, M.2.1, M.2.2) := by
    rw [H1.1 _ _ (by unfold perF; omega), H1.1 _ _ (by unfold perF; omega), H1.1 _ _ (by unfold perF; omega), Int.toNat_natCast]
    rw [show (((Q 63 i).toNat : Nat) : Int) = Q 63 i by omega] at c3
    exact c3
  have e5 : I3 48 0 5 = Q 48 5 := H3.1 _ _ (by unfold perF; omega)
  have eA : I3 67 0 (i : Int).toNat = Q 67 i := by rw [Int.toNat_natCast]; exact H3.1 _ _ (by unfold perF; omega)
  have eW : I3 70 0 (i : Int).toNat = Q 70 i := by rw [Int.toNat_natCast]; exact H3.1 _ _ (by unfold perF; omega)
  have fr3' : frR M.1 I3 := (frM.ll s0).r.tr f3.m.r
  have hi8 : 0 ≤ (i : Int) ∧ (i : Int) < 8 := by omega
  have gone : ∀ (to : Int) (v : Nat), to = (v : Int) → v < 8 → stQ Q i = (0, (v : Int)) → 1 ≤ rd Q (Q 67 i) v → ∃ I', (∃ (r_17 : Int) (M_15 : Mem), Cl l G (d + 3) mX12_roadOf [vR (some (3, 0)), vI (I3 67 0 (i : Int).toNat), vI to] (I3, M.2.1, M.2.2) (some (vI r_17)) M_15 ∧ Sh M_15.2.1 ∧ ((0 ≤ r_17 ∧ r_17 < 16) ∧ InR ((I3 48 0 5) + (M_15.1 55 0 r_17.toNat)) ∧ (0 ≤ (i : Int) ∧ (i : Int) < 8) ∧ (0 ≤ to ∧ to < 32)) ∧ (none : Option Vl) = none ∧ (I', M.2.1, M.2.2) = ((upI (upI (upI M_15.1 68 0 (i : Int).toNat ((I3 48 0 5) + (M_15.1 55 0 r_17.toNat))) 67 0 (i : Int).toNat to) 70 0 (i : Int).toNat (aOr (M_15.1 70 0 (i : Int).toNat) (aShl 1 to))), M_15.2.1, M_15.2.2)) ∧ HoldsQ (stepQ Q i) I' ∧ frR M.1 I' := by
    intro to v hto hv eS hr1
    subst hto
    have hr9 := rd_in hq.2.1 (Q 67 i) (v : Int)
    have rJ := KX12_roadOf (l := l) (G := G) (d := d + 3) (M := (I3, M.2.1, M.2.2)) (a := Q 67 i) (b := (v : Int)) hS hq.2.1 H3.m.2.2.1
    rcases ro_or hq.2.1 (Q 67 i) (v : Int) with ⟨_, q⟩ | ⟨j, q1, q2, q3, _⟩
    · omega
    rw [q2] at rJ
    have eR : I3 55 0 (j : Int).toNat = rd Q (Q 67 i) v := by rw [Int.toNat_natCast, q3]; exact H3.1 _ _ (by unfold perF; omega)
    have rJ' : Cl l G (d + 3) mX12_roadOf [vR (some (3, 0)), vI (I3 67 0 (i : Int).toNat), vI (v : Int)] (I3, M.2.1, M.2.2) (some (vI (j : Int))) (I3, M.2.1, M.2.2) := by rw [eA]; exact rJ
    refine ⟨upI (upI (upI I3 68 0 i (Q 48 5 + rd Q (Q 67 i) v)) 67 0 i (v : Int)) 70 0 i (aOr (Q 70 i) (aShl 1 (v : Int))), ⟨(j : Int), (I3, M.2.1, M.2.2), rJ', hS, ?_⟩, ?_⟩
    · dsimp only
      rw [eR, e5, eW, Int.toNat_natCast]
      exact ⟨⟨by omega, by unfold InR; omega, hi8, by omega⟩, rfl, rfl⟩
    · unfold stepQ
      rw [eS]
      dsimp only
      rw [if_neg (by omega), if_neg (by omega)]
      exact ⟨((H3.up (by unfold perF; omega) (by omega)).up (by unfold perF; omega) (by omega)).up (by unfold perF; omega) (by omega), ((fr3'.tr (frR.up (by omega))).tr (frR.up (by omega))).tr (frR.up (by omega))⟩
  rcases ask1_or (cv := (Q 63 i).toNat) (s := (letL Q i 1).toNat) (place := (letL Q i 6).toNat) (sent := letL Q i 4) (day := letL Q i 7) hq with e | ⟨r, h, x, e, _, ⟨rfl, v, h1, rfl⟩ | ⟨rfl, v, h1, rfl, h3⟩⟩
  · rw [e] at a3'
    obtain ⟨q1, q2, q3, q4⟩ := a3'
    have eS : stQ Q i = if unsF Q (letL Q i 6).toNat (lw (letL Q i)) 8 = -1 then (2, -1) else (0, unsF Q (letL Q i 6).toNat (lw (letL Q i)) 8) := by unfold stQ stpL stp; rw [e]
    have nn := KX12_unseen (l := l) (G := G) (d := d + 2) (M := (I3, M.2.1, M.2.2)) (a := (letL Q i 6).toNat) (w := lw (letL Q i)) hS hq.2.1 H3.m.2.2.1
    have e6 : (((letL Q i 6).toNat : Nat) : Int) = Q 67 i := by show (((Q 67 i).toNat : Nat) : Int) = _; omega
    have e9 : bI 8 (lw (letL Q i)) = Q 70 i := a5.symm
    rw [e6, e9] at nn
    have nn' : Cl l G (d + 3) mX12_unseen [vR (some (3, 0)), vI (I3 67 0 (i : Int).toNat), vI (I3 70 0 (i : Int).toNat)] (I3, M.2.1, M.2.2) (some (vI (unsF Q (letL Q i 6).toNat (lw (letL Q i)) 8))) (I3, M.2.1, M.2.2) := by rw [eA, eW]; exact nn
    rcases unsF_or Q (letL Q i 6).toNat (lw (letL Q i)) 8 with u | ⟨v, u1, u2, u3⟩
    · rw [if_pos u] at eS
      refine ⟨upI I3 66 0 i 2, xX12_goesOn_0 hS ⟨hi8, _, k0, hS, _, k1, hS, hi8, _, _, k3, hS, fun _ => ⟨fun _ => ⟨hi8, _, _, nn', hS, fun c => absurd u c, fun _ => ⟨hi8, rfl, rfl⟩⟩, fun c => by omega⟩, fun c => by omega⟩, ?_⟩
      unfold stepQ
      rw [eS]
      dsimp only
      rw [if_neg (by omega), if_pos rfl]
      exact ⟨H3.up (by unfold perF; omega) (by omega), fr3'.tr (frR.up (by omega))⟩
    · rw [if_neg (by omega), u2] at eS
      rw [e6] at u3
      obtain ⟨I', x1, x2⟩ := gone _ v u2 u1 eS (by have := rd_in hq.2.1 (Q 67 i) (v : Int); omega)
      exact ⟨I', xX12_goesOn_0 hS ⟨hi8, _, k0, hS, _, k1, hS, hi8, _, _, k3, hS, fun _ => ⟨fun _ => ⟨hi8, _, _, nn', hS, fun _ => ⟨hi8, x1⟩, fun c => by omega⟩, fun c => by omega⟩, fun c => by omega⟩, x2⟩
  · rw [e] at a3'
    obtain ⟨q1, q2, q3⟩ := a3'
    have eS : stQ Q i = (1, (v : Int)) := by unfold stQ stpL stp; rw [e]; rfl
    have q4 : I3 3 0 48 = (v : Int) := by
      rcases q3 with q | q
      · exact q.2
      · omega
    refine ⟨upI (upI I3 66 0 i 1) 69 0 i (v : Int), xX12_goesOn_0 hS ⟨hi8, _, k0, hS, _, k1, hS, hi8, _, _, k3, hS, fun c => absurd q1 c, fun _ => ⟨hi8, rfl, by dsimp only; rw [q4]; rfl⟩⟩, ?_⟩
    unfold stepQ
    rw [eS]
    dsimp only
    rw [if_pos rfl]
    exact ⟨(H3.up (by unfold perF; omega) (by omega)).up (by unfold perF; omega) (by omega), (fr3'.tr (frR.up (by omega))).tr (frR.up (by omega))⟩
  · rw [e] at a3'
    obtain ⟨q1, q2, q3⟩ := a3'
    have eS : stQ Q i = (0, (v : Int)) := by unfold stQ stpL stp; rw [e]; rfl
    have q4 : I3 3 0 49 = (v : Int) ∧ I3 3 0 48 = -1 := by
      rcases q3 with q | q
      · omega
      · exact q.2
    have e6 : (((letL Q i 6).toNat : Nat) : Int) = Q 67 i := by show (((Q 67 i).toNat : Nat) : Int) = _; omega
    rw [e6] at h3
    obtain ⟨I', x1, x2⟩ := gone _ v q4.1 h1 eS (by have := rd_in hq.2.1 (Q 67 i) (v : Int); omega)
    exact ⟨I', xX12_goesOn_0 hS ⟨hi8, _, k0, hS, _, k1, hS, hi8, _, _, k3, hS, fun _ => ⟨fun c => absurd q1 c, fun _ => ⟨fun _ => ⟨hi8, x1⟩, fun c => by dsimp only at c; omega⟩⟩, fun c => by omega⟩, x2⟩
theorem KX12_underWay (hS : Sh M.2.1) (hl : WFl Q) (hH : HoldsQ Q M.1) : Cl l G d mX12_underWay [vR (some (3, 0))] M (some (vI (undV Q))) M := by
  have h8 : nLt Q ≤ 8 := by have := hl.1; unfold nLt; omega
  have e3 : M.1 48 0 3 = (nLt Q : Int) := (hH.1 _ _ (by unfold perF; omega)).trans (nLt_eq hl)
  refine xX12_underWay_0 ?_
  refine loopUp (P := fun k : Nat => Ex l G d mX12_underWay 4 [some (vR (some (3, 0))), some (vI (cntF (fun k => Q 66 k = 0) k)), some (vI (k : Int))] [] M (some (vI (undV Q))) M) 0 (nLt Q) (by omega) ?_ ?_
  · intro k _ hk ih
    have hc := cntF_in (fun k => Q 66 k = 0) k
    refine xX12_underWay_4 hS ⟨fun c => by omega, fun _ => ⟨by omega, ?_⟩⟩
    rw [Int.toNat_natCast, hH.1 66 k (by unfold perF; omega)]
    refine ⟨⟨?_, by unfold InR; omega⟩, ih⟩
    unfold InR
    split <;> omega
  · exact xX12_underWay_4 hS ⟨fun _ => ⟨rfl, rfl⟩, fun c => absurd (by omega) c⟩
theorem days_37 {x1 x2 : Int} {k0 : Nat} {r : Option Vl} {Post : Mem → Prop} (hS : Sh M.2.1) (hq : WFQ Q) (hl : WFl Q) (hx : InR (x2 + 1))
    (K : ∀ I, HoldsQ (dayQ Q) I → frR M.1 I → ∃ M', Ex l G (d + 5) mX12_days 30 [some (vR (some (3, 0))), some (vI x1), some (vI (x2 + 1)), none] [] (I, M.2.1, M.2.2) r M' ∧ Post M') :
    HoldsQ Q M.1 → ∃ M', Ex l G (d + 5) mX12_days 37 [some (vR (some (3, 0))), some (vI x1), some (vI x2), some (vI 0)] [] M r M' ∧ Post M' := by
  have h8 : nLt Q ≤ 8 := by have := hl.1; unfold nLt; omega
  have hnow := hl.2.1
  intro h
  refine loopUp (P := fun k : Nat => ∀ I, HoldsQ (dayF Q k) I → frR M.1 I → ∃ M', Ex l G (d + 5) mX12_days 37 [some (vR (some (3, 0))), some (vI x1), some (vI x2), some (vI (k : Int))] [] (I, M.2.1, M.2.2) r M' ∧ Post M') 0 (nLt Q) (by omega) ?_ ?_ M.1 h frR.rf
  · intro k _ hk ih I hI hfI
    have hT := dayF_T (Q := Q) k
    have es : dayF Q k 48 = Q 48 := hT _ (by omega)
    have hqk := hT.q hq
    have hlk := dayF_W hq hl k (by omega)
    have enl : nLt (dayF Q k) = nLt Q := by unfold nLt; rw [es]
    have e3 : I 48 0 3 = (nLt Q : Int) := by rw [hI.1 _ _ (by unfold perF; omega), es]; exact nLt_eq hl
    have e5 : I 48 0 5 = dayF Q k 48 5 := hI.1 _ _ (by unfold perF; omega)
    have e66 : I 66 0 (k : Int).toNat = dayF Q k 66 k := by rw [Int.toNat_natCast]; exact hI.1 _ _ (by unfold perF; omega)
    have e68 : I 68 0 (k : Int).toNat = dayF Q k 68 k := by rw [Int.toNat_natCast]; exact hI.1 _ _ (by unfold perF; omega)
    have ed : dayF Q (k + 1) = if dayF Q k 66 k = 0 ∧ dayF Q k 68 k = dayF Q k 48 5 then stepQ (dayF Q k) k else dayF Q k := rfl
    have hi1 : InR ((k : Int) + 1) := by unfold InR; omega
    by_cases c1 : dayF Q k 66 k = 0
    · by_cases c2 : dayF Q k 68 k = dayF Q k 48 5
      · rw [if_pos ⟨c1, c2⟩] at ed
        obtain ⟨I', g1, g2, g3⟩ := KX12_goesOn (l := l) (G := G) (d := d) (M := (I, M.2.1, M.2.2)) hS hqk hlk hI (by omega) c2
        obtain ⟨M', x1, x2⟩ := ih I' (by rw [ed]; exact g2) (hfI.tr g3)
        refine ⟨M', xX12_days_37 hS ⟨fun c => ?_, fun _ => ⟨by omega, fun c => ?_, fun _ => ⟨by omega, fun c => ?_, fun _ => ⟨_, g1, hi1, x1⟩⟩⟩⟩, x2⟩
        · dsimp only at c; omega
        · exact absurd (e66.trans c1) c
        · exact absurd (e68.trans (c2.trans e5.symm)) c
      · rw [if_neg (fun c => c2 c.2)] at ed
        obtain ⟨M', x1, x2⟩ := ih I (by rw [ed]; exact hI) hfI
        refine ⟨M', xX12_days_37 hS ⟨fun c => ?_, fun _ => ⟨by omega, fun c => ?_, fun _ => ⟨by omega, fun _ => ⟨hi1, x1⟩, fun c => ?_⟩⟩⟩, x2⟩
        · dsimp only at c; omega
        · exact absurd (e66.trans c1) c
        · exact absurd (e68.symm.trans (c.trans e5)) c2
    · rw [if_neg (fun c => c1 c.1)] at ed
      obtain ⟨M', x1, x2⟩ := ih I (by rw [ed]; exact hI) hfI
      refine ⟨M', xX12_days_37 hS ⟨fun c => ?_, fun _ => ⟨by omega, fun _ => ⟨hi1, x1⟩, fun c => ?_⟩⟩, x2⟩
      · dsimp only at c; omega
      · exact absurd (e66.symm.trans c) c1
  · intro I hI hfI
    have hT := dayF_T (Q := Q) (nLt Q)
    have es : dayF Q (nLt Q) 48 = Q 48 := hT _ (by omega)
    have e3 : I 48 0 3 = (nLt Q : Int) := by rw [hI.1 _ _ (by unfold perF; omega), es]; exact nLt_eq hl
    have e5 : I 48 0 5 = Q 48 5 := by rw [hI.1 _ _ (by unfold perF; omega), es]
    obtain ⟨M', x1, x2⟩ := K (upI I 48 0 5 (Q 48 5 + 1)) (hI.up (by unfold perF; omega) (by omega)) (hfI.tr (frR.up (by omega)))
    refine ⟨M', xX12_days_37 hS ⟨fun _ => ?_, fun c => ?_⟩, x2⟩
    · dsimp only
      rw [e5]
      exact ⟨⟨by unfold InR; omega, hx⟩, x1⟩
    · exact absurd (by dsimp only; omega) c
end DR
