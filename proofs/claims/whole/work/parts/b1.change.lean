/-! change -/
set_option maxRecDepth 4000 in
theorem xX12_change_0 {l : Launch} {G : Gt} {d : Nat} {M M' : Mem} {r : Option Vl} {x1 : Int} {x2 : Int} {x3 : Int} {x4 : Int} {x5 : Int} {x6 : Int} (hS : Sh M.2.1) (h : 
    ((M.1 48 0 2) = 60 → r = some (vI (-1)) ∧ M' = M) ∧ (¬ ((M.1 48 0 2) = 60) → (¬ (0 ≤ x1 ∧ x1 ≤ 999) → r = some (vI (-1)) ∧ M' = M) ∧ (0 ≤ x1 ∧ x1 ≤ 999 → (¬ (0 ≤ x2 ∧ x2 ≤ 2) → r = some (vI (-1)) ∧ M' = M) ∧ (0 ≤ x2 ∧ x2 ≤ 2 → (InR ((M.1 48 0 0) - 1)) ∧ ((¬ (0 ≤ x3 ∧ x3 < (M.1 48 0 0)) → r = some (vI (-1)) ∧ M' = M) ∧ (0 ≤ x3 ∧ x3 < (M.1 48 0 0) → (¬ (x2 = 0) → (¬ (x2 = 1) → (0 ≤ x4 ∧ x4 ≤ 7 → Ex l G (d + 2) mX12_change 78 [some (vR (some (3, 0))), some (vI x1), some (vI x2), some (vI x3), some (vI x4), some (vI x5), some (vI x6), some (vI (M.1 48 0 2))] [] M r M') ∧ (¬ (0 ≤ x4 ∧ x4 ≤ 7) → r = some (vI (-1)) ∧ M' = M)) ∧ (x2 = 1 → (0 ≤ x4 ∧ x4 ≤ 5 → Ex l G (d + 2) mX12_change 78 [some (vR (some (3, 0))), some (vI x1), some (vI x2), some (vI x3), some (vI x4), some (vI x5), some (vI x6), some (vI (M.1 48 0 2))] [] M r M') ∧ (¬ (0 ≤ x4 ∧ x4 ≤ 5) → r = some (vI (-1)) ∧ M' = M))) ∧ (x2 = 0 → (0 ≤ x4 ∧ x4 ≤ 9 → Ex l G (d + 2) mX12_change 78 [some (vR (some (3, 0))), some (vI x1), some (vI x2), some (vI x3), some (vI x4), some (vI x5), some (vI x6), some (vI (M.1 48 0 2))] [] M r M') ∧ (¬ (0 ≤ x4 ∧ x4 ≤ 9) → r = some (vI (-1)) ∧ M' = M)))))))) : Cl l G (d + 2) mX12_change [vR (some (3, 0)), vI x1, vI x2, vI x3, vI x4, vI x5, vI x6] M r M' := by
  show Ex l G (d + 2) mX12_change 0 [some (vR (some (3, 0))), some (vI x1), some (vI x2), some (vI x3), some (vI x4), some (vI x5), some (vI x6), none] [] M r M'
  refine r_aload_n 1 dX12_change_0 rfl rfl ?_
  refine g_R 4 dX12_change_1 rfl rfl rfl fr_12_7 (sh_12_1 hS) ?_
  refine r_iconst 5 dX12_change_4 rfl (InR_of rfl) ?_
  refine a_I 6 6 dX12_change_5 rfl rfl rfl rfl ⟨by decide, by decide⟩ rfl ?_
  refine r_istore (ls' := [some (vR (some (3, 0))), some (vI x1), some (vI x2), some (vI x3), some (vI x4), some (vI x5), some (vI x6), some (vI (M.1 48 0 2))]) 8 dX12_change_6 rfl rfl rfl rfl ?_
  refine r_iload 10 dX12_change_8 rfl rfl ?_
  refine r_bipush 12 dX12_change_10 rfl rfl ?_
  refine r_icmp_eq 15 76 dX12_change_12 rfl rfl (fun c => ?_) (fun c => ?_)
  · have h := h.1 (c)
    refine r_iconst 77 dX12_change_76 rfl (InR_of rfl) ?_
    exact r_iret dX12_change_77 rfl (.inl rfl) h.1 h.2
  · have h := h.2 (c)
    refine r_iload_n 16 dX12_change_15 rfl rfl ?_
    refine c_1 [vI x1] [] 19 dX12_change_16 rfl rfl mo_X12_isDay ml_12_170 rfl rfl (KX12_isDay) ?_
    refine r_if_eq 22 76 dX12_change_19 rfl rfl (fun c => ?_) (fun c => ?_)
    · have h := h.1 (b2_0.mp c)
      refine r_iconst 77 dX12_change_76 rfl (InR_of rfl) ?_
      exact r_iret dX12_change_77 rfl (.inl rfl) h.1 h.2
    · have h := h.2 (b2_1.mp c)
      refine r_iload_n 23 dX12_change_22 rfl rfl ?_
      refine r_i2l 24 dX12_change_23 rfl ?_
      refine r_lconst (x := 0) 25 dX12_change_24 rfl (by decide +kernel) (InR_of rfl) ?_
      refine r_ldc2 (n := 2) 28 dX12_change_25 rfl (inT6 (List.mem_of_getElem? (i := 103) rfl) rfl) (by decide +kernel) (InR_of rfl) ?_
      refine c_1 [vL x2, vL 0, vL 2] [] 31 dX12_change_28 rfl rfl mo_X12_in ml_12_154 rfl rfl (KX12_in) ?_
      refine r_if_eq 34 76 dX12_change_31 rfl rfl (fun c => ?_) (fun c => ?_)
      · have h := h.1 (b2_0.mp c)
        refine r_iconst 77 dX12_change_76 rfl (InR_of rfl) ?_
        exact r_iret dX12_change_77 rfl (.inl rfl) h.1 h.2
      · have h := h.2 (b2_1.mp c)
        obtain ⟨o_1, h⟩ := h
        refine r_aload_n 35 dX12_change_34 rfl rfl ?_
        refine r_iload_n 36 dX12_change_35 rfl rfl ?_
        refine v_1 (ci := 12) (C := (RX12, TX12, 68)) [vI x3] [] 39 dX12_change_36 rfl rfl rfl rfl rfl mo_X12_isPerson ml_12_175 rfl rfl (KX12_isPerson hS o_1) ?_
        refine r_if_eq 42 76 dX12_change_39 rfl rfl (fun c => ?_) (fun c => ?_)
        · have h := h.1 (b2_0.mp c)
          refine r_iconst 77 dX12_change_76 rfl (InR_of rfl) ?_
          exact r_iret dX12_change_77 rfl (.inl rfl) h.1 h.2
        · have h := h.2 (b2_1.mp c)
          refine r_iload 44 dX12_change_42 rfl rfl ?_
          refine r_i2l 45 dX12_change_44 rfl ?_
          refine r_lconst (x := 0) 46 dX12_change_45 rfl (by decide +kernel) (InR_of rfl) ?_
          refine r_iload_n 47 dX12_change_46 rfl rfl ?_
          refine r_if_ne 50 56 dX12_change_47 rfl rfl (fun c => ?_) (fun c => ?_)
          · have h := h.1 (c)
            refine r_iload_n 57 dX12_change_56 rfl rfl ?_
            refine r_iconst 58 dX12_change_57 rfl (InR_of rfl) ?_
            refine r_icmp_ne 61 67 dX12_change_58 rfl rfl (fun c => ?_) (fun c => ?_)
            · have h := h.1 (c)
              refine r_ldc2 (n := 7) 70 dX12_change_67 rfl (inT6 (List.mem_of_getElem? (i := 82) rfl) rfl) (by decide +kernel) (InR_of rfl) ?_
              refine c_1 [vL x4, vL 0, vL 7] [] 73 dX12_change_70 rfl rfl mo_X12_in ml_12_154 rfl rfl (KX12_in) ?_
              refine r_if_ne 76 78 dX12_change_73 rfl rfl (fun c => ?_) (fun c => ?_)
              · have h := h.1 (b2_1.mp c)
                exact h
              · have h := h.2 (b2_0.mp (Decidable.not_not.mp c))
                refine r_iconst 77 dX12_change_76 rfl (InR_of rfl) ?_
                exact r_iret dX12_change_77 rfl (.inl rfl) h.1 h.2
            · have h := h.2 (Decidable.not_not.mp c)
              refine r_ldc2 (n := 5) 64 dX12_change_61 rfl (inT6 (List.mem_of_getElem? (i := 108) rfl) rfl) (by decide +kernel) (InR_of rfl) ?_
              refine r_goto 70 dX12_change_64 rfl ?_
              refine c_1 [vL x4, vL 0, vL 5] [] 73 dX12_change_70 rfl rfl mo_X12_in ml_12_154 rfl rfl (KX12_in) ?_
              refine r_if_ne 76 78 dX12_change_73 rfl rfl (fun c => ?_) (fun c => ?_)
              · have h := h.1 (b2_1.mp c)
                exact h
              · have h := h.2 (b2_0.mp (Decidable.not_not.mp c))
                refine r_iconst 77 dX12_change_76 rfl (InR_of rfl) ?_
                exact r_iret dX12_change_77 rfl (.inl rfl) h.1 h.2
          · have h := h.2 (Decidable.not_not.mp c)
            refine r_ldc2 (n := 9) 53 dX12_change_50 rfl (inT6 (List.mem_of_getElem? (i := 86) rfl) rfl) (by decide +kernel) (InR_of rfl) ?_
            refine r_goto 70 dX12_change_53 rfl ?_
            refine c_1 [vL x4, vL 0, vL 9] [] 73 dX12_change_70 rfl rfl mo_X12_in ml_12_154 rfl rfl (KX12_in) ?_
            refine r_if_ne 76 78 dX12_change_73 rfl rfl (fun c => ?_) (fun c => ?_)
            · have h := h.1 (b2_1.mp c)
              exact h
            · have h := h.2 (b2_0.mp (Decidable.not_not.mp c))
              refine r_iconst 77 dX12_change_76 rfl (InR_of rfl) ?_
              exact r_iret dX12_change_77 rfl (.inl rfl) h.1 h.2
set_option maxRecDepth 4000 in
theorem xX12_change_78 {l : Launch} {G : Gt} {d : Nat} {M M' : Mem} {r : Option Vl} {x1 : Int} {x2 : Int} {x3 : Int} {x4 : Int} {x5 : Int} {x6 : Int} {x7 : Int} (hS : Sh M.2.1) (h : 
    (¬ (x2 = 1) → Ex l G (d + 2) mX12_change 100 [some (vR (some (3, 0))), some (vI x1), some (vI x2), some (vI x3), some (vI x4), some (vI x5), some (vI x6), some (vI x7)] [] M r M') ∧ (x2 = 1 → (InR ((M.1 48 0 0) - 1)) ∧ ((¬ (0 ≤ x5 ∧ x5 < (M.1 48 0 0)) → r = some (vI (-1)) ∧ M' = M) ∧ (0 ≤ x5 ∧ x5 < (M.1 48 0 0) → (¬ (x5 = x3) → Ex l G (d + 2) mX12_change 100 [some (vR (some (3, 0))), some (vI x1), some (vI x2), some (vI x3), some (vI x4), some (vI x5), some (vI x6), some (vI x7)] [] M r M') ∧ (x5 = x3 → r = some (vI (-1)) ∧ M' = M))))) : Ex l G (d + 2) mX12_change 78 [some (vR (some (3, 0))), some (vI x1), some (vI x2), some (vI x3), some (vI x4), some (vI x5), some (vI x6), some (vI x7)] [] M r M' := by
  refine r_iload_n 79 dX12_change_78 rfl rfl ?_
  refine r_iconst 80 dX12_change_79 rfl (InR_of rfl) ?_
  refine r_icmp_ne 83 100 dX12_change_80 rfl rfl (fun c => ?_) (fun c => ?_)
  · have h := h.1 (c)
    exact h
  · have h := h.2 (Decidable.not_not.mp c)
    obtain ⟨o_1, h⟩ := h
    refine r_aload_n 84 dX12_change_83 rfl rfl ?_
    refine r_iload 86 dX12_change_84 rfl rfl ?_
    refine v_1 (ci := 12) (C := (RX12, TX12, 68)) [vI x5] [] 89 dX12_change_86 rfl rfl rfl rfl rfl mo_X12_isPerson ml_12_175 rfl rfl (KX12_isPerson hS o_1) ?_
    refine r_if_eq 92 98 dX12_change_89 rfl rfl (fun c => ?_) (fun c => ?_)
    · have h := h.1 (b2_0.mp c)
      refine r_iconst 99 dX12_change_98 rfl (InR_of rfl) ?_
      exact r_iret dX12_change_99 rfl (.inl rfl) h.1 h.2
    · have h := h.2 (b2_1.mp c)
      refine r_iload 94 dX12_change_92 rfl rfl ?_
      refine r_iload_n 95 dX12_change_94 rfl rfl ?_
      refine r_icmp_ne 98 100 dX12_change_95 rfl rfl (fun c => ?_) (fun c => ?_)
      · have h := h.1 (c)
        exact h
      · have h := h.2 (Decidable.not_not.mp c)
        refine r_iconst 99 dX12_change_98 rfl (InR_of rfl) ?_
        exact r_iret dX12_change_99 rfl (.inl rfl) h.1 h.2
set_option maxRecDepth 4000 in
theorem xX12_change_100 {l : Launch} {G : Gt} {d : Nat} {M M' : Mem} {r : Option Vl} {x1 : Int} {x2 : Int} {x3 : Int} {x4 : Int} {x5 : Int} {x6 : Int} {x7 : Int} (hS : Sh M.2.1) (h : 
    ((0 ≤ x7 ∧ x7 < 60)) ∧ ((0 ≤ x7 ∧ x7 < 60) ∧ InR ((M.1 48 0 2) + 1)) ∧ (∃ (M_6 : Mem), Cl l G (d + 1) mX12_sorts [vR (some (3, 0))] ((upI (upI (upI (upI (upI (upI (upI M.1 56 0 x7.toNat x1) 57 0 x7.toNat x2) 58 0 x7.toNat x3) 59 0 x7.toNat x4) 60 0 x7.toNat x5) 61 0 x7.toNat (if x6 = 0 then 0 else 1 : Int)) 48 0 2 ((M.1 48 0 2) + 1)), M.2.1, M.2.2) none M_6 ∧ Sh M_6.2.1 ∧ r = some (vI (M_6.1 48 0 2)) ∧ M' = M_6)) : Ex l G (d + 2) mX12_change 100 [some (vR (some (3, 0))), some (vI x1), some (vI x2), some (vI x3), some (vI x4), some (vI x5), some (vI x6), some (vI x7)] [] M r M' := by
  obtain ⟨o_1, h⟩ := h
  refine r_aload_n 101 dX12_change_100 rfl rfl ?_
  refine g_R 104 dX12_change_101 rfl rfl rfl fr_12_34 (sh_12_9 hS) ?_
  refine r_iload 106 dX12_change_104 rfl rfl ?_
  refine r_iload_n 107 dX12_change_106 rfl rfl ?_
  refine s_I 60 108 dX12_change_107 rfl rfl (by decide) rfl rfl o_1 ?_
  refine r_aload_n 109 dX12_change_108 rfl rfl ?_
  refine g_R 112 dX12_change_109 rfl rfl rfl fr_12_37 (mR_0 (sh_12_10 hS)) ?_
  refine r_iload 114 dX12_change_112 rfl rfl ?_
  refine r_iload_n 115 dX12_change_114 rfl rfl ?_
  refine s_I 60 116 dX12_change_115 rfl rfl (by decide) rfl rfl o_1 ?_
  refine r_aload_n 117 dX12_change_116 rfl rfl ?_
  refine g_R 120 dX12_change_117 rfl rfl rfl fr_12_40 (mR_0 (sh_12_11 hS)) ?_
  refine r_iload 122 dX12_change_120 rfl rfl ?_
  refine r_iload_n 123 dX12_change_122 rfl rfl ?_
  refine s_I 60 124 dX12_change_123 rfl rfl (by decide) rfl rfl o_1 ?_
  refine r_aload_n 125 dX12_change_124 rfl rfl ?_
  refine g_R 128 dX12_change_125 rfl rfl rfl fr_12_43 (mR_0 (sh_12_12 hS)) ?_
  refine r_iload 130 dX12_change_128 rfl rfl ?_
  refine r_iload 132 dX12_change_130 rfl rfl ?_
  refine s_I 60 133 dX12_change_132 rfl rfl (by decide) rfl rfl o_1 ?_
  refine r_aload_n 134 dX12_change_133 rfl rfl ?_
  refine g_R 137 dX12_change_134 rfl rfl rfl fr_12_46 (mR_0 (sh_12_13 hS)) ?_
  refine r_iload 139 dX12_change_137 rfl rfl ?_
  refine r_iload 141 dX12_change_139 rfl rfl ?_
  refine s_I 60 142 dX12_change_141 rfl rfl (by decide) rfl rfl o_1 ?_
  refine r_aload_n 143 dX12_change_142 rfl rfl ?_
  refine g_R 146 dX12_change_143 rfl rfl rfl fr_12_49 (mR_0 (sh_12_14 hS)) ?_
  refine r_iload 148 dX12_change_146 rfl rfl ?_
  refine r_iload 150 dX12_change_148 rfl rfl ?_
  have hJ_2 : Ex l G (d + 2) mX12_change 158 [some (vR (some (3, 0))), some (vI x1), some (vI x2), some (vI x3), some (vI x4), some (vI x5), some (vI x6), some (vI x7)] [vI (if x6 = 0 then 0 else 1 : Int), vI x7, vR (some (61, 0))] ((upI (upI (upI (upI (upI M.1 56 0 x7.toNat x1) 57 0 x7.toNat x2) 58 0 x7.toNat x3) 59 0 x7.toNat x4) 60 0 x7.toNat x5), M.2.1, M.2.2) r M' := by
    obtain ⟨⟨o_4, o_5⟩, h⟩ := h
    refine s_I 60 159 dX12_change_158 rfl rfl (by decide) rfl rfl o_4 ?_
    refine r_aload_n 160 dX12_change_159 rfl rfl ?_
    refine g_R 163 dX12_change_160 rfl rfl rfl fr_12_7 (mR_0 (sh_12_1 hS)) ?_
    refine r_iconst 164 dX12_change_163 rfl (InR_of rfl) ?_
    refine r_dup2 165 dX12_change_164 rfl rfl ?_
    refine a_I 6 166 dX12_change_165 rfl rfl rfl rfl ⟨by decide, by decide⟩ (mI_0 ((upI_f rfl).trans ((upI_f rfl).trans ((upI_f rfl).trans ((upI_f rfl).trans ((upI_f rfl).trans (upI_f rfl))))))) ?_
    refine r_iconst 167 dX12_change_166 rfl (InR_of rfl) ?_
    refine r_iadd 168 dX12_change_167 rfl o_5 ?_
    refine s_I 6 169 dX12_change_168 rfl rfl (by decide) rfl rfl ⟨by decide, by decide⟩ ?_
    refine r_aload_n 170 dX12_change_169 rfl rfl ?_
    obtain ⟨M_6, hc_7, hS, h⟩ := h
    refine v_0 (ci := 12) (C := (RX12, TX12, 68)) [] [] 173 dX12_change_170 rfl rfl rfl rfl rfl mo_X12_sorts ml_12_180 rfl rfl hc_7 ?_
    refine r_aload_n 174 dX12_change_173 rfl rfl ?_
    refine g_R 177 dX12_change_174 rfl rfl rfl fr_12_7 (sh_12_1 hS) ?_
    refine r_iconst 178 dX12_change_177 rfl (InR_of rfl) ?_
    refine a_I 6 179 dX12_change_178 rfl rfl rfl rfl ⟨by decide, by decide⟩ rfl ?_
    exact r_iret dX12_change_179 rfl (.inl rfl) h.1 h.2
  refine r_if_eq 153 157 dX12_change_150 rfl rfl (fun c => ?_) (fun c => ?_)
  · have c_3 := c
    refine r_iconst 158 dX12_change_157 rfl (InR_of rfl) ?_
    exact (Ex.at hJ_2 rfl (show [vI 0, vI x7, vR (some (61, 0))] = [vI (if x6 = 0 then 0 else 1 : Int), vI x7, vR (some (61, 0))] by simp only [if_pos c_3]) rfl)
  · have c_3 := c
    refine r_iconst 154 dX12_change_153 rfl (InR_of rfl) ?_
    refine r_goto 158 dX12_change_154 rfl ?_
    exact (Ex.at hJ_2 rfl (show [vI 1, vI x7, vR (some (61, 0))] = [vI (if x6 = 0 then 0 else 1 : Int), vI x7, vR (some (61, 0))] by simp only [if_neg c_3]) rfl)

set_option maxRecDepth 4000 in
theorem xX8_addChange_0 {l : Launch} {G : Gt} {d : Nat} {M M' : Mem} {r : Option Vl} {k0 : Nat} {x1 : Int} {x2 : Int} {x3 : Int} {x4 : Int} {x5 : Int} {x6 : Int} (h : 
    Ex l G (d + 1) mX8_addChange 6 [some (vR (some (4, k0))), some (vI x1), some (vI x2), some (vI x3), some (vI x4), some (vI x5), some (vI x6), some (vI (M.1 4 k0 4))] [] M r M') : Cl l G (d + 1) mX8_addChange [vR (some (4, k0)), vI x1, vI x2, vI x3, vI x4, vI x5, vI x6] M r M' := by
  show Ex l G (d + 1) mX8_addChange 0 [some (vR (some (4, k0))), some (vI x1), some (vI x2), some (vI x3), some (vI x4), some (vI x5), some (vI x6), none] [] M r M'
  refine r_aload_n 1 dX8_addChange_0 rfl rfl ?_
  refine g_I 4 dX8_addChange_1 rfl rfl rfl fi_8_50 rfl ?_
  refine r_istore (ls' := [some (vR (some (4, k0))), some (vI x1), some (vI x2), some (vI x3), some (vI x4), some (vI x5), some (vI x6), some (vI (M.1 4 k0 4))]) 6 dX8_addChange_4 rfl rfl rfl rfl ?_
  exact h
set_option maxRecDepth 4000 in
theorem xX8_addChange_6 {l : Launch} {G : Gt} {d : Nat} {M M' : Mem} {r : Option Vl} {k0 : Nat} {x1 : Int} {x2 : Int} {x3 : Int} {x4 : Int} {x5 : Int} {x6 : Int} {x7 : Int} (hS : Sh M.2.1) (h : 
    (x7 ≤ 0 → ((0 ≤ x7 ∧ x7 < 60) ∧ InR ((M.1 4 k0 4) + 1)) ∧ r = some (vI x7) ∧ M' = ((upI (upI M.1 35 k0 x7.toNat (aOr (aOr (aOr (aOr (aOr (aShl x1 15) (aShl x2 13)) (aShl x3 9)) (aShl x4 5)) (aShl x5 1)) (if x6 = 0 then 0 else 1 : Int))) 4 k0 4 ((M.1 4 k0 4) + 1)), M.2.1, M.2.2)) ∧ (¬ (x7 ≤ 0) → (InR (x7 - 1) ∧ (0 ≤ (x7 - 1) ∧ (x7 - 1) < 60)) ∧ (((aShr (M.1 35 k0 (x7 - 1).toNat) 15) ≤ x1 → ((0 ≤ x7 ∧ x7 < 60) ∧ InR ((M.1 4 k0 4) + 1)) ∧ r = some (vI x7) ∧ M' = ((upI (upI M.1 35 k0 x7.toNat (aOr (aOr (aOr (aOr (aOr (aShl x1 15) (aShl x2 13)) (aShl x3 9)) (aShl x4 5)) (aShl x5 1)) (if x6 = 0 then 0 else 1 : Int))) 4 k0 4 ((M.1 4 k0 4) + 1)), M.2.1, M.2.2)) ∧ (¬ ((aShr (M.1 35 k0 (x7 - 1).toNat) 15) ≤ x1) → (InR (x7 - 1) ∧ (0 ≤ (x7 - 1) ∧ (x7 - 1) < 60) ∧ (0 ≤ x7 ∧ x7 < 60) ∧ InR (x7 + (-1))) ∧ Ex l G (d + 1) mX8_addChange 6 [some (vR (some (4, k0))), some (vI x1), some (vI x2), some (vI x3), some (vI x4), some (vI x5), some (vI x6), some (vI (x7 + (-1)))] [] ((upI M.1 35 k0 x7.toNat (M.1 35 k0 (x7 - 1).toNat)), M.2.1, M.2.2) r M')))) : Ex l G (d + 1) mX8_addChange 6 [some (vR (some (4, k0))), some (vI x1), some (vI x2), some (vI x3), some (vI x4), some (vI x5), some (vI x6), some (vI x7)] [] M r M' := by
  refine r_iload 8 dX8_addChange_6 rfl rfl ?_
  refine r_if_le 11 49 dX8_addChange_8 rfl rfl (fun c => ?_) (fun c => ?_)
  · have h := h.1 (c)
    refine r_aload_n 50 dX8_addChange_49 rfl rfl ?_
    refine g_R 53 dX8_addChange_50 rfl rfl rfl fr_8_18 (sh_8_5 hS _) ?_
    refine r_iload 55 dX8_addChange_53 rfl rfl ?_
    refine r_iload_n 56 dX8_addChange_55 rfl rfl ?_
    refine r_bipush 58 dX8_addChange_56 rfl rfl ?_
    refine r_ishl 59 dX8_addChange_58 rfl ⟨by decide, by decide⟩ ?_
    refine r_iload_n 60 dX8_addChange_59 rfl rfl ?_
    refine r_bipush 62 dX8_addChange_60 rfl rfl ?_
    refine r_ishl 63 dX8_addChange_62 rfl ⟨by decide, by decide⟩ ?_
    refine r_ior 64 dX8_addChange_63 rfl ?_
    refine r_iload_n 65 dX8_addChange_64 rfl rfl ?_
    refine r_bipush 67 dX8_addChange_65 rfl rfl ?_
    refine r_ishl 68 dX8_addChange_67 rfl ⟨by decide, by decide⟩ ?_
    refine r_ior 69 dX8_addChange_68 rfl ?_
    refine r_iload 71 dX8_addChange_69 rfl rfl ?_
    refine r_iconst 72 dX8_addChange_71 rfl (InR_of rfl) ?_
    refine r_ishl 73 dX8_addChange_72 rfl ⟨by decide, by decide⟩ ?_
    refine r_ior 74 dX8_addChange_73 rfl ?_
    refine r_iload 76 dX8_addChange_74 rfl rfl ?_
    refine r_iconst 77 dX8_addChange_76 rfl (InR_of rfl) ?_
    refine r_ishl 78 dX8_addChange_77 rfl ⟨by decide, by decide⟩ ?_
    refine r_ior 79 dX8_addChange_78 rfl ?_
    refine r_iload 81 dX8_addChange_79 rfl rfl ?_
    have hJ_1 : Ex l G (d + 1) mX8_addChange 89 [some (vR (some (4, k0))), some (vI x1), some (vI x2), some (vI x3), some (vI x4), some (vI x5), some (vI x6), some (vI x7)] [vI (if x6 = 0 then 0 else 1 : Int), vI (aOr (aOr (aOr (aOr (aShl x1 15) (aShl x2 13)) (aShl x3 9)) (aShl x4 5)) (aShl x5 1)), vI x7, vR (some (35, k0))] M r M' := by
      obtain ⟨⟨o_3, o_4⟩, h⟩ := h
      refine r_ior 90 dX8_addChange_89 rfl ?_
      refine s_I 60 91 dX8_addChange_90 rfl rfl (by decide) rfl rfl o_3 ?_
      refine r_aload_n 92 dX8_addChange_91 rfl rfl ?_
      refine r_dup 93 dX8_addChange_92 rfl rfl ?_
      refine g_I 96 dX8_addChange_93 rfl rfl rfl fi_8_50 (mI_0 (upI_f rfl)) ?_
      refine r_iconst 97 dX8_addChange_96 rfl (InR_of rfl) ?_
      refine r_iadd 98 dX8_addChange_97 rfl o_4 ?_
      refine p_I 101 dX8_addChange_98 rfl rfl rfl rfl pf_8_50 (.inl rfl) rfl ?_
      refine r_iload 103 dX8_addChange_101 rfl rfl ?_
      exact r_iret dX8_addChange_103 rfl (.inl rfl) h.1 h.2
    refine r_if_eq 84 88 dX8_addChange_81 rfl rfl (fun c => ?_) (fun c => ?_)
    · have c_2 := c
      refine r_iconst 89 dX8_addChange_88 rfl (InR_of rfl) ?_
      exact (Ex.at hJ_1 rfl (show [vI 0, vI (aOr (aOr (aOr (aOr (aShl x1 15) (aShl x2 13)) (aShl x3 9)) (aShl x4 5)) (aShl x5 1)), vI x7, vR (some (35, k0))] = [vI (if x6 = 0 then 0 else 1 : Int), vI (aOr (aOr (aOr (aOr (aShl x1 15) (aShl x2 13)) (aShl x3 9)) (aShl x4 5)) (aShl x5 1)), vI x7, vR (some (35, k0))] by simp only [if_pos c_2]) rfl)
    · have c_2 := c
      refine r_iconst 85 dX8_addChange_84 rfl (InR_of rfl) ?_
      refine r_goto 89 dX8_addChange_85 rfl ?_
      exact (Ex.at hJ_1 rfl (show [vI 1, vI (aOr (aOr (aOr (aOr (aShl x1 15) (aShl x2 13)) (aShl x3 9)) (aShl x4 5)) (aShl x5 1)), vI x7, vR (some (35, k0))] = [vI (if x6 = 0 then 0 else 1 : Int), vI (aOr (aOr (aOr (aOr (aShl x1 15) (aShl x2 13)) (aShl x3 9)) (aShl x4 5)) (aShl x5 1)), vI x7, vR (some (35, k0))] by simp only [if_neg c_2]) rfl)
  · have h := h.2 (c)
    obtain ⟨⟨o_5, o_6⟩, h⟩ := h
    refine r_aload_n 12 dX8_addChange_11 rfl rfl ?_
    refine g_R 15 dX8_addChange_12 rfl rfl rfl fr_8_18 (sh_8_5 hS _) ?_
    refine r_iload 17 dX8_addChange_15 rfl rfl ?_
    refine r_iconst 18 dX8_addChange_17 rfl (InR_of rfl) ?_
    refine r_isub 19 dX8_addChange_18 rfl o_5 ?_
    refine a_I 60 20 dX8_addChange_19 rfl rfl rfl rfl o_6 rfl ?_
    refine c_1 [vI (M.1 35 k0 (x7 - 1).toNat)] [] 23 dX8_addChange_20 rfl rfl mo_X8_dayOfChange ml_8_72 rfl rfl (KX8_dayOfChange) ?_
    refine r_iload_n 24 dX8_addChange_23 rfl rfl ?_
    refine r_icmp_le 27 49 dX8_addChange_24 rfl rfl (fun c => ?_) (fun c => ?_)
    · have h := h.1 (c)
      refine r_aload_n 50 dX8_addChange_49 rfl rfl ?_
      refine g_R 53 dX8_addChange_50 rfl rfl rfl fr_8_18 (sh_8_5 hS _) ?_
      refine r_iload 55 dX8_addChange_53 rfl rfl ?_
      refine r_iload_n 56 dX8_addChange_55 rfl rfl ?_
      refine r_bipush 58 dX8_addChange_56 rfl rfl ?_
      refine r_ishl 59 dX8_addChange_58 rfl ⟨by decide, by decide⟩ ?_
      refine r_iload_n 60 dX8_addChange_59 rfl rfl ?_
      refine r_bipush 62 dX8_addChange_60 rfl rfl ?_
      refine r_ishl 63 dX8_addChange_62 rfl ⟨by decide, by decide⟩ ?_
      refine r_ior 64 dX8_addChange_63 rfl ?_
      refine r_iload_n 65 dX8_addChange_64 rfl rfl ?_
      refine r_bipush 67 dX8_addChange_65 rfl rfl ?_
      refine r_ishl 68 dX8_addChange_67 rfl ⟨by decide, by decide⟩ ?_
      refine r_ior 69 dX8_addChange_68 rfl ?_
      refine r_iload 71 dX8_addChange_69 rfl rfl ?_
      refine r_iconst 72 dX8_addChange_71 rfl (InR_of rfl) ?_
      refine r_ishl 73 dX8_addChange_72 rfl ⟨by decide, by decide⟩ ?_
      refine r_ior 74 dX8_addChange_73 rfl ?_
      refine r_iload 76 dX8_addChange_74 rfl rfl ?_
      refine r_iconst 77 dX8_addChange_76 rfl (InR_of rfl) ?_
      refine r_ishl 78 dX8_addChange_77 rfl ⟨by decide, by decide⟩ ?_
      refine r_ior 79 dX8_addChange_78 rfl ?_
      refine r_iload 81 dX8_addChange_79 rfl rfl ?_
      have hJ_7 : Ex l G (d + 1) mX8_addChange 89 [some (vR (some (4, k0))), some (vI x1), some (vI x2), some (vI x3), some (vI x4), some (vI x5), some (vI x6), some (vI x7)] [vI (if x6 = 0 then 0 else 1 : Int), vI (aOr (aOr (aOr (aOr (aShl x1 15) (aShl x2 13)) (aShl x3 9)) (aShl x4 5)) (aShl x5 1)), vI x7, vR (some (35, k0))] M r M' := by
        obtain ⟨⟨o_9, o_10⟩, h⟩ := h
        refine r_ior 90 dX8_addChange_89 rfl ?_
        refine s_I 60 91 dX8_addChange_90 rfl rfl (by decide) rfl rfl o_9 ?_
        refine r_aload_n 92 dX8_addChange_91 rfl rfl ?_
        refine r_dup 93 dX8_addChange_92 rfl rfl ?_
        refine g_I 96 dX8_addChange_93 rfl rfl rfl fi_8_50 (mI_0 (upI_f rfl)) ?_
        refine r_iconst 97 dX8_addChange_96 rfl (InR_of rfl) ?_
        refine r_iadd 98 dX8_addChange_97 rfl o_10 ?_
        refine p_I 101 dX8_addChange_98 rfl rfl rfl rfl pf_8_50 (.inl rfl) rfl ?_
        refine r_iload 103 dX8_addChange_101 rfl rfl ?_
        exact r_iret dX8_addChange_103 rfl (.inl rfl) h.1 h.2
      refine r_if_eq 84 88 dX8_addChange_81 rfl rfl (fun c => ?_) (fun c => ?_)
      · have c_8 := c
        refine r_iconst 89 dX8_addChange_88 rfl (InR_of rfl) ?_
        exact (Ex.at hJ_7 rfl (show [vI 0, vI (aOr (aOr (aOr (aOr (aShl x1 15) (aShl x2 13)) (aShl x3 9)) (aShl x4 5)) (aShl x5 1)), vI x7, vR (some (35, k0))] = [vI (if x6 = 0 then 0 else 1 : Int), vI (aOr (aOr (aOr (aOr (aShl x1 15) (aShl x2 13)) (aShl x3 9)) (aShl x4 5)) (aShl x5 1)), vI x7, vR (some (35, k0))] by simp only [if_pos c_8]) rfl)
      · have c_8 := c
        refine r_iconst 85 dX8_addChange_84 rfl (InR_of rfl) ?_
        refine r_goto 89 dX8_addChange_85 rfl ?_
        exact (Ex.at hJ_7 rfl (show [vI 1, vI (aOr (aOr (aOr (aOr (aShl x1 15) (aShl x2 13)) (aShl x3 9)) (aShl x4 5)) (aShl x5 1)), vI x7, vR (some (35, k0))] = [vI (if x6 = 0 then 0 else 1 : Int), vI (aOr (aOr (aOr (aOr (aShl x1 15) (aShl x2 13)) (aShl x3 9)) (aShl x4 5)) (aShl x5 1)), vI x7, vR (some (35, k0))] by simp only [if_neg c_8]) rfl)
    · have h := h.2 (c)
      obtain ⟨⟨o_11, o_12, o_13, o_14⟩, h⟩ := h
      refine r_aload_n 28 dX8_addChange_27 rfl rfl ?_
      refine g_R 31 dX8_addChange_28 rfl rfl rfl fr_8_18 (sh_8_5 hS _) ?_
      refine r_iload 33 dX8_addChange_31 rfl rfl ?_
      refine r_aload_n 34 dX8_addChange_33 rfl rfl ?_
      refine g_R 37 dX8_addChange_34 rfl rfl rfl fr_8_18 (sh_8_5 hS _) ?_
      refine r_iload 39 dX8_addChange_37 rfl rfl ?_
      refine r_iconst 40 dX8_addChange_39 rfl (InR_of rfl) ?_
      refine r_isub 41 dX8_addChange_40 rfl o_11 ?_
      refine a_I 60 42 dX8_addChange_41 rfl rfl rfl rfl o_12 rfl ?_
      refine s_I 60 43 dX8_addChange_42 rfl rfl (by decide) rfl rfl o_13 ?_
      refine r_iinc (ls' := [some (vR (some (4, k0))), some (vI x1), some (vI x2), some (vI x3), some (vI x4), some (vI x5), some (vI x6), some (vI (x7 + (-1)))]) 46 dX8_addChange_43 rfl rfl rfl rfl o_14 rfl ?_
      refine r_goto 6 dX8_addChange_46 rfl ?_
      exact h

set_option maxRecDepth 4000 in
theorem xX11_change_0 {l : Launch} {G : Gt} {d : Nat} {M M' : Mem} {r : Option Vl} {x1 : Int} {x2 : Int} {x3 : Int} {x4 : Int} {x5 : Int} {x6 : Int} (hS : Sh M.2.1) (h : 
    (60 ≤ (M.1 4 0 4) → r = some (vI (-1)) ∧ M' = M) ∧ (¬ (60 ≤ (M.1 4 0 4)) → (¬ (0 ≤ x1 ∧ x1 ≤ 999) → r = some (vI (-1)) ∧ M' = M) ∧ (0 ≤ x1 ∧ x1 ≤ 999 → (¬ (0 ≤ x3 ∧ x3 < (M.1 4 0 0)) → r = some (vI (-1)) ∧ M' = M) ∧ (0 ≤ x3 ∧ x3 < (M.1 4 0 0) → (0 ≤ x4 → (¬ ((if x2 = 0 then (if 10 ≤ x4 then 0 else 1 : Int) else (if x2 = 1 then (if 6 ≤ x4 then 0 else (if (0 ≤ x3 ∧ x3 < (M.1 4 0 0)) ∧ (0 ≤ x5 ∧ x5 < (M.1 4 0 0)) ∧ ¬ x3 = x5 then 1 else 0 : Int) : Int) else (if x2 = 2 then (if 8 ≤ x4 then 0 else 1 : Int) else 0 : Int) : Int) : Int) = 0) → ∃ (r_13 : Int) (M_11 : Mem), Cl l G (d + 1) mX8_addChange [vR (some (4, 0)), vI x1, vI x2, vI x3, vI x4, vI (if x2 = 1 then x5 else 0 : Int), vI x6] M (some (vI r_13)) M_11 ∧ (∃ (M_14 : Mem), Cl l G (d + 1) mX11_forgetFacts [vR (some (2, 0)), vI r_13] M_11 none M_14 ∧ Sh M_14.2.1 ∧ r = some (vI (M_14.1 4 0 4)) ∧ M' = M_14)) ∧ ((if x2 = 0 then (if 10 ≤ x4 then 0 else 1 : Int) else (if x2 = 1 then (if 6 ≤ x4 then 0 else (if (0 ≤ x3 ∧ x3 < (M.1 4 0 0)) ∧ (0 ≤ x5 ∧ x5 < (M.1 4 0 0)) ∧ ¬ x3 = x5 then 1 else 0 : Int) : Int) else (if x2 = 2 then (if 8 ≤ x4 then 0 else 1 : Int) else 0 : Int) : Int) : Int) = 0 → r = some (vI (-1)) ∧ M' = M)) ∧ (¬ (0 ≤ x4) → r = some (vI (-1)) ∧ M' = M))))) : Cl l G (d + 2) mX11_change [vR (some (2, 0)), vI x1, vI x2, vI x3, vI x4, vI x5, vI x6] M r M' := by
  show Ex l G (d + 2) mX11_change 0 [some (vR (some (2, 0))), some (vI x1), some (vI x2), some (vI x3), some (vI x4), some (vI x5), some (vI x6), none] [] M r M'
  refine r_aload_n 1 dX11_change_0 rfl rfl ?_
  refine g_R 4 dX11_change_1 rfl rfl rfl fr_11_12 (sh_11_0 hS) ?_
  refine g_I 7 dX11_change_4 rfl rfl rfl fi_11_121 rfl ?_
  refine r_bipush 9 dX11_change_7 rfl rfl ?_
  refine r_icmp_ge 12 32 dX11_change_9 rfl rfl (fun c => ?_) (fun c => ?_)
  · have h := h.1 (c)
    refine r_iconst 33 dX11_change_32 rfl (InR_of rfl) ?_
    exact r_iret dX11_change_33 rfl (.inl rfl) h.1 h.2
  · have h := h.2 (c)
    refine r_iload_n 13 dX11_change_12 rfl rfl ?_
    refine c_1 [vI x1] [] 16 dX11_change_13 rfl rfl mo_X11_isDay ml_11_124 rfl rfl (KX11_isDay) ?_
    refine r_if_eq 19 32 dX11_change_16 rfl rfl (fun c => ?_) (fun c => ?_)
    · have h := h.1 (b2_0.mp c)
      refine r_iconst 33 dX11_change_32 rfl (InR_of rfl) ?_
      exact r_iret dX11_change_33 rfl (.inl rfl) h.1 h.2
    · have h := h.2 (b2_1.mp c)
      refine r_aload_n 20 dX11_change_19 rfl rfl ?_
      refine r_iload_n 21 dX11_change_20 rfl rfl ?_
      refine v_1 (ci := 11) (C := (RX11, TX11, 16)) [vI x3] [] 24 dX11_change_21 rfl rfl rfl rfl rfl mo_X11_isPerson ml_11_127 rfl rfl (KX11_isPerson hS) ?_
      refine r_if_eq 27 32 dX11_change_24 rfl rfl (fun c => ?_) (fun c => ?_)
      · have h := h.1 (b2_0.mp c)
        refine r_iconst 33 dX11_change_32 rfl (InR_of rfl) ?_
        exact r_iret dX11_change_33 rfl (.inl rfl) h.1 h.2
      · have h := h.2 (b2_1.mp c)
        refine r_iload 29 dX11_change_27 rfl rfl ?_
        refine r_if_ge 32 34 dX11_change_29 rfl rfl (fun c => ?_) (fun c => ?_)
        · have h := h.1 (c)
          refine r_iload_n 35 dX11_change_34 rfl rfl ?_
          have hJ_1 : Ex l G (d + 2) mX11_change 106 [some (vR (some (2, 0))), some (vI x1), some (vI x2), some (vI x3), some (vI x4), some (vI x5), some (vI x6), some (vI (if x2 = 0 then (if 10 ≤ x4 then 0 else 1 : Int) else (if x2 = 1 then (if 6 ≤ x4 then 0 else (if (0 ≤ x3 ∧ x3 < (M.1 4 0 0)) ∧ (0 ≤ x5 ∧ x5 < (M.1 4 0 0)) ∧ ¬ x3 = x5 then 1 else 0 : Int) : Int) else (if x2 = 2 then (if 8 ≤ x4 then 0 else 1 : Int) else 0 : Int) : Int) : Int))] [] M r M' := by
            refine r_iload 108 dX11_change_106 rfl rfl ?_
            refine r_if_ne 111 113 dX11_change_108 rfl rfl (fun c => ?_) (fun c => ?_)
            · have h := h.1 (c)
              refine r_aload_n 114 dX11_change_113 rfl rfl ?_
              refine r_aload_n 115 dX11_change_114 rfl rfl ?_
              refine g_R 118 dX11_change_115 rfl rfl rfl fr_11_12 (sh_11_0 hS) ?_
              refine r_iload_n 119 dX11_change_118 rfl rfl ?_
              refine r_iload_n 120 dX11_change_119 rfl rfl ?_
              refine r_iload_n 121 dX11_change_120 rfl rfl ?_
              refine r_iload 123 dX11_change_121 rfl rfl ?_
              refine r_iload_n 124 dX11_change_123 rfl rfl ?_
              refine r_iconst 125 dX11_change_124 rfl (InR_of rfl) ?_
              have hJ_9 : Ex l G (d + 2) mX11_change 134 [some (vR (some (2, 0))), some (vI x1), some (vI x2), some (vI x3), some (vI x4), some (vI x5), some (vI x6), some (vI (if x2 = 0 then (if 10 ≤ x4 then 0 else 1 : Int) else (if x2 = 1 then (if 6 ≤ x4 then 0 else (if (0 ≤ x3 ∧ x3 < (M.1 4 0 0)) ∧ (0 ≤ x5 ∧ x5 < (M.1 4 0 0)) ∧ ¬ x3 = x5 then 1 else 0 : Int) : Int) else (if x2 = 2 then (if 8 ≤ x4 then 0 else 1 : Int) else 0 : Int) : Int) : Int))] [vI (if x2 = 1 then x5 else 0 : Int), vI x4, vI x3, vI x2, vI x1, vR (some (4, 0)), vR (some (2, 0))] M r M' := by
                refine r_iload 136 dX11_change_134 rfl rfl ?_
                obtain ⟨r_13, M_11, hc_12, h⟩ := h
                refine v_1 (ci := 8) (C := (RX8, TX8, 13)) [vI x1, vI x2, vI x3, vI x4, vI (if x2 = 1 then x5 else 0 : Int), vI x6] [vR (some (2, 0))] 139 dX11_change_136 rfl rfl rfl rfl rfl mo_X8_addChange ml_11_134 rfl rfl hc_12 ?_
                obtain ⟨M_14, hc_15, hS, h⟩ := h
                refine v_0 (ci := 11) (C := (RX11, TX11, 16)) [vI r_13] [] 142 dX11_change_139 rfl rfl rfl rfl rfl mo_X11_forgetFacts ml_11_117 rfl rfl hc_15 ?_
                refine r_aload_n 143 dX11_change_142 rfl rfl ?_
                refine g_R 146 dX11_change_143 rfl rfl rfl fr_11_12 (sh_11_0 hS) ?_
                refine g_I 149 dX11_change_146 rfl rfl rfl fi_11_121 rfl ?_
                exact r_iret dX11_change_149 rfl (.inl rfl) h.1 h.2
              refine r_icmp_ne 128 133 dX11_change_125 rfl rfl (fun c => ?_) (fun c => ?_)
              · have c_10 := c
                refine r_iconst 134 dX11_change_133 rfl (InR_of rfl) ?_
                exact (Ex.at hJ_9 rfl (show [vI 0, vI x4, vI x3, vI x2, vI x1, vR (some (4, 0)), vR (some (2, 0))] = [vI (if x2 = 1 then x5 else 0 : Int), vI x4, vI x3, vI x2, vI x1, vR (some (4, 0)), vR (some (2, 0))] by simp only [if_neg c_10]) rfl)
              · have c_10 := Decidable.not_not.mp c
                refine r_iload 130 dX11_change_128 rfl rfl ?_
                refine r_goto 134 dX11_change_130 rfl ?_
                exact (Ex.at hJ_9 rfl (show [vI x5, vI x4, vI x3, vI x2, vI x1, vR (some (4, 0)), vR (some (2, 0))] = [vI (if x2 = 1 then x5 else 0 : Int), vI x4, vI x3, vI x2, vI x1, vR (some (4, 0)), vR (some (2, 0))] by simp only [if_pos c_10]) rfl)
            · have h := h.2 (Decidable.not_not.mp c)
              refine r_iconst 112 dX11_change_111 rfl (InR_of rfl) ?_
              exact r_iret dX11_change_112 rfl (.inl rfl) h.1 h.2
          refine r_if_ne 38 55 dX11_change_35 rfl rfl (fun c => ?_) (fun c => ?_)
          · have c_2 := c
            refine r_iload_n 56 dX11_change_55 rfl rfl ?_
            refine r_iconst 57 dX11_change_56 rfl (InR_of rfl) ?_
            refine r_icmp_ne 60 87 dX11_change_57 rfl rfl (fun c => ?_) (fun c => ?_)
            · have c_3 := c
              refine r_iload_n 88 dX11_change_87 rfl rfl ?_
              refine r_iconst 89 dX11_change_88 rfl (InR_of rfl) ?_
              refine r_icmp_ne 92 103 dX11_change_89 rfl rfl (fun c => ?_) (fun c => ?_)
              · have c_4 := c
                refine r_iconst 104 dX11_change_103 rfl (InR_of rfl) ?_
                refine r_istore (ls' := [some (vR (some (2, 0))), some (vI x1), some (vI x2), some (vI x3), some (vI x4), some (vI x5), some (vI x6), some (vI 0)]) 106 dX11_change_104 rfl rfl rfl rfl ?_
                exact (Ex.at hJ_1 (show [some (vR (some (2, 0))), some (vI x1), some (vI x2), some (vI x3), some (vI x4), some (vI x5), some (vI x6), some (vI 0)] = [some (vR (some (2, 0))), some (vI x1), some (vI x2), some (vI x3), some (vI x4), some (vI x5), some (vI x6), some (vI (if x2 = 0 then (if 10 ≤ x4 then 0 else 1 : Int) else (if x2 = 1 then (if 6 ≤ x4 then 0 else (if (0 ≤ x3 ∧ x3 < (M.1 4 0 0)) ∧ (0 ≤ x5 ∧ x5 < (M.1 4 0 0)) ∧ ¬ x3 = x5 then 1 else 0 : Int) : Int) else (if x2 = 2 then (if 8 ≤ x4 then 0 else 1 : Int) else 0 : Int) : Int) : Int))] by simp only [if_neg c_2, if_neg c_3, if_neg c_4]) rfl rfl)
              · have c_4 := Decidable.not_not.mp c
                refine r_iload 94 dX11_change_92 rfl rfl ?_
                refine r_bipush 96 dX11_change_94 rfl rfl ?_
                refine r_icmp_ge 99 103 dX11_change_96 rfl rfl (fun c => ?_) (fun c => ?_)
                · have c_5 := c
                  refine r_iconst 104 dX11_change_103 rfl (InR_of rfl) ?_
                  refine r_istore (ls' := [some (vR (some (2, 0))), some (vI x1), some (vI x2), some (vI x3), some (vI x4), some (vI x5), some (vI x6), some (vI 0)]) 106 dX11_change_104 rfl rfl rfl rfl ?_
                  exact (Ex.at hJ_1 (show [some (vR (some (2, 0))), some (vI x1), some (vI x2), some (vI x3), some (vI x4), some (vI x5), some (vI x6), some (vI 0)] = [some (vR (some (2, 0))), some (vI x1), some (vI x2), some (vI x3), some (vI x4), some (vI x5), some (vI x6), some (vI (if x2 = 0 then (if 10 ≤ x4 then 0 else 1 : Int) else (if x2 = 1 then (if 6 ≤ x4 then 0 else (if (0 ≤ x3 ∧ x3 < (M.1 4 0 0)) ∧ (0 ≤ x5 ∧ x5 < (M.1 4 0 0)) ∧ ¬ x3 = x5 then 1 else 0 : Int) : Int) else (if x2 = 2 then (if 8 ≤ x4 then 0 else 1 : Int) else 0 : Int) : Int) : Int))] by simp only [if_neg c_2, if_neg c_3, if_pos c_4, if_pos c_5]) rfl rfl)
                · have c_5 := c
                  refine r_iconst 100 dX11_change_99 rfl (InR_of rfl) ?_
                  refine r_goto 104 dX11_change_100 rfl ?_
                  refine r_istore (ls' := [some (vR (some (2, 0))), some (vI x1), some (vI x2), some (vI x3), some (vI x4), some (vI x5), some (vI x6), some (vI 1)]) 106 dX11_change_104 rfl rfl rfl rfl ?_
                  exact (Ex.at hJ_1 (show [some (vR (some (2, 0))), some (vI x1), some (vI x2), some (vI x3), some (vI x4), some (vI x5), some (vI x6), some (vI 1)] = [some (vR (some (2, 0))), some (vI x1), some (vI x2), some (vI x3), some (vI x4), some (vI x5), some (vI x6), some (vI (if x2 = 0 then (if 10 ≤ x4 then 0 else 1 : Int) else (if x2 = 1 then (if 6 ≤ x4 then 0 else (if (0 ≤ x3 ∧ x3 < (M.1 4 0 0)) ∧ (0 ≤ x5 ∧ x5 < (M.1 4 0 0)) ∧ ¬ x3 = x5 then 1 else 0 : Int) : Int) else (if x2 = 2 then (if 8 ≤ x4 then 0 else 1 : Int) else 0 : Int) : Int) : Int))] by simp only [if_neg c_2, if_neg c_3, if_pos c_4, if_neg c_5]) rfl rfl)
            · have c_3 := Decidable.not_not.mp c
              refine r_iload 62 dX11_change_60 rfl rfl ?_
              refine r_bipush 64 dX11_change_62 rfl rfl ?_
              refine r_icmp_ge 67 81 dX11_change_64 rfl rfl (fun c => ?_) (fun c => ?_)
              · have c_6 := c
                refine r_iconst 82 dX11_change_81 rfl (InR_of rfl) ?_
                refine r_istore (ls' := [some (vR (some (2, 0))), some (vI x1), some (vI x2), some (vI x3), some (vI x4), some (vI x5), some (vI x6), some (vI 0)]) 84 dX11_change_82 rfl rfl rfl rfl ?_
                refine r_goto 106 dX11_change_84 rfl ?_
                exact (Ex.at hJ_1 (show [some (vR (some (2, 0))), some (vI x1), some (vI x2), some (vI x3), some (vI x4), some (vI x5), some (vI x6), some (vI 0)] = [some (vR (some (2, 0))), some (vI x1), some (vI x2), some (vI x3), some (vI x4), some (vI x5), some (vI x6), some (vI (if x2 = 0 then (if 10 ≤ x4 then 0 else 1 : Int) else (if x2 = 1 then (if 6 ≤ x4 then 0 else (if (0 ≤ x3 ∧ x3 < (M.1 4 0 0)) ∧ (0 ≤ x5 ∧ x5 < (M.1 4 0 0)) ∧ ¬ x3 = x5 then 1 else 0 : Int) : Int) else (if x2 = 2 then (if 8 ≤ x4 then 0 else 1 : Int) else 0 : Int) : Int) : Int))] by simp only [if_neg c_2, if_pos c_3, if_pos c_6]) rfl rfl)
              · have c_6 := c
                refine r_aload_n 68 dX11_change_67 rfl rfl ?_
                refine r_iload_n 69 dX11_change_68 rfl rfl ?_
                refine r_iload 71 dX11_change_69 rfl rfl ?_
                refine v_1 (ci := 11) (C := (RX11, TX11, 16)) [vI x3, vI x5] [] 74 dX11_change_71 rfl rfl rfl rfl rfl mo_X11_areTwo ml_11_130 rfl rfl (KX11_areTwo hS) ?_
                refine r_if_eq 77 81 dX11_change_74 rfl rfl (fun c => ?_) (fun c => ?_)
                · have c_7 := b2_0.mp c
                  refine r_iconst 82 dX11_change_81 rfl (InR_of rfl) ?_
                  refine r_istore (ls' := [some (vR (some (2, 0))), some (vI x1), some (vI x2), some (vI x3), some (vI x4), some (vI x5), some (vI x6), some (vI 0)]) 84 dX11_change_82 rfl rfl rfl rfl ?_
                  refine r_goto 106 dX11_change_84 rfl ?_
                  exact (Ex.at hJ_1 (show [some (vR (some (2, 0))), some (vI x1), some (vI x2), some (vI x3), some (vI x4), some (vI x5), some (vI x6), some (vI 0)] = [some (vR (some (2, 0))), some (vI x1), some (vI x2), some (vI x3), some (vI x4), some (vI x5), some (vI x6), some (vI (if x2 = 0 then (if 10 ≤ x4 then 0 else 1 : Int) else (if x2 = 1 then (if 6 ≤ x4 then 0 else (if (0 ≤ x3 ∧ x3 < (M.1 4 0 0)) ∧ (0 ≤ x5 ∧ x5 < (M.1 4 0 0)) ∧ ¬ x3 = x5 then 1 else 0 : Int) : Int) else (if x2 = 2 then (if 8 ≤ x4 then 0 else 1 : Int) else 0 : Int) : Int) : Int))] by simp only [if_neg c_2, if_pos c_3, if_neg c_6, if_neg c_7]) rfl rfl)
                · have c_7 := b2_1.mp c
                  refine r_iconst 78 dX11_change_77 rfl (InR_of rfl) ?_
                  refine r_goto 82 dX11_change_78 rfl ?_
                  refine r_istore (ls' := [some (vR (some (2, 0))), some (vI x1), some (vI x2), some (vI x3), some (vI x4), some (vI x5), some (vI x6), some (vI 1)]) 84 dX11_change_82 rfl rfl rfl rfl ?_
                  refine r_goto 106 dX11_change_84 rfl ?_
                  exact (Ex.at hJ_1 (show [some (vR (some (2, 0))), some (vI x1), some (vI x2), some (vI x3), some (vI x4), some (vI x5), some (vI x6), some (vI 1)] = [some (vR (some (2, 0))), some (vI x1), some (vI x2), some (vI x3), some (vI x4), some (vI x5), some (vI x6), some (vI (if x2 = 0 then (if 10 ≤ x4 then 0 else 1 : Int) else (if x2 = 1 then (if 6 ≤ x4 then 0 else (if (0 ≤ x3 ∧ x3 < (M.1 4 0 0)) ∧ (0 ≤ x5 ∧ x5 < (M.1 4 0 0)) ∧ ¬ x3 = x5 then 1 else 0 : Int) : Int) else (if x2 = 2 then (if 8 ≤ x4 then 0 else 1 : Int) else 0 : Int) : Int) : Int))] by simp only [if_neg c_2, if_pos c_3, if_neg c_6, if_pos c_7]) rfl rfl)
          · have c_2 := Decidable.not_not.mp c
            refine r_iload 40 dX11_change_38 rfl rfl ?_
            refine r_bipush 42 dX11_change_40 rfl rfl ?_
            refine r_icmp_ge 45 49 dX11_change_42 rfl rfl (fun c => ?_) (fun c => ?_)
            · have c_8 := c
              refine r_iconst 50 dX11_change_49 rfl (InR_of rfl) ?_
              refine r_istore (ls' := [some (vR (some (2, 0))), some (vI x1), some (vI x2), some (vI x3), some (vI x4), some (vI x5), some (vI x6), some (vI 0)]) 52 dX11_change_50 rfl rfl rfl rfl ?_
              refine r_goto 106 dX11_change_52 rfl ?_
              exact (Ex.at hJ_1 (show [some (vR (some (2, 0))), some (vI x1), some (vI x2), some (vI x3), some (vI x4), some (vI x5), some (vI x6), some (vI 0)] = [some (vR (some (2, 0))), some (vI x1), some (vI x2), some (vI x3), some (vI x4), some (vI x5), some (vI x6), some (vI (if x2 = 0 then (if 10 ≤ x4 then 0 else 1 : Int) else (if x2 = 1 then (if 6 ≤ x4 then 0 else (if (0 ≤ x3 ∧ x3 < (M.1 4 0 0)) ∧ (0 ≤ x5 ∧ x5 < (M.1 4 0 0)) ∧ ¬ x3 = x5 then 1 else 0 : Int) : Int) else (if x2 = 2 then (if 8 ≤ x4 then 0 else 1 : Int) else 0 : Int) : Int) : Int))] by simp only [if_pos c_2, if_pos c_8]) rfl rfl)
            · have c_8 := c
              refine r_iconst 46 dX11_change_45 rfl (InR_of rfl) ?_
              refine r_goto 50 dX11_change_46 rfl ?_
              refine r_istore (ls' := [some (vR (some (2, 0))), some (vI x1), some (vI x2), some (vI x3), some (vI x4), some (vI x5), some (vI x6), some (vI 1)]) 52 dX11_change_50 rfl rfl rfl rfl ?_
              refine r_goto 106 dX11_change_52 rfl ?_
              exact (Ex.at hJ_1 (show [some (vR (some (2, 0))), some (vI x1), some (vI x2), some (vI x3), some (vI x4), some (vI x5), some (vI x6), some (vI 1)] = [some (vR (some (2, 0))), some (vI x1), some (vI x2), some (vI x3), some (vI x4), some (vI x5), some (vI x6), some (vI (if x2 = 0 then (if 10 ≤ x4 then 0 else 1 : Int) else (if x2 = 1 then (if 6 ≤ x4 then 0 else (if (0 ≤ x3 ∧ x3 < (M.1 4 0 0)) ∧ (0 ≤ x5 ∧ x5 < (M.1 4 0 0)) ∧ ¬ x3 = x5 then 1 else 0 : Int) : Int) else (if x2 = 2 then (if 8 ≤ x4 then 0 else 1 : Int) else 0 : Int) : Int) : Int))] by simp only [if_pos c_2, if_neg c_8]) rfl rfl)
        · have h := h.2 (c)
          refine r_iconst 33 dX11_change_32 rfl (InR_of rfl) ?_
          exact r_iret dX11_change_33 rfl (.inl rfl) h.1 h.2

def chQ (Q : QT) (day kind who what oth is : Int) : QT := upQ (upQ (upQ (upQ (upQ (upQ (upQ Q 56 (nCh Q) day) 57 (nCh Q) kind) 58 (nCh Q) who) 59 (nCh Q) what) 60 (nCh Q) oth) 61 (nCh Q) (if is = 0 then 0 else 1)) 48 2 (Q 48 2 + 1)
def changeV (Q : QT) (day kind who what oth is : Int) : Int := if (¬ Q 48 2 = 60 ∧ (0 ≤ day ∧ day ≤ 999) ∧ (0 ≤ kind ∧ kind ≤ 2) ∧ (0 ≤ who ∧ who < (nPp Q : Int)) ∧ 0 ≤ what ∧ (kind = 0 → what < 10) ∧ (kind = 1 → what < 6 ∧ (0 ≤ oth ∧ oth < (nPp Q : Int)) ∧ ¬ oth = who) ∧ (kind = 2 → what < 8)) then Q 48 2 + 1 else -1
def changeQ (Q : QT) (day kind who what oth is : Int) : QT := if (¬ Q 48 2 = 60 ∧ (0 ≤ day ∧ day ≤ 999) ∧ (0 ≤ kind ∧ kind ≤ 2) ∧ (0 ≤ who ∧ who < (nPp Q : Int)) ∧ 0 ≤ what ∧ (kind = 0 → what < 10) ∧ (kind = 1 → what < 6 ∧ (0 ≤ oth ∧ oth < (nPp Q : Int)) ∧ ¬ oth = who) ∧ (kind = 2 → what < 8)) then chQ Q day kind who what oth is else Q
/-- where the new one is put -/
def inP (Q : QT) (day : Int) : Nat := insP (fun i => Q 56 (srt Q i)) (nCh Q) day
section CG
variable {l : Launch} {G : Gt} {d : Nat} {Q : QT} {M : Mem} {day kind who what oth is : Int}
theorem chQ_f {f : Nat} (h : ¬ ((56 ≤ f ∧ f ≤ 61) ∨ f = 48)) : chQ Q day kind who what oth is f = Q f := by
  unfold chQ
  rw [upQ_f (by omega), upQ_f (by omega), upQ_f (by omega), upQ_f (by omega), upQ_f (by omega), upQ_f (by omega), upQ_f (by omega)]
theorem chQ_s {i : Nat} (h : ¬ i = 2) : chQ Q day kind who what oth is 48 i = Q 48 i := by
  unfold chQ
  rw [upQ_i h, upQ_f (by omega), upQ_f (by omega), upQ_f (by omega), upQ_f (by omega), upQ_f (by omega), upQ_f (by omega)]
theorem chQ_2 : chQ Q day kind who what oth is 48 2 = Q 48 2 + 1 := upQ_s
theorem chQ_i {f i : Nat} (h : 56 ≤ f ∧ f ≤ 61) (hi : ¬ i = nCh Q) : chQ Q day kind who what oth is f i = Q f i := by
  unfold chQ
  rw [upQ_f (by omega), upQ_o (by omega), upQ_o (by omega), upQ_o (by omega), upQ_o (by omega), upQ_o (by omega), upQ_o (by omega)]
theorem chQ_k : chQ Q day kind who what oth is 56 (nCh Q) = day ∧ chQ Q day kind who what oth is 57 (nCh Q) = kind ∧ chQ Q day kind who what oth is 58 (nCh Q) = who ∧ chQ Q day kind who what oth is 59 (nCh Q) = what ∧ chQ Q day kind who what oth is 60 (nCh Q) = oth ∧ chQ Q day kind who what oth is 61 (nCh Q) = (if is = 0 then 0 else 1) := by
  unfold chQ
  refine ⟨?_, ?_, ?_, ?_, ?_, ?_⟩
  · rw [upQ_f (by omega), upQ_f (by omega), upQ_f (by omega), upQ_f (by omega), upQ_f (by omega), upQ_f (by omega), upQ_s]
  · rw [upQ_f (by omega), upQ_f (by omega), upQ_f (by omega), upQ_f (by omega), upQ_f (by omega), upQ_s]
  · rw [upQ_f (by omega), upQ_f (by omega), upQ_f (by omega), upQ_f (by omega), upQ_s]
  · rw [upQ_f (by omega), upQ_f (by omega), upQ_f (by omega), upQ_s]
  · rw [upQ_f (by omega), upQ_f (by omega), upQ_s]
  · rw [upQ_f (by omega), upQ_s]
theorem chQ_n (h : WFc Q) : nCh (chQ Q day kind who what oth is) = nCh Q + 1 := by
  unfold nCh
  rw [chQ_2]
  have := h.2.1
  omega
theorem chQ_p : nPp (chQ Q day kind who what oth is) = nPp Q := by unfold nPp; rw [chQ_s (by omega)]
theorem chQ_v : eqV Q (chQ Q day kind who what oth is) := ⟨by rw [chQ_f (by omega)], chQ_f (by omega), chQ_f (by omega), chQ_f (by omega), chQ_f (by omega), chQ_f (by omega)⟩
theorem chQ_r : eqR Q (chQ Q day kind who what oth is) := ⟨chQ_s (by omega), chQ_f (by omega), chQ_f (by omega), chQ_f (by omega)⟩
theorem chQ_M : eqM Q (chQ Q day kind who what oth is) := ⟨chQ_f (by omega), by rw [chQ_f (by omega)], chQ_f (by omega)⟩
theorem inP_le : inP Q day ≤ nCh Q := insP_le _ _ _
theorem chQ_srt (h : WFc Q) {i : Nat} (hi : i ≤ nCh Q) : srt (chQ Q day kind who what oth is) i = if i < inP Q day then srt Q i else if i = inP Q day then nCh Q else srt Q (i - 1) := by
  have hD : ∀ j, j < nCh Q → chQ Q day kind who what oth is 56 j = Q 56 j := fun j hj => chQ_i (by omega) (by omega)
  have hs : ∀ j, j < nCh Q → srtF (chQ Q day kind who what oth is 56) (nCh Q) j = srt Q j := fun j hj => srtF_congr hD j hj
  have e : srt (chQ Q day kind who what oth is) i = insF (srtF (chQ Q day kind who what oth is 56) (nCh Q)) (insP (fun j => chQ Q day kind who what oth is 56 (srtF (chQ Q day kind who what oth is 56) (nCh Q) j)) (nCh Q) (chQ Q day kind who what oth is 56 (nCh Q))) (nCh Q) i := by
    unfold srt
    rw [chQ_n h]
    rfl
  have ep : insP (fun j => chQ Q day kind who what oth is 56 (srtF (chQ Q day kind who what oth is 56) (nCh Q) j)) (nCh Q) (chQ Q day kind who what oth is 56 (nCh Q)) = inP Q day := by
    rw [chQ_k.1]
    exact insP_congr fun j hj => by rw [hs j hj, hD _ (srt_lt hj)]
  rw [e, ep]
  unfold insF
  have hp := inP_le (Q := Q) (day := day)
  by_cases c : i < inP Q day
  · rw [if_pos c, if_pos c, hs i (by omega)]
  · rw [if_neg c, if_neg c]
    by_cases c2 : i = inP Q day
    · rw [if_pos c2, if_pos c2]
    · rw [if_neg c2, if_neg c2, hs (i - 1) (by omega)]
theorem chQ_pk {j : Nat} (hj : j < nCh Q) : pk (chQ Q day kind who what oth is) j = pk Q j := by
  unfold pk
  rw [chQ_i (by omega) (by omega), chQ_i (by omega) (by omega), chQ_i (by omega) (by omega), chQ_i (by omega) (by omega), chQ_i (by omega) (by omega), chQ_i (by omega) (by omega)]
/-- what is so behind the first changes stays so -/
theorem chQ_mk (h : WFc Q) : ∀ n, n ≤ inP Q day → mkF (chQ Q day kind who what oth is) n = mkF Q n ∧ tiF (chQ Q day kind who what oth is) n = tiF Q n ∧ plF (chQ Q day kind who what oth is) n = plF Q n := by
  have hp := inP_le (Q := Q) (day := day)
  intro n
  induction n with
  | zero =>
    intro _
    exact ⟨rfl, rfl, by funext p; show chQ Q day kind who what oth is 49 p = _; rw [chQ_f (by omega)]; rfl⟩
  | succ n ih =>
    intro hn
    obtain ⟨i1, i2, i3⟩ := ih (by omega)
    have es : srt (chQ Q day kind who what oth is) n = srt Q n := by rw [chQ_srt h (by omega), if_pos (by omega)]
    have hl := srt_lt (Q := Q) (i := n) (by omega)
    refine ⟨?_, ?_, ?_⟩
    · funext p m
      unfold mkF
      rw [es, i1, chQ_i (by omega) (by omega), chQ_i (by omega) (by omega), chQ_i (by omega) (by omega), chQ_i (by omega) (by omega)]
    · funext p t q
      unfold tiF
      rw [es, i2, chQ_i (by omega) (by omega), chQ_i (by omega) (by omega), chQ_i (by omega) (by omega), chQ_i (by omega) (by omega), chQ_i (by omega) (by omega)]
    · funext p
      unfold plF
      rw [es, i3, chQ_i (by omega) (by omega), chQ_i (by omega) (by omega), chQ_i (by omega) (by omega)]
theorem changeQ_W (h : WFA Q) : WFA (changeQ Q day kind who what oth is) := by
  unfold changeQ
  split
  · rename_i g
    obtain ⟨g1, g2, g3, g4, g5, g6, g7, g8⟩ := g
    have h2 := h.1.1.2.1
    have hk : nCh Q < 60 := by unfold nCh; omega
    have hP := nPp_eq h.1.1
    refine h.mk2 ⟨⟨by rw [chQ_s (by omega)]; exact h.1.1.1, by rw [chQ_2]; omega, fun p hp => by rw [chQ_f (by omega)]; exact h.1.1.2.2.1 p hp, fun j hj => ?_⟩, WFr_q chQ_r h.1.2.1, ?_, ?_, ?_, ?_, ?_, ?_⟩ (WFV_q chQ_v h.2.1) ?_ ?_ chQ_M ⟨chQ_f (by omega), chQ_f (by omega)⟩
    · rw [chQ_n h.1.1] at hj
      rw [chQ_s (by omega)]
      by_cases e : j = nCh Q
      · obtain ⟨q1, q2, q3, q4, q5, q6⟩ := chQ_k (Q := Q) (day := day) (kind := kind) (who := who) (what := what) (oth := oth) (is := is)
        rw [e, q1, q2, q3, q4, q5, q6]
        exact ⟨g2, g3, by omega, g5, g6, fun e => by have := g7 e; omega, g8, by split <;> omega⟩
      · rw [chQ_i (by omega) e, chQ_i (by omega) e, chQ_i (by omega) e, chQ_i (by omega) e, chQ_i (by omega) e, chQ_i (by omega) e]
        exact h.1.1.2.2.2 j (by omega)
    · unfold WFk; rw [chQ_f (by omega)]; exact h.1.2.2.1
    · unfold WFp; rw [chQ_f (by omega), chQ_p]; exact h.1.2.2.2.1
    · exact h.l.eq chQ_p (nCv_q chQ_v) (chQ_s (by omega)) (chQ_s (by omega)) (fun f h1 h2 => chQ_f (by omega))
    · rw [chQ_f (by omega), chQ_p]; exact h.1.2.2.2.2.2.1
    · rw [chQ_f (by omega)]; exact h.1.2.2.2.2.2.2.1
    · rw [chQ_f (show ¬ ((56 ≤ 52 ∧ 52 ≤ 61) ∨ 52 = 48) by omega), chQ_s (by omega)]; exact h.1.2.2.2.2.2.2.2
    · rw [chQ_f (by omega), chQ_f (by omega)]; exact h.2.2.1
    · have z : ∀ f, 56 ≤ f → f ≤ 61 → nCh Q < lenF f := fun f h1 h2 => by unfold lenF; rw [if_neg (by omega), if_neg (by omega), if_neg (by omega), if_neg (by omega), if_neg (by omega), if_pos (by omega)]; omega
      unfold chQ
      exact ((((((h.2.2.2.1.up (fun _ _ => z _ (by omega) (by omega))).up (fun _ _ => z _ (by omega) (by omega))).up (fun _ _ => z _ (by omega) (by omega))).up (fun _ _ => z _ (by omega) (by omega))).up (fun _ _ => z _ (by omega) (by omega))).up (fun _ _ => z _ (by omega) (by omega))).up (fun _ _ => by unfold lenF; rw [if_pos (by omega)]; omega)
  · exact h
theorem per_up {I : IM} {f i : Nat} {v : Int} (h : ∀ f i, perF f i → I f 0 i = Q f i) : ∀ f' i', perF f' i' → upI I f 0 i v f' 0 i' = upQ Q f i v f' i' := fun f' i' hp => by
  by_cases e : f' = f
  · subst e
    rw [upI_c, upQ_c]
    split
    · rfl
    · exact h _ _ hp
  · rw [upI_o (fun c => e c.1), upQ_f e]
    exact h _ _ hp
theorem KX12_change (hS : Sh M.2.1) (hw : WFA Q) (hH : HoldsQ Q M.1) : ∃ I', Cl l G (d + 3) mX12_change [vR (some (3, 0)), vI day, vI kind, vI who, vI what, vI oth, vI is] M (some (vI (changeV Q day kind who what oth is))) (I', M.2.1, M.2.2) ∧ HoldsQ (changeQ Q day kind who what oth is) I' ∧ frR M.1 I' := by
  have e1 := mppl_eq hw.1.1 hH.m
  have e2 : M.1 48 0 2 = Q 48 2 := hH.1 _ _ (by unfold perF; omega)
  have h2 := hw.1.1.2.1
  have h12 := nPp_le hw.1.1
  have hk : (Q 48 2).toNat = nCh Q := rfl
  have ir : InR ((nPp Q : Int) - 1) := by unfold InR; omega
  unfold changeV changeQ
  by_cases g : (¬ Q 48 2 = 60 ∧ (0 ≤ day ∧ day ≤ 999) ∧ (0 ≤ kind ∧ kind ≤ 2) ∧ (0 ≤ who ∧ who < (nPp Q : Int)) ∧ 0 ≤ what ∧ (kind = 0 → what < 10) ∧ (kind = 1 → what < 6 ∧ (0 ≤ oth ∧ oth < (nPp Q : Int)) ∧ ¬ oth = who) ∧ (kind = 2 → what < 8))
  · rw [if_pos g, if_pos g]
    obtain ⟨g1, g2, g3, g4, g5, g6, g7, g8⟩ := g
    have hn60 : nCh Q < 60 := by unfold nCh; omega
    obtain ⟨I1, hI1⟩ : ∃ I1, I1 = upI (upI (upI (upI (upI (upI (upI M.1 56 0 (nCh Q) day) 57 0 (nCh Q) kind) 58 0 (nCh Q) who) 59 0 (nCh Q) what) 60 0 (nCh Q) oth) 61 0 (nCh Q) (if is = 0 then 0 else 1)) 48 0 2 (Q 48 2 + 1) := ⟨_, rfl⟩
    have hper : ∀ f i, perF f i → I1 f 0 i = chQ Q day kind who what oth is f i := by
      rw [hI1]
      unfold chQ
      exact per_up (per_up (per_up (per_up (per_up (per_up (per_up hH.1))))))
    have hfr : frR M.1 I1 := by rw [hI1]; exact ((((((frR.up (by omega)).tr (frR.up (by omega))).tr (frR.up (by omega))).tr (frR.up (by omega))).tr (frR.up (by omega))).tr (frR.up (by omega))).tr (frR.up (by omega))
    have ks := KX12_sorts (l := l) (G := G) (d := d + 2) (M := (I1, M.2.1, M.2.2)) hS (n := nCh Q + 1) (by dsimp only; rw [hper _ _ (by unfold perF; omega), chQ_2]; unfold nCh; omega) (by omega)
    dsimp only at ks
    have hx100 : Ex l G (d + 3) mX12_change 100 [some (vR (some (3, 0))), some (vI day), some (vI kind), some (vI who), some (vI what), some (vI oth), some (vI is), some (vI (Q 48 2))] [] M (some (vI (Q 48 2 + 1))) (seI I1 74 0 (rowS (I1 56 0) (I1 74 0) (nCh Q + 1)), M.2.1, M.2.2) := by
      refine xX12_change_100 hS ?_
      rw [hk, e2, ← hI1]
      refine ⟨by omega, ⟨by omega, by unfold InR; omega⟩, _, ks, hS, ?_, rfl⟩
      dsimp only
      rw [seI_o (by omega), hper _ _ (by unfold perF; omega), chQ_2]
    have hx78 : Ex l G (d + 3) mX12_change 78 [some (vR (some (3, 0))), some (vI day), some (vI kind), some (vI who), some (vI what), some (vI oth), some (vI is), some (vI (Q 48 2))] [] M (some (vI (Q 48 2 + 1))) (seI I1 74 0 (rowS (I1 56 0) (I1 74 0) (nCh Q + 1)), M.2.1, M.2.2) := by
      refine xX12_change_78 hS ⟨fun _ => hx100, fun c => ?_⟩
      have := g7 c
      rw [e1]
      exact ⟨ir, fun n => absurd this.2.1 n, fun _ => ⟨fun _ => hx100, fun n => absurd n this.2.2⟩⟩
    refine ⟨seI I1 74 0 (rowS (I1 56 0) (I1 74 0) (nCh Q + 1)), xX12_change_0 hS ?_, ⟨fun f i hp => ?_, fun i hi => ?_⟩, fun f k i hn => ?_⟩
    · rw [e1, e2]
      exact ⟨fun c => absurd c g1, fun _ => ⟨fun c => absurd g2 c, fun _ => ⟨fun c => absurd g3 c, fun _ => ⟨ir, fun c => absurd g4 c, fun _ => ⟨fun c0 => ⟨fun c1 => ⟨fun _ => hx78, fun n => absurd ⟨g5, by have := g8 (by omega); omega⟩ n⟩, fun c1 => ⟨fun _ => hx78, fun n => absurd ⟨g5, by have := g7 c1; omega⟩ n⟩⟩, fun c0 => ⟨fun _ => hx78, fun n => absurd ⟨g5, by have := g6 c0; omega⟩ n⟩⟩⟩⟩⟩⟩
    · rw [seI_o (by unfold perF at hp; omega)]
      exact hper f i hp
    · rw [chQ_n hw.1.1] at hi
      rw [seI_s]
      unfold rowS
      rw [if_pos hi, show I1 56 0 = chQ Q day kind who what oth is 56 from funext fun i => hper _ _ (by unfold perF; omega)]
      unfold srt
      rw [chQ_n hw.1.1]
    · rw [seI_o (by omega)]
      exact hfr f k i hn
  · rw [if_neg g, if_neg g]
    have bad78 : 0 ≤ kind ∧ kind ≤ 2 → ¬ Q 48 2 = 60 → (0 ≤ day ∧ day ≤ 999) → (0 ≤ who ∧ who < (nPp Q : Int)) → 0 ≤ what → (kind = 0 → what < 10) → (kind = 1 → what < 6) → (kind = 2 → what < 8) → Ex l G (d + 3) mX12_change 78 [some (vR (some (3, 0))), some (vI day), some (vI kind), some (vI who), some (vI what), some (vI oth), some (vI is), some (vI (Q 48 2))] [] M (some (vI (-1))) M := fun k1 k2 k3 k4 k5 k6 k7 k8 => by
      refine xX12_change_78 hS ?_
      rw [e1]
      refine ⟨fun n => absurd ⟨k2, k3, k1, k4, k5, k6, fun c => absurd c n, k8⟩ g, fun c => ⟨ir, fun _ => ⟨rfl, rfl⟩, fun b1 => ⟨fun b2 => absurd ⟨k2, k3, k1, k4, k5, k6, fun c => ⟨k7 c, b1, b2⟩, k8⟩ g, fun _ => ⟨rfl, rfl⟩⟩⟩⟩
    refine ⟨M.1, xX12_change_0 hS ?_, hH, frR.rf⟩
    rw [e1, e2]
    exact ⟨fun _ => ⟨rfl, rfl⟩, fun k2 => ⟨fun _ => ⟨rfl, rfl⟩, fun k3 => ⟨fun _ => ⟨rfl, rfl⟩, fun k1 => ⟨ir, fun _ => ⟨rfl, rfl⟩, fun k4 => ⟨fun c0 => ⟨fun c1 => ⟨fun b => bad78 k1 k2 k3 k4 b.1 (by omega) (by omega) (by omega), fun _ => ⟨rfl, rfl⟩⟩, fun c1 => ⟨fun b => bad78 k1 k2 k3 k4 b.1 (by omega) (by omega) (by omega), fun _ => ⟨rfl, rfl⟩⟩⟩, fun c0 => ⟨fun b => bad78 k1 k2 k3 k4 b.1 (by omega) (by omega) (by omega), fun _ => ⟨rfl, rfl⟩⟩⟩⟩⟩⟩⟩
/-! the class -/
theorem KX8_addChange (hS : Sh M.2.1) (hw : WFc Q) (h60 : nCh Q < 60) (hC : ∀ i, i < nCh Q → M.1 35 0 i = pk Q (srt Q i)) (h4 : M.1 4 0 4 = (nCh Q : Int)) : ∃ I', Cl l G (d + 1) mX8_addChange [vR (some (4, 0)), vI day, vI kind, vI who, vI what, vI oth, vI is] M (some (vI (inP Q day : Int))) (I', M.2.1, M.2.2) ∧ (∀ f k i, ¬ ((f = 35 ∧ k = 0) ∨ (f = 4 ∧ k = 0 ∧ i = 4)) → I' f k i = M.1 f k i) ∧ I' 4 0 4 = (nCh Q : Int) + 1 ∧ ∀ i, i ≤ nCh Q → I' 35 0 i = if i < inP Q day then pk Q (srt Q i) else if i = inP Q day then pkF day kind who what oth (if is = 0 then 0 else 1) else pk Q (srt Q (i - 1)) := by
  have hp := inP_le (Q := Q) (day := day)
  have key : ∀ a : Nat, a ≤ nCh Q → insP (fun i => Q 56 (srt Q i)) a day = inP Q day → ∀ I, (∀ f k i, ¬ (f = 35 ∧ k = 0) → I f k i = M.1 f k i) → (∀ i, i < a → I 35 0 i = pk Q (srt Q i)) → (∀ i, a < i → i ≤ nCh Q → I 35 0 i = pk Q (srt Q (i - 1))) → ∃ I', Ex l G (d + 1) mX8_addChange 6 [some (vR (some (4, 0))), some (vI day), some (vI kind), some (vI who), some (vI what), some (vI oth), some (vI is), some (vI (a : Int))] [] (I, M.2.1, M.2.2) (some (vI (inP Q day : Int))) (I', M.2.1, M.2.2) ∧ (∀ f k i, ¬ ((f = 35 ∧ k = 0) ∨ (f = 4 ∧ k = 0 ∧ i = 4)) → I' f k i = M.1 f k i) ∧ I' 4 0 4 = (nCh Q : Int) + 1 ∧ ∀ i, i ≤ nCh Q → I' 35 0 i = if i < inP Q day then pk Q (srt Q i) else if i = inP Q day then pkF day kind who what oth (if is = 0 then 0 else 1) else pk Q (srt Q (i - 1)) := by
    intro a
    induction a with
    | zero =>
      intro ha he I hf h1 h2
      have e0 : inP Q day = 0 := he.symm
      have es : I 4 0 4 = (nCh Q : Int) := (hf _ _ _ (by omega)).trans h4
      rw [e0]
      refine ⟨upI (upI I 35 0 0 (pkF day kind who what oth (if is = 0 then 0 else 1))) 4 0 4 ((nCh Q : Int) + 1), xX8_addChange_6 hS ⟨fun _ => ?_, fun c => absurd (by omega) c⟩, fun f k i hn => ?_, upI_s, fun i hi => ?_⟩
      · dsimp only
        rw [es]
        exact ⟨⟨by omega, by unfold InR; omega⟩, rfl, rfl⟩
      · by_cases e : f = 4 ∧ k = 0
        · obtain ⟨rfl, rfl⟩ := e
          rw [upI_i (by omega), upI_o (by omega)]
          exact hf _ _ _ (by omega)
        · rw [upI_o e, upI_o (fun c => hn (.inl c))]
          exact hf _ _ _ (by omega)
      · rw [upI_o (by omega), if_neg (show ¬ i < 0 by omega)]
        by_cases c : i = 0
        · rw [if_pos c, c, upI_s]
        · rw [if_neg c, upI_i c]
          exact h2 i (by omega) hi
    | succ a ih =>
      intro ha he I hf h1 h2
      have es : I 4 0 4 = (nCh Q : Int) := (hf _ _ _ (by omega)).trans h4
      have ea : I 35 0 (((a + 1 : Nat) : Int) - 1).toNat = pk Q (srt Q a) := by rw [show (((a + 1 : Nat) : Int) - 1).toNat = a by omega]; exact h1 a (by omega)
      have ed := (pkQ_in hw (srt_lt (Q := Q) (i := a) (by omega))).1
      have hins : insP (fun i => Q 56 (srt Q i)) (a + 1) day = if Q 56 (srt Q a) > day then insP (fun i => Q 56 (srt Q i)) a day else a + 1 := rfl
      rw [hins] at he
      by_cases c : Q 56 (srt Q a) ≤ day
      · rw [if_neg (by omega)] at he
        rw [← he]
        refine ⟨upI (upI I 35 0 (a + 1) (pkF day kind who what oth (if is = 0 then 0 else 1))) 4 0 4 ((nCh Q : Int) + 1), xX8_addChange_6 hS ⟨fun c => by omega, fun _ => ⟨⟨by unfold InR; omega, by omega⟩, fun _ => ?_, fun n => absurd (by dsimp only; rw [ea, ed]; exact c) n⟩⟩, fun f k i hn => ?_, upI_s, fun i hi => ?_⟩
        · dsimp only
          rw [es, Int.toNat_natCast]
          exact ⟨⟨by omega, by unfold InR; omega⟩, rfl, rfl⟩
        · by_cases e : f = 4 ∧ k = 0
          · obtain ⟨rfl, rfl⟩ := e
            rw [upI_i (by omega), upI_o (by omega)]
            exact hf _ _ _ (by omega)
          · rw [upI_o e, upI_o (fun c => hn (.inl c))]
            exact hf _ _ _ (by omega)
        · rw [upI_o (by omega)]
          by_cases c1 : i < a + 1
          · rw [if_pos c1, upI_i (by omega)]
            exact h1 i c1
          · rw [if_neg c1]
            by_cases c2 : i = a + 1
            · rw [if_pos c2, c2, upI_s]
            · rw [if_neg c2, upI_i c2]
              exact h2 i (by omega) hi
      · rw [if_pos (by omega)] at he
        obtain ⟨I', x1, x2⟩ := ih (by omega) he (upI I 35 0 (a + 1) (pk Q (srt Q a))) (fun f k i hn => by rw [upI_o hn]; exact hf f k i hn) (fun i hi => by rw [upI_i (by omega)]; exact h1 i (by omega)) (fun i hi hi2 => by
          by_cases e : i = a + 1
          · rw [e, upI_s, show a + 1 - 1 = a by omega]
          · rw [upI_i e]; exact h2 i (by omega) hi2)
        refine ⟨I', xX8_addChange_6 hS ⟨fun c => by omega, fun _ => ⟨⟨by unfold InR; omega, by omega⟩, fun n => absurd (by dsimp only at n; rw [ea, ed] at n; exact n) c, fun _ => ⟨⟨by unfold InR; omega, by omega, by omega, by unfold InR; omega⟩, ?_⟩⟩⟩, x2⟩
        dsimp only
        rw [ea, Int.toNat_natCast, show ((a + 1 : Nat) : Int) + (-1) = (a : Int) by omega]
        exact x1
  obtain ⟨I', x1, x2⟩ := key (nCh Q) (Nat.le_refl _) rfl M.1 (fun _ _ _ _ => rfl) hC (fun i h1 h2 => by omega)
  refine ⟨I', xX8_addChange_0 ?_, x2⟩
  rw [h4]
  exact x1
theorem KX11_change (hR : RelC Q M) (hw : WFA Q) (his : is = 0 ∨ is = 1) : ∃ M', Cl l G (d + 4) mX11_change [vR (some (2, 0)), vI day, vI kind, vI who, vI what, vI oth, vI is] M (some (vI (changeV Q day kind who what oth is))) M' ∧ RelC (changeQ Q day kind who what oth is) M' ∧ frK M M' := by
  have hS := hR.1.1.1
  have hwc := hw.1.1
  have e1 := cppl_eq hwc hR.1.1
  have e2 : M.1 4 0 4 = Q 48 2 := hR.2.1.1.2.2.1
  have e2' : M.1 4 0 4 = (nCh Q : Int) := e2.trans (nCh_eq hwc)
  have h2 := hwc.2.1
  have h12 := nPp_le hwc
  unfold changeV changeQ
  by_cases g : (¬ Q 48 2 = 60 ∧ (0 ≤ day ∧ day ≤ 999) ∧ (0 ≤ kind ∧ kind ≤ 2) ∧ (0 ≤ who ∧ who < (nPp Q : Int)) ∧ 0 ≤ what ∧ (kind = 0 → what < 10) ∧ (kind = 1 → what < 6 ∧ (0 ≤ oth ∧ oth < (nPp Q : Int)) ∧ ¬ oth = who) ∧ (kind = 2 → what < 8))
  · rw [if_pos g, if_pos g]
    obtain ⟨g1, g2, g3, g4, g5, g6, g7, g8⟩ := g
    have hn60 : nCh Q < 60 := by unfold nCh; omega
    have hp := inP_le (Q := Q) (day := day)
    obtain ⟨I1, j1, j2, j3, j4⟩ := KX8_addChange (l := l) (G := G) (d := d + 2) (M := M) (day := day) (kind := kind) (who := who) (what := what) (oth := (if kind = 1 then oth else 0)) (is := is) hS hwc hn60 hR.2.1.2.2.2.1 e2'
    obtain ⟨I2, k1, k2, k3, k4, k5⟩ := KX11_forgetFacts (l := l) (G := G) (d := d + 1) (M := (I1, M.2.1, M.2.2)) (x := (inP Q day : Int)) hS (by dsimp only; intro c j hj; rw [j2 _ _ _ (by omega)] at c ⊢; exact hR.1.1.2.2.2.1.1 c j hj)
    dsimp only at k2 k3
    have hP := hR.1.1.2.2.1
    have ep0 : I1 6 0 2 = M.1 6 0 2 := j2 _ _ _ (by omega)
    simp only [ep0] at k3
    have eo : ∀ f k i, ¬ (((f = 6 ∧ i = 2) ∨ f = 24 ∨ (f = 8 ∧ i = 3)) ∧ k = 0) → ¬ (f = 35 ∧ k = 0) → ¬ (f = 4 ∧ k = 0 ∧ i = 4) → I2 f k i = M.1 f k i := fun f k i h1 h2 h3 => by
      rw [k2 f k i h1, j2 f k i (by omega)]
    have epk : pkF day kind who what (if kind = 1 then oth else 0) (if is = 0 then 0 else 1) = pk (chQ Q day kind who what oth is) (nCh Q) := by
      obtain ⟨q1, q2, q3, q4, q5, q6⟩ := chQ_k (Q := Q) (day := day) (kind := kind) (who := who) (what := what) (oth := oth) (is := is)
      unfold pk
      rw [q1, q2, q3, q4, q5, q6]
      have hwh : what < 10 := by
        by_cases c0 : kind = 0
        · exact g6 c0
        · by_cases c1 : kind = 1
          · have := g7 c1; omega
          · have := g8 (by omega); omega
      exact pkF_eq g2 g3 (by omega) ⟨g5, hwh⟩ (by
        by_cases c1 : kind = 1
        · have := g7 c1; rw [if_pos c1]; omega
        · rw [if_neg c1]; omega) (by split <;> omega)
    have ech : ∀ i, i < nCh (chQ Q day kind who what oth is) → I2 35 0 i = pk (chQ Q day kind who what oth is) (srt (chQ Q day kind who what oth is) i) := fun i hi => by
      rw [chQ_n hwc] at hi
      rw [k2 _ _ _ (by omega), j4 i (by omega), chQ_srt hwc (by omega)]
      by_cases c1 : i < inP Q day
      · rw [if_pos c1, if_pos c1, chQ_pk (srt_lt (by omega))]
      · rw [if_neg c1, if_neg c1]
        by_cases c2 : i = inP Q day
        · rw [if_pos c2, if_pos c2, epk]
        · rw [if_neg c2, if_neg c2, chQ_pk (srt_lt (by omega))]
    have e4 : I2 4 0 4 = Q 48 2 + 1 := by rw [k2 _ _ _ (by omega), j3, nCh_eq hwc]
    obtain ⟨⟨a1, a2, a3, a4⟩, a5, a6, a7, a8, a9, a10, a11⟩ := hR.2.1
    have hA : RelA (chQ Q day kind who what oth is) (I2, M.2.1, M.2.2) := by
      refine ⟨hS, ⟨?_, ?_, fun i hi => ?_, ech⟩, ?_, FitC.no k4 k5, ?_, fun r hr => ?_⟩
      · dsimp only; rw [eo _ _ _ (by omega) (by omega) (by omega), chQ_s (by omega)]; exact a1
      · dsimp only; rw [e4, chQ_2]
      · dsimp only; rw [eo _ _ _ (by omega) (by omega) (by omega), chQ_f (by omega)]; exact a5 i hi
      · obtain ⟨p1, p2, p3, p4, p5, p6⟩ := hP
        have el : I2 6 0 2 ≤ M.1 6 0 2 ∧ I2 6 0 2 ≤ (inP Q day : Int) ∧ -1 ≤ I2 6 0 2 := by
          rw [k3]
          split <;> omega
        refine ⟨⟨?_, ?_, ?_⟩, p2, p3, p4, fun n hn' => ?_, fun n hn' => ?_⟩
        · dsimp only; omega
        · dsimp only; rw [chQ_n hwc]; omega
        · dsimp only; omega
        · dsimp only; rw [eo _ _ _ (by omega) (by omega) (by omega)]; exact p5 n hn'
        · dsimp only at hn' ⊢
          obtain ⟨w1, w2, w3, w4⟩ := p6 n (by omega)
          obtain ⟨m1, m2, m3⟩ := chQ_mk (day := day) (kind := kind) (who := who) (what := what) (oth := oth) (is := is) hwc n (by omega)
          refine ⟨fun m hm => ?_, fun t p ht hp' => ?_, fun p hp' => ?_, fun a ha => ?_⟩
          · rw [eo _ _ _ (by omega) (by omega) (by omega), m1]; exact w1 m hm
          · rw [eo _ _ _ (by omega) (by omega) (by omega), m2]; exact w2 t p ht hp'
          · rw [chQ_p] at hp'
            rw [eo _ _ _ (by omega) (by omega) (by omega), m3]; exact w3 p hp'
          · rw [eo _ _ _ (by omega) (by omega) (by omega), m3, chQ_p]; exact w4 a ha
      · obtain ⟨h1, ⟨h2, h2'⟩, h3⟩ := hR.1.1.2.2.2.2.1
        refine CovsC_q chQ_v ⟨?_, ⟨h2, h2'⟩, fun c hc => ?_⟩
        · dsimp only; rw [eo _ _ _ (by omega) (by omega) (by omega)]; exact h1
        · obtain ⟨b1, ⟨b2, b2'⟩, b3, b4, b5⟩ := h3 c hc
          refine ⟨b1, ⟨b2, fun k hk => ?_⟩, ?_, ?_, ?_⟩
          · dsimp only; rw [eo _ _ _ (by omega) (by omega) (by omega)]; exact b2' k hk
          · dsimp only; rw [eo _ _ _ (by omega) (by omega) (by omega)]; exact b3
          · dsimp only; rw [eo _ _ _ (by omega) (by omega) (by omega)]; exact b4
          · dsimp only; rw [eo _ _ _ (by omega) (by omega) (by omega)]; exact b5
      · dsimp only; rw [eo _ _ _ (by omega) (by omega) (by omega), chQ_f (by omega)]; exact hR.1.1.2.2.2.2.2 r hr
    have hWy : WaysC (chQ Q day kind who what oth is) I2 := WaysC_q chQ_r ⟨fun x y hx hy => by rw [eo _ _ _ (by omega) (by omega) (by omega)]; exact hR.1.2.1.1 x y hx hy, fun x y hx hy => by rw [eo _ _ _ (by omega) (by omega) (by omega)]; exact hR.1.2.1.2 x y hx hy⟩
    have hRd : RoadsC (chQ Q day kind who what oth is) I2 0 := RoadsC_q chQ_r fun x y hx hy => by rw [eo _ _ _ (by omega) (by omega) (by omega)]; exact hR.1.2.2 x y hx hy
    have hSt : StI (chQ Q day kind who what oth is) (I2, M.2.1, M.2.2) 0 := by
      refine ⟨⟨hA.2.1.1, ?_, hA.2.1.2.1, ?_⟩, hA.2.1.2.2.1, hRd, ech, fun i hi => hA.2.2.2.2.2 i hi, fun i hi => ?_, fun i hi => ?_, ?_⟩
      · dsimp only; rw [eo _ _ _ (by omega) (by omega) (by omega), chQ_s (by omega)]; exact a2
      · dsimp only; rw [eo _ _ _ (by omega) (by omega) (by omega), chQ_s (by omega)]; exact a4
      · dsimp only; rw [eo _ _ _ (by omega) (by omega) (by omega), chQ_f (by omega)]; exact a9 i hi
      · dsimp only; rw [eo _ _ _ (by omega) (by omega) (by omega), chQ_f (by omega)]; exact a10 i hi
      · exact (a11.fr (M' := (I2, M.2.1, M.2.2)) (fun i hi => by dsimp only; exact eo 4 0 i (by omega) (by omega) (by omega)) (fun _ => rfl) (fun i _ => ⟨fun x => by dsimp only; exact eo 5 _ _ (by omega) (by omega) (by omega), rfl⟩)).q (chQ_s (by omega)) (chQ_s (by omega)) (fun f h1 h2 => chQ_f (by omega))
    refine ⟨(I2, M.2.1, M.2.2), xX11_change_0 hS ?_, hR.one hw ⟨hA, hWy, hRd⟩ hSt (hR.2.2.1.fr (by rw [chQ_f (by omega)]) (chQ_f (by omega)) (by dsimp only; exact eo 2 0 12 (by omega) (by omega) (by omega)) (fun i => by dsimp only; exact eo 16 0 i (by omega) (by omega) (by omega))) chQ_M (fun f k i hh => eo f k i (by omega) (by omega) (by omega)) (fun _ _ _ _ => rfl) (fun _ _ => rfl), ⟨fun f k i hh => eo f k i (by omega) (by omega) (by omega), ⟨rfl, rfl⟩, Nat.le_add_right _ _, Nat.le_add_right _ _⟩⟩
    rw [e1, e2]
    have fine : ¬ (if kind = 0 then (if 10 ≤ what then 0 else 1 : Int) else (if kind = 1 then (if 6 ≤ what then 0 else (if (0 ≤ who ∧ who < (nPp Q : Int)) ∧ (0 ≤ oth ∧ oth < (nPp Q : Int)) ∧ ¬ who = oth then 1 else 0 : Int) : Int) else (if kind = 2 then (if 8 ≤ what then 0 else 1 : Int) else 0 : Int) : Int) : Int) = 0 := by
      by_cases c0 : kind = 0
      · have := g6 c0; rw [if_pos c0, if_neg (by omega)]; omega
      · rw [if_neg c0]
        by_cases c1 : kind = 1
        · have := g7 c1; rw [if_pos c1, if_neg (by omega), if_pos ⟨g4, this.2.1, fun e => this.2.2 e.symm⟩]; omega
        · have := g8 (by omega); rw [if_neg c1, if_pos (by omega), if_neg (by omega)]; omega
    refine ⟨fun c => by omega, fun _ => ⟨fun c => absurd g2 c, fun _ => ⟨fun c => absurd g4 c, fun _ => ⟨fun _ => ⟨fun _ => ⟨_, _, j1, _, k1, hS, ?_, rfl⟩, fun c => absurd c fine⟩, fun c => absurd g5 c⟩⟩⟩⟩
    dsimp only
    rw [e4]
  · rw [if_neg g, if_neg g]
    refine ⟨M, xX11_change_0 hS ?_, hR, frK.rf⟩
    rw [e1, e2]
    refine ⟨fun _ => ⟨rfl, rfl⟩, fun k2 => ⟨fun _ => ⟨rfl, rfl⟩, fun k3 => ⟨fun _ => ⟨rfl, rfl⟩, fun k4 => ⟨fun k5 => ⟨fun c => ?_, fun _ => ⟨rfl, rfl⟩⟩, fun _ => ⟨rfl, rfl⟩⟩⟩⟩⟩
    exfalso
    by_cases c0 : kind = 0
    · rw [if_pos c0] at c
      by_cases c3 : 10 ≤ what
      · rw [if_pos c3] at c; exact c rfl
      · exact g ⟨by omega, k3, by omega, k4, k5, fun _ => by omega, fun c => by omega, fun c => by omega⟩
    · rw [if_neg c0] at c
      by_cases c1 : kind = 1
      · rw [if_pos c1] at c
        by_cases c3 : 6 ≤ what
        · rw [if_pos c3] at c; exact c rfl
        · rw [if_neg c3] at c
          by_cases c4 : (0 ≤ who ∧ who < (nPp Q : Int)) ∧ (0 ≤ oth ∧ oth < (nPp Q : Int)) ∧ ¬ who = oth
          · exact g ⟨by omega, k3, by omega, k4, k5, fun c => by omega, fun _ => ⟨by omega, c4.2.1, fun e => c4.2.2 e.symm⟩, fun c => by omega⟩
          · rw [if_neg c4] at c; exact c rfl
      · rw [if_neg c1] at c
        by_cases c2 : kind = 2
        · rw [if_pos c2] at c
          by_cases c3 : 8 ≤ what
          · rw [if_pos c3] at c; exact c rfl
          · exact g ⟨by omega, k3, by omega, k4, k5, fun c => by omega, fun c => by omega, fun _ => by omega⟩
        · rw [if_neg c2] at c; exact c rfl
end CG
