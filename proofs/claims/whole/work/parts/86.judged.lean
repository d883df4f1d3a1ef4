/-! rings on the class; judged -/
set_option maxRecDepth 4000 in
theorem xX12_judged_0 {l : Launch} {G : Gt} {d : Nat} {M M' : Mem} {r : Option Vl} {x1 : Int} {x2 : Int} {x3 : Int} {x4 : Int} (hS : Sh M.2.1) (h : 
    (InR ((M.1 3 0 33) - 1)) ∧ ((¬ (0 ≤ x1 ∧ x1 < (M.1 3 0 33)) → r = some (vI (-1)) ∧ M' = M) ∧ (0 ≤ x1 ∧ x1 < (M.1 3 0 33) → (InR ((M.1 48 0 0) - 1)) ∧ ((¬ (0 ≤ x2 ∧ x2 < (M.1 48 0 0)) → r = some (vI (-1)) ∧ M' = M) ∧ (0 ≤ x2 ∧ x2 < (M.1 48 0 0) → (¬ (0 ≤ x3 ∧ x3 < 8) → r = some (vI (-1)) ∧ M' = M) ∧ (0 ≤ x3 ∧ x3 < 8 → (0 ≤ x4 ∧ x4 ≤ 999 → ∃ (M_3 : Mem), Cl l G (d + 1) mX12_lays [vR (some (3, 0)), vI 0, vI x4] M none M_3 ∧ ((0 ≤ x3 ∧ x3 < 32)) ∧ Ex l G (d + 2) mX12_judged 55 [some (vR (some (3, 0))), some (vI x1), some (vI x2), some (vI x3), some (vI x4), some (vI x3), some (vI (aShl 1 x3)), some (vI x4), some (vI 0), none, none] [] M_3 r M') ∧ (¬ (0 ≤ x4 ∧ x4 ≤ 999) → r = some (vI (-1)) ∧ M' = M))))))) : Cl l G (d + 2) mX12_judged [vR (some (3, 0)), vI x1, vI x2, vI x3, vI x4] M r M' := by
  show Ex l G (d + 2) mX12_judged 0 [some (vR (some (3, 0))), some (vI x1), some (vI x2), some (vI x3), some (vI x4), none, none, none, none, none, none] [] M r M'
  obtain ⟨o_1, h⟩ := h
  refine r_aload_n 1 dX12_judged_0 rfl rfl ?_
  refine r_iload_n 2 dX12_judged_1 rfl rfl ?_
  refine v_1 (ci := 12) (C := (RX12, TX12, 68)) [vI x1] [] 5 dX12_judged_2 rfl rfl rfl rfl rfl mo_X12_isCover ml_12_331 rfl rfl (KX12_isCover o_1) ?_
  refine r_if_eq 8 31 dX12_judged_5 rfl rfl (fun c => ?_) (fun c => ?_)
  · have h := h.1 (b2_0.mp c)
    refine r_iconst 32 dX12_judged_31 rfl (InR_of rfl) ?_
    exact r_iret dX12_judged_32 rfl (.inl rfl) h.1 h.2
  · have h := h.2 (b2_1.mp c)
    obtain ⟨o_2, h⟩ := h
    refine r_aload_n 9 dX12_judged_8 rfl rfl ?_
    refine r_iload_n 10 dX12_judged_9 rfl rfl ?_
    refine v_1 (ci := 12) (C := (RX12, TX12, 68)) [vI x2] [] 13 dX12_judged_10 rfl rfl rfl rfl rfl mo_X12_isPerson ml_12_175 rfl rfl (KX12_isPerson hS o_2) ?_
    refine r_if_eq 16 31 dX12_judged_13 rfl rfl (fun c => ?_) (fun c => ?_)
    · have h := h.1 (b2_0.mp c)
      refine r_iconst 32 dX12_judged_31 rfl (InR_of rfl) ?_
      exact r_iret dX12_judged_32 rfl (.inl rfl) h.1 h.2
    · have h := h.2 (b2_1.mp c)
      refine r_iload_n 17 dX12_judged_16 rfl rfl ?_
      refine c_1 [vI x3] [] 20 dX12_judged_17 rfl rfl mo_X12_isPlace ml_12_160 rfl rfl (KX12_isPlace) ?_
      refine r_if_eq 23 31 dX12_judged_20 rfl rfl (fun c => ?_) (fun c => ?_)
      · have h := h.1 (b2_0.mp c)
        refine r_iconst 32 dX12_judged_31 rfl (InR_of rfl) ?_
        exact r_iret dX12_judged_32 rfl (.inl rfl) h.1 h.2
      · have h := h.2 (b2_1.mp c)
        refine r_iload 25 dX12_judged_23 rfl rfl ?_
        refine c_1 [vI x4] [] 28 dX12_judged_25 rfl rfl mo_X12_isDay ml_12_170 rfl rfl (KX12_isDay) ?_
        refine r_if_ne 31 33 dX12_judged_28 rfl rfl (fun c => ?_) (fun c => ?_)
        · have h := h.1 (b2_1.mp c)
          refine r_aload_n 34 dX12_judged_33 rfl rfl ?_
          refine r_iconst 35 dX12_judged_34 rfl (InR_of rfl) ?_
          refine r_iload 37 dX12_judged_35 rfl rfl ?_
          obtain ⟨M_3, hc_4, h⟩ := h
          refine v_0 (ci := 12) (C := (RX12, TX12, 68)) [vI 0, vI x4] [] 40 dX12_judged_37 rfl rfl rfl rfl rfl mo_X12_lays ml_12_198 rfl rfl hc_4 ?_
          obtain ⟨o_5, h⟩ := h
          refine r_iload_n 41 dX12_judged_40 rfl rfl ?_
          refine r_istore (ls' := [some (vR (some (3, 0))), some (vI x1), some (vI x2), some (vI x3), some (vI x4), some (vI x3), none, none, none, none, none]) 43 dX12_judged_41 rfl rfl rfl rfl ?_
          refine r_iconst 44 dX12_judged_43 rfl (InR_of rfl) ?_
          refine r_iload_n 45 dX12_judged_44 rfl rfl ?_
          refine r_ishl 46 dX12_judged_45 rfl o_5 ?_
          refine r_istore (ls' := [some (vR (some (3, 0))), some (vI x1), some (vI x2), some (vI x3), some (vI x4), some (vI x3), some (vI (aShl 1 x3)), none, none, none, none]) 48 dX12_judged_46 rfl rfl rfl rfl ?_
          refine r_iload 50 dX12_judged_48 rfl rfl ?_
          refine r_istore (ls' := [some (vR (some (3, 0))), some (vI x1), some (vI x2), some (vI x3), some (vI x4), some (vI x3), some (vI (aShl 1 x3)), some (vI x4), none, none, none]) 52 dX12_judged_50 rfl rfl rfl rfl ?_
          refine r_iconst 53 dX12_judged_52 rfl (InR_of rfl) ?_
          refine r_istore (ls' := [some (vR (some (3, 0))), some (vI x1), some (vI x2), some (vI x3), some (vI x4), some (vI x3), some (vI (aShl 1 x3)), some (vI x4), some (vI 0), none, none]) 55 dX12_judged_53 rfl rfl rfl rfl ?_
          exact h
        · have h := h.2 (b2_0.mp (Decidable.not_not.mp c))
          refine r_iconst 32 dX12_judged_31 rfl (InR_of rfl) ?_
          exact r_iret dX12_judged_32 rfl (.inl rfl) h.1 h.2
set_option maxRecDepth 4000 in
theorem xX12_judged_55 {l : Launch} {G : Gt} {d : Nat} {M M' : Mem} {r : Option Vl} {x1 : Int} {x2 : Int} {x3 : Int} {x4 : Int} {x5 : Int} {x6 : Int} {x7 : Int} {x8 : Int} (hS : Sh M.2.1) (h : 
    ((M.1 48 0 4) ≤ x8 → r = some (vI (-2)) ∧ M' = M) ∧ (¬ ((M.1 48 0 4) ≤ x8) → (999 < x7 → r = some (vI x8) ∧ M' = M) ∧ (¬ (999 < x7) → ∃ (M_1 : Mem), Cl l G (d + 1) mX12_lays [vR (some (3, 0)), vI 1, vI x7] M none M_1 ∧ (∃ (r_5 : Int) (M_3 : Mem), Cl l G (d + 1) mX12_asks [vR (some (3, 0)), vI x1, vI x2, vI x5] M_1 (some (vI r_5)) M_3 ∧ Sh M_3.2.1 ∧ ((¬ (r_5 = 1) → (¬ (r_5 = 2) → r = some (vI x8) ∧ M' = M_3) ∧ (r_5 = 2 → ∃ (r_8 : Int) (M_6 : Mem), Cl l G (d + 1) mX12_unseen [vR (some (3, 0)), vI x5, vI x6] M_3 (some (vI r_8)) M_6 ∧ Sh M_6.2.1 ∧ ((r_8 = (-1) → r = some (vI x8) ∧ M' = M_6) ∧ (¬ (r_8 = (-1)) → ((0 ≤ x8 ∧ x8 < 20)) ∧ ((¬ (r_8 = (M_6.1 52 0 x8.toNat)) → r = some (vI x8) ∧ M' = M_6) ∧ (r_8 = (M_6.1 52 0 x8.toNat) → ∃ (r_12 : Int) (M_10 : Mem), Cl l G (d + 1) mX12_roadOf [vR (some (3, 0)), vI x5, vI r_8] M_6 (some (vI r_12)) M_10 ∧ Sh M_10.2.1 ∧ (((0 ≤ r_12 ∧ r_12 < 16) ∧ InR (x7 + (M_10.1 55 0 r_12.toNat))) ∧ (((x7 + (M_10.1 55 0 r_12.toNat)) ≤ 999 → ∃ (r_17 : Int) (M_15 : Mem), Cl l G (d + 1) mX12_roadOf [vR (some (3, 0)), vI x5, vI r_8] M_10 (some (vI r_17)) M_15 ∧ ((0 ≤ r_17 ∧ r_17 < 16) ∧ InR (x7 + (M_15.1 55 0 r_17.toNat)) ∧ (0 ≤ r_8 ∧ r_8 < 32) ∧ InR (x8 + 1)) ∧ Ex l G (d + 2) mX12_judged 55 [some (vR (some (3, 0))), some (vI x1), some (vI x2), some (vI x3), some (vI x4), some (vI r_8), some (vI (aOr x6 (aShl 1 r_8))), some (vI (x7 + (M_15.1 55 0 r_17.toNat))), some (vI (x8 + 1)), none, none] [] M_15 r M') ∧ (¬ ((x7 + (M_10.1 55 0 r_12.toNat)) ≤ 999) → r = some (vI x8) ∧ M' = M_10))))))))) ∧ (r_5 = 1 → ((M_3.1 3 0 49) = (-1) → r = some (vI x8) ∧ M' = M_3) ∧ (¬ ((M_3.1 3 0 49) = (-1)) → ((0 ≤ x8 ∧ x8 < 20)) ∧ ((¬ ((M_3.1 3 0 49) = (M_3.1 52 0 x8.toNat)) → r = some (vI x8) ∧ M' = M_3) ∧ ((M_3.1 3 0 49) = (M_3.1 52 0 x8.toNat) → ∃ (r_25 : Int) (M_23 : Mem), Cl l G (d + 1) mX12_roadOf [vR (some (3, 0)), vI x5, vI (M_3.1 3 0 49)] M_3 (some (vI r_25)) M_23 ∧ Sh M_23.2.1 ∧ (((0 ≤ r_25 ∧ r_25 < 16) ∧ InR (x7 + (M_23.1 55 0 r_25.toNat))) ∧ (((x7 + (M_23.1 55 0 r_25.toNat)) ≤ 999 → ∃ (r_30 : Int) (M_28 : Mem), Cl l G (d + 1) mX12_roadOf [vR (some (3, 0)), vI x5, vI (M_3.1 3 0 49)] M_23 (some (vI r_30)) M_28 ∧ ((0 ≤ r_30 ∧ r_30 < 16) ∧ InR (x7 + (M_28.1 55 0 r_30.toNat)) ∧ (0 ≤ (M_3.1 3 0 49) ∧ (M_3.1 3 0 49) < 32) ∧ InR (x8 + 1)) ∧ Ex l G (d + 2) mX12_judged 55 [some (vR (some (3, 0))), some (vI x1), some (vI x2), some (vI x3), some (vI x4), some (vI (M_3.1 3 0 49)), some (vI (aOr x6 (aShl 1 (M_3.1 3 0 49)))), some (vI (x7 + (M_28.1 55 0 r_30.toNat))), some (vI (x8 + 1)), none, none] [] M_28 r M') ∧ (¬ ((x7 + (M_23.1 55 0 r_25.toNat)) ≤ 999) → r = some (vI x8) ∧ M' = M_23)))))))))))) : Ex l G (d + 2) mX12_judged 55 [some (vR (some (3, 0))), some (vI x1), some (vI x2), some (vI x3), some (vI x4), some (vI x5), some (vI x6), some (vI x7), some (vI x8), none, none] [] M r M' := by
  refine r_iload 57 dX12_judged_55 rfl rfl ?_
  refine r_aload_n 58 dX12_judged_57 rfl rfl ?_
  refine g_R 61 dX12_judged_58 rfl rfl rfl fr_12_7 (sh_12_1 hS) ?_
  refine r_iconst 62 dX12_judged_61 rfl (InR_of rfl) ?_
  refine a_I 6 63 dX12_judged_62 rfl rfl rfl rfl ⟨by decide, by decide⟩ rfl ?_
  refine r_icmp_ge 66 207 dX12_judged_63 rfl rfl (fun c => ?_) (fun c => ?_)
  · have h := h.1 (c)
    refine r_bipush 209 dX12_judged_207 rfl rfl ?_
    exact r_iret dX12_judged_209 rfl (.inl rfl) h.1 h.2
  · have h := h.2 (c)
    refine r_iconst 67 dX12_judged_66 rfl (InR_of rfl) ?_
    refine r_istore (ls' := [some (vR (some (3, 0))), some (vI x1), some (vI x2), some (vI x3), some (vI x4), some (vI x5), some (vI x6), some (vI x7), some (vI x8), some (vI (-1)), none]) 69 dX12_judged_67 rfl rfl rfl rfl ?_
    refine r_iload 71 dX12_judged_69 rfl rfl ?_
    refine r_sipush 74 dX12_judged_71 rfl rfl ?_
    refine r_icmp_gt 77 127 dX12_judged_74 rfl rfl (fun c => ?_) (fun c => ?_)
    · have h := h.1 (c)
      refine r_iload 129 dX12_judged_127 rfl rfl ?_
      refine r_iconst 130 dX12_judged_129 rfl (InR_of rfl) ?_
      refine r_icmp_eq 133 167 dX12_judged_130 rfl rfl (fun _ => ?_) (fun c => absurd (by decide) c)
      refine r_iload 169 dX12_judged_167 rfl rfl ?_
      exact r_iret dX12_judged_169 rfl (.inl rfl) h.1 h.2
    · have h := h.2 (c)
      refine r_aload_n 78 dX12_judged_77 rfl rfl ?_
      refine r_iconst 79 dX12_judged_78 rfl (InR_of rfl) ?_
      refine r_iload 81 dX12_judged_79 rfl rfl ?_
      obtain ⟨M_1, hc_2, h⟩ := h
      refine v_0 (ci := 12) (C := (RX12, TX12, 68)) [vI 1, vI x7] [] 84 dX12_judged_81 rfl rfl rfl rfl rfl mo_X12_lays ml_12_198 rfl rfl hc_2 ?_
      refine r_aload_n 85 dX12_judged_84 rfl rfl ?_
      refine r_iload_n 86 dX12_judged_85 rfl rfl ?_
      refine r_iload_n 87 dX12_judged_86 rfl rfl ?_
      refine r_iload 89 dX12_judged_87 rfl rfl ?_
      obtain ⟨r_5, M_3, hc_4, hS, h⟩ := h
      refine v_1 (ci := 12) (C := (RX12, TX12, 68)) [vI x1, vI x2, vI x5] [] 92 dX12_judged_89 rfl rfl rfl rfl rfl mo_X12_asks ml_12_352 rfl rfl hc_4 ?_
      refine r_istore (ls' := [some (vR (some (3, 0))), some (vI x1), some (vI x2), some (vI x3), some (vI x4), some (vI x5), some (vI x6), some (vI x7), some (vI x8), some (vI (-1)), some (vI r_5)]) 94 dX12_judged_92 rfl rfl rfl rfl ?_
      refine r_iload 96 dX12_judged_94 rfl rfl ?_
      refine r_iconst 97 dX12_judged_96 rfl (InR_of rfl) ?_
      refine r_icmp_ne 100 107 dX12_judged_97 rfl rfl (fun c => ?_) (fun c => ?_)
      · have h := h.1 (c)
        refine r_iload 109 dX12_judged_107 rfl rfl ?_
        refine r_iconst 110 dX12_judged_109 rfl (InR_of rfl) ?_
        refine r_icmp_ne 113 124 dX12_judged_110 rfl rfl (fun c => ?_) (fun c => ?_)
        · have h := h.1 (c)
          refine r_iconst 125 dX12_judged_124 rfl (InR_of rfl) ?_
          refine r_istore (ls' := [some (vR (some (3, 0))), some (vI x1), some (vI x2), some (vI x3), some (vI x4), some (vI x5), some (vI x6), some (vI x7), some (vI x8), some (vI (-1)), some (vI r_5)]) 127 dX12_judged_125 rfl rfl rfl rfl ?_
          refine r_iload 129 dX12_judged_127 rfl rfl ?_
          refine r_iconst 130 dX12_judged_129 rfl (InR_of rfl) ?_
          refine r_icmp_eq 133 167 dX12_judged_130 rfl rfl (fun _ => ?_) (fun c => absurd (by decide) c)
          refine r_iload 169 dX12_judged_167 rfl rfl ?_
          exact r_iret dX12_judged_169 rfl (.inl rfl) h.1 h.2
        · have h := h.2 (Decidable.not_not.mp c)
          refine r_aload_n 114 dX12_judged_113 rfl rfl ?_
          refine r_iload 116 dX12_judged_114 rfl rfl ?_
          refine r_iload 118 dX12_judged_116 rfl rfl ?_
          obtain ⟨r_8, M_6, hc_7, hS, h⟩ := h
          refine v_1 (ci := 12) (C := (RX12, TX12, 68)) [vI x5, vI x6] [] 121 dX12_judged_118 rfl rfl rfl rfl rfl mo_X12_unseen ml_12_355 rfl rfl hc_7 ?_
          refine r_goto 125 dX12_judged_121 rfl ?_
          refine r_istore (ls' := [some (vR (some (3, 0))), some (vI x1), some (vI x2), some (vI x3), some (vI x4), some (vI x5), some (vI x6), some (vI x7), some (vI x8), some (vI r_8), some (vI r_5)]) 127 dX12_judged_125 rfl rfl rfl rfl ?_
          refine r_iload 129 dX12_judged_127 rfl rfl ?_
          refine r_iconst 130 dX12_judged_129 rfl (InR_of rfl) ?_
          refine r_icmp_eq 133 167 dX12_judged_130 rfl rfl (fun c => ?_) (fun c => ?_)
          · have h := h.1 (c)
            refine r_iload 169 dX12_judged_167 rfl rfl ?_
            exact r_iret dX12_judged_169 rfl (.inl rfl) h.1 h.2
          · have h := h.2 (c)
            obtain ⟨o_9, h⟩ := h
            refine r_iload 135 dX12_judged_133 rfl rfl ?_
            refine r_aload_n 136 dX12_judged_135 rfl rfl ?_
            refine g_R 139 dX12_judged_136 rfl rfl rfl fr_12_22 (sh_12_5 hS) ?_
            refine r_iload 141 dX12_judged_139 rfl rfl ?_
            refine a_I 20 142 dX12_judged_141 rfl rfl rfl rfl o_9 rfl ?_
            refine r_icmp_ne 145 167 dX12_judged_142 rfl rfl (fun c => ?_) (fun c => ?_)
            · have h := h.1 (c)
              refine r_iload 169 dX12_judged_167 rfl rfl ?_
              exact r_iret dX12_judged_169 rfl (.inl rfl) h.1 h.2
            · have h := h.2 (Decidable.not_not.mp c)
              refine r_iload 147 dX12_judged_145 rfl rfl ?_
              refine r_aload_n 148 dX12_judged_147 rfl rfl ?_
              refine g_R 151 dX12_judged_148 rfl rfl rfl fr_12_31 (sh_12_8 hS) ?_
              refine r_aload_n 152 dX12_judged_151 rfl rfl ?_
              refine r_iload 154 dX12_judged_152 rfl rfl ?_
              refine r_iload 156 dX12_judged_154 rfl rfl ?_
              obtain ⟨r_12, M_10, hc_11, hS, h⟩ := h
              refine v_1 (ci := 12) (C := (RX12, TX12, 68)) [vI x5, vI r_8] [vR (some (55, 0)), vI x7] 159 dX12_judged_156 rfl rfl rfl rfl rfl mo_X12_roadOf ml_12_166 rfl rfl hc_11 ?_
              obtain ⟨⟨o_13, o_14⟩, h⟩ := h
              refine a_I 16 160 dX12_judged_159 rfl rfl rfl rfl o_13 rfl ?_
              refine r_iadd 161 dX12_judged_160 rfl o_14 ?_
              refine r_sipush 164 dX12_judged_161 rfl rfl ?_
              refine r_icmp_le 167 170 dX12_judged_164 rfl rfl (fun c => ?_) (fun c => ?_)
              · have h := h.1 (c)
                refine r_iload 172 dX12_judged_170 rfl rfl ?_
                refine r_aload_n 173 dX12_judged_172 rfl rfl ?_
                refine g_R 176 dX12_judged_173 rfl rfl rfl fr_12_31 (sh_12_8 hS) ?_
                refine r_aload_n 177 dX12_judged_176 rfl rfl ?_
                refine r_iload 179 dX12_judged_177 rfl rfl ?_
                refine r_iload 181 dX12_judged_179 rfl rfl ?_
                obtain ⟨r_17, M_15, hc_16, h⟩ := h
                refine v_1 (ci := 12) (C := (RX12, TX12, 68)) [vI x5, vI r_8] [vR (some (55, 0)), vI x7] 184 dX12_judged_181 rfl rfl rfl rfl rfl mo_X12_roadOf ml_12_166 rfl rfl hc_16 ?_
                obtain ⟨⟨o_18, o_19, o_20, o_21⟩, h⟩ := h
                refine a_I 16 185 dX12_judged_184 rfl rfl rfl rfl o_18 rfl ?_
                refine r_iadd 186 dX12_judged_185 rfl o_19 ?_
                refine r_istore (ls' := [some (vR (some (3, 0))), some (vI x1), some (vI x2), some (vI x3), some (vI x4), some (vI x5), some (vI x6), some (vI (x7 + (M_15.1 55 0 r_17.toNat))), some (vI x8), some (vI r_8), some (vI r_5)]) 188 dX12_judged_186 rfl rfl rfl rfl ?_
                refine r_iload 190 dX12_judged_188 rfl rfl ?_
                refine r_istore (ls' := [some (vR (some (3, 0))), some (vI x1), some (vI x2), some (vI x3), some (vI x4), some (vI r_8), some (vI x6), some (vI (x7 + (M_15.1 55 0 r_17.toNat))), some (vI x8), some (vI r_8), some (vI r_5)]) 192 dX12_judged_190 rfl rfl rfl rfl ?_
                refine r_iload 194 dX12_judged_192 rfl rfl ?_
                refine r_iconst 195 dX12_judged_194 rfl (InR_of rfl) ?_
                refine r_iload 197 dX12_judged_195 rfl rfl ?_
                refine r_ishl 198 dX12_judged_197 rfl o_20 ?_
                refine r_ior 199 dX12_judged_198 rfl ?_
                refine r_istore (ls' := [some (vR (some (3, 0))), some (vI x1), some (vI x2), some (vI x3), some (vI x4), some (vI r_8), some (vI (aOr x6 (aShl 1 r_8))), some (vI (x7 + (M_15.1 55 0 r_17.toNat))), some (vI x8), some (vI r_8), some (vI r_5)]) 201 dX12_judged_199 rfl rfl rfl rfl ?_
                refine r_iinc (ls' := [some (vR (some (3, 0))), some (vI x1), some (vI x2), some (vI x3), some (vI x4), some (vI r_8), some (vI (aOr x6 (aShl 1 r_8))), some (vI (x7 + (M_15.1 55 0 r_17.toNat))), some (vI (x8 + 1)), some (vI r_8), some (vI r_5)]) 204 dX12_judged_201 rfl rfl rfl rfl o_21 rfl ?_
                refine r_goto 55 dX12_judged_204 rfl ?_
                exact Ex.weak h ⟨rfl, rfl, rfl, rfl, rfl, rfl, rfl, rfl, rfl, trivial⟩
              · have h := h.2 (c)
                refine r_iload 169 dX12_judged_167 rfl rfl ?_
                exact r_iret dX12_judged_169 rfl (.inl rfl) h.1 h.2
      · have h := h.2 (Decidable.not_not.mp c)
        refine r_aload_n 101 dX12_judged_100 rfl rfl ?_
        refine g_I 104 dX12_judged_101 rfl rfl rfl fi_12_340 rfl ?_
        refine r_goto 125 dX12_judged_104 rfl ?_
        refine r_istore (ls' := [some (vR (some (3, 0))), some (vI x1), some (vI x2), some (vI x3), some (vI x4), some (vI x5), some (vI x6), some (vI x7), some (vI x8), some (vI (M_3.1 3 0 49)), some (vI r_5)]) 127 dX12_judged_125 rfl rfl rfl rfl ?_
        refine r_iload 129 dX12_judged_127 rfl rfl ?_
        refine r_iconst 130 dX12_judged_129 rfl (InR_of rfl) ?_
        refine r_icmp_eq 133 167 dX12_judged_130 rfl rfl (fun c => ?_) (fun c => ?_)
        · have h := h.1 (c)
          refine r_iload 169 dX12_judged_167 rfl rfl ?_
          exact r_iret dX12_judged_169 rfl (.inl rfl) h.1 h.2
        · have h := h.2 (c)
          obtain ⟨o_22, h⟩ := h
          refine r_iload 135 dX12_judged_133 rfl rfl ?_
          refine r_aload_n 136 dX12_judged_135 rfl rfl ?_
          refine g_R 139 dX12_judged_136 rfl rfl rfl fr_12_22 (sh_12_5 hS) ?_
          refine r_iload 141 dX12_judged_139 rfl rfl ?_
          refine a_I 20 142 dX12_judged_141 rfl rfl rfl rfl o_22 rfl ?_
          refine r_icmp_ne 145 167 dX12_judged_142 rfl rfl (fun c => ?_) (fun c => ?_)
          · have h := h.1 (c)
            refine r_iload 169 dX12_judged_167 rfl rfl ?_
            exact r_iret dX12_judged_169 rfl (.inl rfl) h.1 h.2
          · have h := h.2 (Decidable.not_not.mp c)
            refine r_iload 147 dX12_judged_145 rfl rfl ?_
            refine r_aload_n 148 dX12_judged_147 rfl rfl ?_
            refine g_R 151 dX12_judged_148 rfl rfl rfl fr_12_31 (sh_12_8 hS) ?_
            refine r_aload_n 152 dX12_judged_151 rfl rfl ?_
            refine r_iload 154 dX12_judged_152 rfl rfl ?_
            refine r_iload 156 dX12_judged_154 rfl rfl ?_
            obtain ⟨r_25, M_23, hc_24, hS, h⟩ := h
            refine v_1 (ci := 12) (C := (RX12, TX12, 68)) [vI x5, vI (M_3.1 3 0 49)] [vR (some (55, 0)), vI x7] 159 dX12_judged_156 rfl rfl rfl rfl rfl mo_X12_roadOf ml_12_166 rfl rfl hc_24 ?_
            obtain ⟨⟨o_26, o_27⟩, h⟩ := h
            refine a_I 16 160 dX12_judged_159 rfl rfl rfl rfl o_26 rfl ?_
            refine r_iadd 161 dX12_judged_160 rfl o_27 ?_
            refine r_sipush 164 dX12_judged_161 rfl rfl ?_
            refine r_icmp_le 167 170 dX12_judged_164 rfl rfl (fun c => ?_) (fun c => ?_)
            · have h := h.1 (c)
              refine r_iload 172 dX12_judged_170 rfl rfl ?_
              refine r_aload_n 173 dX12_judged_172 rfl rfl ?_
              refine g_R 176 dX12_judged_173 rfl rfl rfl fr_12_31 (sh_12_8 hS) ?_
              refine r_aload_n 177 dX12_judged_176 rfl rfl ?_
              refine r_iload 179 dX12_judged_177 rfl rfl ?_
              refine r_iload 181 dX12_judged_179 rfl rfl ?_
              obtain ⟨r_30, M_28, hc_29, h⟩ := h
              refine v_1 (ci := 12) (C := (RX12, TX12, 68)) [vI x5, vI (M_3.1 3 0 49)] [vR (some (55, 0)), vI x7] 184 dX12_judged_181 rfl rfl rfl rfl rfl mo_X12_roadOf ml_12_166 rfl rfl hc_29 ?_
              obtain ⟨⟨o_31, o_32, o_33, o_34⟩, h⟩ := h
              refine a_I 16 185 dX12_judged_184 rfl rfl rfl rfl o_31 rfl ?_
              refine r_iadd 186 dX12_judged_185 rfl o_32 ?_
              refine r_istore (ls' := [some (vR (some (3, 0))), some (vI x1), some (vI x2), some (vI x3), some (vI x4), some (vI x5), some (vI x6), some (vI (x7 + (M_28.1 55 0 r_30.toNat))), some (vI x8), some (vI (M_3.1 3 0 49)), some (vI r_5)]) 188 dX12_judged_186 rfl rfl rfl rfl ?_
              refine r_iload 190 dX12_judged_188 rfl rfl ?_
              refine r_istore (ls' := [some (vR (some (3, 0))), some (vI x1), some (vI x2), some (vI x3), some (vI x4), some (vI (M_3.1 3 0 49)), some (vI x6), some (vI (x7 + (M_28.1 55 0 r_30.toNat))), some (vI x8), some (vI (M_3.1 3 0 49)), some (vI r_5)]) 192 dX12_judged_190 rfl rfl rfl rfl ?_
              refine r_iload 194 dX12_judged_192 rfl rfl ?_
              refine r_iconst 195 dX12_judged_194 rfl (InR_of rfl) ?_
              refine r_iload 197 dX12_judged_195 rfl rfl ?_
              refine r_ishl 198 dX12_judged_197 rfl o_33 ?_
              refine r_ior 199 dX12_judged_198 rfl ?_
              refine r_istore (ls' := [some (vR (some (3, 0))), some (vI x1), some (vI x2), some (vI x3), some (vI x4), some (vI (M_3.1 3 0 49)), some (vI (aOr x6 (aShl 1 (M_3.1 3 0 49)))), some (vI (x7 + (M_28.1 55 0 r_30.toNat))), some (vI x8), some (vI (M_3.1 3 0 49)), some (vI r_5)]) 201 dX12_judged_199 rfl rfl rfl rfl ?_
              refine r_iinc (ls' := [some (vR (some (3, 0))), some (vI x1), some (vI x2), some (vI x3), some (vI x4), some (vI (M_3.1 3 0 49)), some (vI (aOr x6 (aShl 1 (M_3.1 3 0 49)))), some (vI (x7 + (M_28.1 55 0 r_30.toNat))), some (vI (x8 + 1)), some (vI (M_3.1 3 0 49)), some (vI r_5)]) 204 dX12_judged_201 rfl rfl rfl rfl o_34 rfl ?_
              refine r_goto 55 dX12_judged_204 rfl ?_
              exact Ex.weak h ⟨rfl, rfl, rfl, rfl, rfl, rfl, rfl, rfl, rfl, trivial⟩
            · have h := h.2 (c)
              refine r_iload 169 dX12_judged_167 rfl rfl ?_
              exact r_iret dX12_judged_169 rfl (.inl rfl) h.1 h.2

set_option maxRecDepth 4000 in
theorem xX11_judged_0 {l : Launch} {G : Gt} {d : Nat} {M M' : Mem} {r : Option Vl} {x1 : Int} {x2 : Int} {x3 : Int} {x4 : Int} (h : 
    ∃ (o_3 : Option Nm) (M_1 : Mem), Cl l G d mX11_coverOf [vR (some (2, 0)), vI x1] M (some (vR o_3)) M_1 ∧ Sh M_1.2.1 ∧ ((o_3 = none → r = some (vI (-1)) ∧ M' = M_1) ∧ (¬ (o_3 = none) → (¬ (0 ≤ x2 ∧ x2 < (M_1.1 4 0 0)) → r = some (vI (-1)) ∧ M' = M_1) ∧ (0 ≤ x2 ∧ x2 < (M_1.1 4 0 0) → (¬ (0 ≤ x3 ∧ x3 < 8) → r = some (vI (-1)) ∧ M' = M_1) ∧ (0 ≤ x3 ∧ x3 < 8 → (0 ≤ x4 ∧ x4 ≤ 999 → ∃ k_4 : Nat, o_3 = some (13, k_4) ∧ (∃ (M_6 : Mem), Cl l G d mX5_begin [vR (some (5, 8)), vR (some (13, k_4)), vI x2, vI (-1), vI x3, vI x4] M_1 none M_6 ∧ Ex l G (d + 1) mX11_judged 54 [some (vR (some (2, 0))), some (vI x1), some (vI x2), some (vI x3), some (vI x4), some (vR (some (13, k_4))), some (vI 0), none] [] M_6 r M')) ∧ (¬ (0 ≤ x4 ∧ x4 ≤ 999) → r = some (vI (-1)) ∧ M' = M_1)))))) : Cl l G (d + 1) mX11_judged [vR (some (2, 0)), vI x1, vI x2, vI x3, vI x4] M r M' := by
  show Ex l G (d + 1) mX11_judged 0 [some (vR (some (2, 0))), some (vI x1), some (vI x2), some (vI x3), some (vI x4), none, none, none] [] M r M'
  refine r_aload_n 1 dX11_judged_0 rfl rfl ?_
  refine r_iload_n 2 dX11_judged_1 rfl rfl ?_
  obtain ⟨o_3, M_1, hc_2, hS, h⟩ := h
  refine v_1 (ci := 11) (C := (RX11, TX11, 16)) [vI x1] [] 5 dX11_judged_2 rfl rfl rfl rfl rfl mo_X11_coverOf ml_11_187 rfl rfl hc_2 ?_
  refine r_astore (ls' := [some (vR (some (2, 0))), some (vI x1), some (vI x2), some (vI x3), some (vI x4), some (vR o_3), none, none]) 7 dX11_judged_5 rfl rfl rfl rfl ?_
  refine r_aload 9 dX11_judged_7 rfl rfl ?_
  refine r_ifnull 12 35 dX11_judged_9 rfl rfl (fun c => ?_) (fun c => ?_)
  · have h := h.1 (c)
    refine r_iconst 36 dX11_judged_35 rfl (InR_of rfl) ?_
    exact r_iret dX11_judged_36 rfl (.inl rfl) h.1 h.2
  · have h := h.2 (c)
    refine r_aload_n 13 dX11_judged_12 rfl rfl ?_
    refine r_iload_n 14 dX11_judged_13 rfl rfl ?_
    refine v_1 (ci := 11) (C := (RX11, TX11, 16)) [vI x2] [] 17 dX11_judged_14 rfl rfl rfl rfl rfl mo_X11_isPerson ml_11_127 rfl rfl (KX11_isPerson hS) ?_
    refine r_if_eq 20 35 dX11_judged_17 rfl rfl (fun c => ?_) (fun c => ?_)
    · have h := h.1 (b2_0.mp c)
      refine r_iconst 36 dX11_judged_35 rfl (InR_of rfl) ?_
      exact r_iret dX11_judged_36 rfl (.inl rfl) h.1 h.2
    · have h := h.2 (b2_1.mp c)
      refine r_iload_n 21 dX11_judged_20 rfl rfl ?_
      refine c_1 [vI x3] [] 24 dX11_judged_21 rfl rfl mo_X11_isPlace ml_11_96 rfl rfl (KX11_isPlace) ?_
      refine r_if_eq 27 35 dX11_judged_24 rfl rfl (fun c => ?_) (fun c => ?_)
      · have h := h.1 (b2_0.mp c)
        refine r_iconst 36 dX11_judged_35 rfl (InR_of rfl) ?_
        exact r_iret dX11_judged_36 rfl (.inl rfl) h.1 h.2
      · have h := h.2 (b2_1.mp c)
        refine r_iload 29 dX11_judged_27 rfl rfl ?_
        refine c_1 [vI x4] [] 32 dX11_judged_29 rfl rfl mo_X11_isDay ml_11_124 rfl rfl (KX11_isDay) ?_
        refine r_if_ne 35 37 dX11_judged_32 rfl rfl (fun c => ?_) (fun c => ?_)
        · have h := h.1 (b2_1.mp c)
          refine r_aload_n 38 dX11_judged_37 rfl rfl ?_
          refine g_R 41 dX11_judged_38 rfl rfl rfl fr_11_72 (sh_11_8 hS) ?_
          refine r_aload 43 dX11_judged_41 rfl rfl ?_
          refine r_iload_n 44 dX11_judged_43 rfl rfl ?_
          refine r_iconst 45 dX11_judged_44 rfl (InR_of rfl) ?_
          refine r_iload_n 46 dX11_judged_45 rfl rfl ?_
          refine r_iload 48 dX11_judged_46 rfl rfl ?_
          obtain ⟨k_4, e_5, h⟩ := h
          refine Ex.at (st2 := [vI x4, vI x3, vI (-1), vI x2, vR (some (13, k_4)), vR (some (5, 8))]) ?_ rfl (show [vI x4, vI x3, vI (-1), vI x2, vR o_3, vR (some (5, 8))] = [vI x4, vI x3, vI (-1), vI x2, vR (some (13, k_4)), vR (some (5, 8))] by rw [e_5]) rfl
          obtain ⟨M_6, hc_7, h⟩ := h
          refine v_0 (ci := 5) (C := (RX5, TX5, 12)) [vR (some (13, k_4)), vI x2, vI (-1), vI x3, vI x4] [] 51 dX11_judged_48 rfl rfl rfl rfl rfl mo_X5_begin ml_11_234 rfl rfl hc_7 ?_
          refine r_iconst 52 dX11_judged_51 rfl (InR_of rfl) ?_
          refine r_istore (ls' := [some (vR (some (2, 0))), some (vI x1), some (vI x2), some (vI x3), some (vI x4), some (vR o_3), some (vI 0), none]) 54 dX11_judged_52 rfl rfl rfl rfl ?_
          exact (Ex.at h (show [some (vR (some (2, 0))), some (vI x1), some (vI x2), some (vI x3), some (vI x4), some (vR o_3), some (vI 0), none] = [some (vR (some (2, 0))), some (vI x1), some (vI x2), some (vI x3), some (vI x4), some (vR (some (13, k_4))), some (vI 0), none] by rw [e_5]) rfl rfl)
        · have h := h.2 (b2_0.mp (Decidable.not_not.mp c))
          refine r_iconst 36 dX11_judged_35 rfl (InR_of rfl) ?_
          exact r_iret dX11_judged_36 rfl (.inl rfl) h.1 h.2
set_option maxRecDepth 4000 in
theorem xX11_judged_54 {l : Launch} {G : Gt} {d : Nat} {M M' : Mem} {r : Option Vl} {x1 : Int} {x2 : Int} {x3 : Int} {x4 : Int} {k5 : Nat} {x6 : Int} (hS : Sh M.2.1) (h : 
    ((M.1 4 0 11) ≤ x6 → r = some (vI (-2)) ∧ M' = M) ∧ (¬ ((M.1 4 0 11) ≤ x6) → ∃ (r_3 : Int) (M_1 : Mem), Cl l G d mX0_askOn [vR (some (9, 0)), vR (some (5, 8))] M (some (vI r_3)) M_1 ∧ Sh M_1.2.1 ∧ (((0 ≤ x6 ∧ x6 < 20)) ∧ ((¬ (r_3 = (M_1.1 39 0 x6.toNat)) → r = some (vI x6) ∧ M' = M_1) ∧ (r_3 = (M_1.1 39 0 x6.toNat) → ∃ (r_7 : Int) (M_5 : Mem), Cl l G d mX0_comesInTime [vR (some (9, 0)), vR (some (5, 8)), vI r_3] M_1 (some (vI r_7)) M_5 ∧ Sh M_5.2.1 ∧ ((¬ (r_7 = 0) → ∃ (M_8 : Mem), Cl l G d mX0_goTo [vR (some (9, 0)), vR (some (5, 8)), vI r_3] M_5 none M_8 ∧ (InR (x6 + 1)) ∧ Ex l G (d + 1) mX11_judged 54 [some (vR (some (2, 0))), some (vI x1), some (vI x2), some (vI x3), some (vI x4), some (vR (some (13, k5))), some (vI (x6 + 1)), none] [] M_8 r M') ∧ (r_7 = 0 → r = some (vI x6) ∧ M' = M_5))))))) : Ex l G (d + 1) mX11_judged 54 [some (vR (some (2, 0))), some (vI x1), some (vI x2), some (vI x3), some (vI x4), some (vR (some (13, k5))), some (vI x6), none] [] M r M' := by
  refine r_iload 56 dX11_judged_54 rfl rfl ?_
  refine r_aload_n 57 dX11_judged_56 rfl rfl ?_
  refine g_R 60 dX11_judged_57 rfl rfl rfl fr_11_12 (sh_11_0 hS) ?_
  refine g_I 63 dX11_judged_60 rfl rfl rfl fi_11_279 rfl ?_
  refine r_icmp_ge 66 132 dX11_judged_63 rfl rfl (fun c => ?_) (fun c => ?_)
  · have h := h.1 (c)
    refine r_bipush 134 dX11_judged_132 rfl rfl ?_
    exact r_iret dX11_judged_134 rfl (.inl rfl) h.1 h.2
  · have h := h.2 (c)
    refine r_aload_n 67 dX11_judged_66 rfl rfl ?_
    refine g_R 70 dX11_judged_67 rfl rfl rfl fr_11_44 (sh_11_4 hS) ?_
    refine r_aload_n 71 dX11_judged_70 rfl rfl ?_
    refine g_R 74 dX11_judged_71 rfl rfl rfl fr_11_72 (sh_11_8 hS) ?_
    obtain ⟨r_3, M_1, hc_2, hS, h⟩ := h
    refine v_1 (ci := 0) (C := (RX0, TX0, 13)) [vR (some (5, 8))] [] 77 dX11_judged_74 rfl rfl rfl rfl rfl mo_X0_askOn ml_11_285 rfl rfl hc_2 ?_
    obtain ⟨o_4, h⟩ := h
    refine r_istore (ls' := [some (vR (some (2, 0))), some (vI x1), some (vI x2), some (vI x3), some (vI x4), some (vR (some (13, k5))), some (vI x6), some (vI r_3)]) 79 dX11_judged_77 rfl rfl rfl rfl ?_
    refine r_iload 81 dX11_judged_79 rfl rfl ?_
    refine r_aload_n 82 dX11_judged_81 rfl rfl ?_
    refine g_R 85 dX11_judged_82 rfl rfl rfl fr_11_12 (sh_11_0 hS) ?_
    refine g_R 88 dX11_judged_85 rfl rfl rfl fr_11_282 (sh_8_12 hS _) ?_
    refine r_iload 90 dX11_judged_88 rfl rfl ?_
    refine a_I 20 91 dX11_judged_90 rfl rfl rfl rfl o_4 rfl ?_
    refine r_icmp_ne 94 110 dX11_judged_91 rfl rfl (fun c => ?_) (fun c => ?_)
    · have h := h.1 (c)
      refine r_iload 112 dX11_judged_110 rfl rfl ?_
      exact r_iret dX11_judged_112 rfl (.inl rfl) h.1 h.2
    · have h := h.2 (Decidable.not_not.mp c)
      refine r_aload_n 95 dX11_judged_94 rfl rfl ?_
      refine g_R 98 dX11_judged_95 rfl rfl rfl fr_11_44 (sh_11_4 hS) ?_
      refine r_aload_n 99 dX11_judged_98 rfl rfl ?_
      refine g_R 102 dX11_judged_99 rfl rfl rfl fr_11_72 (sh_11_8 hS) ?_
      refine r_iload 104 dX11_judged_102 rfl rfl ?_
      obtain ⟨r_7, M_5, hc_6, hS, h⟩ := h
      refine v_1 (ci := 0) (C := (RX0, TX0, 13)) [vR (some (5, 8)), vI r_3] [] 107 dX11_judged_104 rfl rfl rfl rfl rfl mo_X0_comesInTime ml_11_289 rfl rfl hc_6 ?_
      refine r_if_ne 110 113 dX11_judged_107 rfl rfl (fun c => ?_) (fun c => ?_)
      · have h := h.1 (c)
        refine r_aload_n 114 dX11_judged_113 rfl rfl ?_
        refine g_R 117 dX11_judged_114 rfl rfl rfl fr_11_44 (sh_11_4 hS) ?_
        refine r_aload_n 118 dX11_judged_117 rfl rfl ?_
        refine g_R 121 dX11_judged_118 rfl rfl rfl fr_11_72 (sh_11_8 hS) ?_
        refine r_iload 123 dX11_judged_121 rfl rfl ?_
        obtain ⟨M_8, hc_9, h⟩ := h
        refine v_0 (ci := 0) (C := (RX0, TX0, 13)) [vR (some (5, 8)), vI r_3] [] 126 dX11_judged_123 rfl rfl rfl rfl rfl mo_X0_goTo ml_11_293 rfl rfl hc_9 ?_
        obtain ⟨o_10, h⟩ := h
        refine r_iinc (ls' := [some (vR (some (2, 0))), some (vI x1), some (vI x2), some (vI x3), some (vI x4), some (vR (some (13, k5))), some (vI (x6 + 1)), some (vI r_3)]) 129 dX11_judged_126 rfl rfl rfl rfl o_10 rfl ?_
        refine r_goto 54 dX11_judged_129 rfl ?_
        exact Ex.weak h ⟨rfl, rfl, rfl, rfl, rfl, rfl, rfl, trivial⟩
      · have h := h.2 (Decidable.not_not.mp c)
        refine r_iload 112 dX11_judged_110 rfl rfl ?_
        exact r_iret dX11_judged_112 rfl (.inl rfl) h.1 h.2

section RC2
variable {l : Launch} {G : Gt} {d : Nat} {Q : QT} {M : Mem}
theorem KX11_daysOfRound {q : Nat} {g : Nat → Int} (hR : RelB Q M) (hq : WFQ Q) (hg : ∀ p, p < 8 → M.1 18 0 p = g p) (hgo : ∀ p, g p = -1 ∨ ∃ v : Nat, v < 8 ∧ g p = (v : Int) ∧ 1 ≤ rd Q p v) (hq8 : q < 8) : Cl l G d mX11_daysOfRound [vR (some (2, 0)), vI (q : Int)] M (some (vI (rndF Q g q 8 q 0))) M := by
  refine xX11_daysOfRound_0 ?_
  have key : ∀ f : Nat, f ≤ 8 → ∀ (p : Nat) (acc : Int), p < 8 → 0 ≤ acc → acc ≤ 9 * (8 - f) → Ex l G d mX11_daysOfRound 7 [some (vR (some (2, 0))), some (vI (q : Int)), some (vI (p : Int)), some (vI acc), some (vI (8 - (f : Int))), none] [] M (some (vI (rndF Q g q f p acc))) M := by
    intro f
    induction f with
    | zero => intro _ p acc hp h0 h9; exact xX11_daysOfRound_7 hR.1.1 ⟨fun _ => ⟨rfl, rfl⟩, fun c => absurd (by omega) c⟩
    | succ f ih =>
      intro hf p acc hp h0 h9
      have eg : M.1 18 0 (p : Int).toNat = g p := by rw [Int.toNat_natCast]; exact hg p hp
      refine xX11_daysOfRound_7 hR.1.1 ⟨fun c => by omega, fun _ => ⟨by omega, ?_⟩⟩
      rw [eg]
      rw [show rndF Q g q (f + 1) p acc = if g p = -1 then 0 else if g p = q then acc + rd Q p (g p) else rndF Q g q f (g p).toNat (acc + rd Q p (g p)) from rfl]
      rcases hgo p with h | ⟨v, v1, v2, v3⟩
      · rw [if_pos h]
        exact ⟨fun c => absurd h c, fun _ => ⟨rfl, rfl⟩⟩
      · have er : M.1 34 0 ((p : Int) * 8 + (v : Int)).toNat = rd Q p v := by
          rw [show ((p : Int) * 8 + (v : Int)).toNat = 8 * p + v by omega]
          exact hR.2.2 p v hp v1
        have hr := rd_in hq.2.1 (p : Int) (v : Int)
        rw [v2, if_neg (show ¬ (v : Int) = -1 by omega), er]
        refine ⟨fun _ => ⟨⟨by unfold InR; omega, by unfold InR; omega, by omega, by unfold InR; omega⟩, fun c => ?_, fun c => ?_⟩, fun c => by omega⟩
        · rw [if_neg c, Int.toNat_natCast]
          have := ih (by omega) v (acc + rd Q p v) v1 (by omega) (by omega)
          rw [show (8 - ((f + 1 : Nat) : Int) + 1) = 8 - (f : Int) by omega]
          exact ⟨by unfold InR; omega, this⟩
        · rw [if_pos c]
          exact ⟨rfl, rfl⟩
  exact key 8 (by omega) q 0 hq8 (by omega) (by omega)
theorem KX11_rings {c s day what : Int} (hR : RelC Q M) (hw : WFA Q) : ∃ M', Cl l G (d + 4) mX11_rings [vR (some (2, 0)), vI c, vI s, vI day, vI what] M (some (vI (ringsV Q c s day what))) M' ∧ RelB Q M' ∧ frB M M' := by
  have hq := hw.q
  have h12 := nPp_le hq.1
  have e1 := cppl_eq hq.1 hR.1.1
  have hco := KX11_coverOf (l := l) (G := G) (d := d + 3) (c := c) hR.1.1 hq.2.2.2.2
  unfold ringsV
  by_cases g : (0 ≤ c ∧ c < nCv Q) ∧ (0 ≤ s ∧ s < nPp Q) ∧ (0 ≤ day ∧ day ≤ 999) ∧ (0 ≤ what ∧ what ≤ 1)
  · rw [if_pos g]
    obtain ⟨g1, g2, g3, g4⟩ := g
    rw [if_pos g1] at hco
    have hgo := gnF_or hq c.toNat s.toNat day
    obtain ⟨R, hRr⟩ : ∃ R, rndV Q c.toNat s.toNat day = R := ⟨_, rfl⟩
    rw [hRr]
    have walk : ∀ M1, RelB Q M1 → (∀ p, p < 8 → M1.1 18 0 p = gnF Q c.toNat s.toNat day p) → Ex l G (d + 4) mX11_rings 108 [some (vR (some (2, 0))), some (vI c), some (vI s), some (vI day), some (vI what), some (vR (some (13, c.toNat))), some (vI 0), some (vI 0), some (vI 0), none] [] M1 (some (vI (if what = 0 then bI 8 (fun q => decide (¬ R q ≤ 0)) else lstF R 8))) M1 := by
      intro M1 R1 hG
      refine loopUp (P := fun q : Nat => Ex l G (d + 4) mX11_rings 108 [some (vR (some (2, 0))), some (vI c), some (vI s), some (vI day), some (vI what), some (vR (some (13, c.toNat))), some (vI (bI q (fun q => decide (¬ R q ≤ 0)))), some (vI (lstF R q)), some (vI (q : Int)), none] [] M1 (some (vI (if what = 0 then bI 8 (fun q => decide (¬ R q ≤ 0)) else lstF R 8))) M1) 0 8 (by omega) ?_ ?_
      · intro q _ hq8 ih
        have dr := KX11_daysOfRound (l := l) (G := G) (d := d + 3) (q := q) R1 hq hG hgo hq8
        have eR : rndF Q (gnF Q c.toNat s.toNat day) q 8 q 0 = R q := by rw [← hRr]; rfl
        rw [eR] at dr
        have eL : lstF R (q + 1) = if R q ≤ 0 then lstF R q else if lstF R q = 0 then R q else if R q < lstF R q then R q else lstF R q := by
          rw [show lstF R (q + 1) = if R q ≤ 0 then lstF R q else if lstF R q = 0 then R q else if lstF R q ≤ R q then lstF R q else R q from rfl]
          by_cases c1 : R q ≤ 0
          · rw [if_pos c1, if_pos c1]
          · rw [if_neg c1, if_neg c1]
            by_cases c2 : lstF R q = 0
            · rw [if_pos c2, if_pos c2]
            · rw [if_neg c2, if_neg c2]
              by_cases c3 : lstF R q ≤ R q
              · rw [if_pos c3, if_neg (by omega)]
              · rw [if_neg c3, if_pos (by omega)]
        rw [eL, ← bI_cl (p := fun q => decide (¬ R q ≤ 0)) (c := R q ≤ 0) (by omega) (by simp)] at ih
        exact xX11_rings_108 ⟨fun c => by omega, fun _ => ⟨_, _, dr, fun _ => by omega, by unfold InR; omega, ih⟩⟩
      · exact xX11_rings_108 ⟨fun _ => ⟨rfl, rfl⟩, fun c => absurd (by omega) c⟩
    have key := loopUp (P := fun q : Nat => ∀ M1, RelB Q M1 → frB M M1 → (∀ p, p < q → M1.1 18 0 p = gnF Q c.toNat s.toNat day p) → ∃ M', Ex l G (d + 4) mX11_rings 43 [some (vR (some (2, 0))), some (vI c), some (vI s), some (vI day), some (vI what), some (vR (some (13, c.toNat))), some (vI (q : Int)), none, none, none] [] M1 (some (vI (if what = 0 then bI 8 (fun q => decide (¬ R q ≤ 0)) else lstF R 8))) M' ∧ RelB Q M' ∧ frB M M') 0 8 (by omega) (by
      intro q _ hq8 ih M1 R1 f1 hG
      obtain ⟨M3, c3, R3, f3, a3, _⟩ := KX0_ask (l := l) (G := G) (d := d) (cv := c.toNat) (s := s.toNat) (sent := day) (day := day) (place := q) R1 hq (by omega) (by omega) hq8
      rw [show ((s.toNat : Nat) : Int) = s by omega] at c3
      have ag := AskC.g (Q := Q) (c := c.toNat) (s := s.toNat) (day := day) (p := q) a3
      have fu : frB M3 (upI M3.1 18 0 q (gnF Q c.toNat s.toNat day q), M3.2.1, M3.2.2) := frB.up (by unfold scC; omega)
      have Ru : RelB Q (upI M3.1 18 0 q (gnF Q c.toNat s.toNat day q), M3.2.1, M3.2.2) := R3.fr (R3.1.up (by unfold relF; omega)) fu
      obtain ⟨M', x1, x2⟩ := ih _ Ru ((f1.tr (f3.b fun _ _ _ => scK.c)).tr fu) (fun p hp => by
        dsimp only
        rw [upI_c]
        by_cases e : p = q
        · rw [if_pos e, e]
        · rw [if_neg e, f3.1 _ _ _ (by unfold scK scA; omega)]; exact hG p (by omega))
      refine ⟨M', xX11_rings_43 R1.1.1 ⟨fun c => by omega, fun _ => ⟨_, rfl, M3, c3, R3.1.1, ⟨by omega, by unfold InR; omega⟩, ?_⟩⟩, x2⟩
      rw [ag, Int.toNat_natCast]
      exact x1) (by
      intro M1 R1 f1 hG
      exact ⟨M1, xX11_rings_43 R1.1.1 ⟨fun _ => walk M1 R1 hG, fun c => absurd (by omega) c⟩, R1, f1⟩)
    obtain ⟨M', x1, x2, x3⟩ := key M hR.1 frB.rf (fun p hp => by omega)
    refine ⟨M', xX11_rings_0 ⟨_, M, hco, hR.1.1.1, fun a => absurd a (by simp), fun _ => ?_⟩, x2, x3⟩
    rw [e1]
    exact ⟨fun a => absurd g2 a, fun _ => ⟨fun a => absurd g3 a, fun _ => ⟨fun a => by omega, fun _ => ⟨fun _ => x1, fun a => by omega⟩⟩⟩⟩
  · rw [if_neg g]
    refine ⟨M, xX11_rings_0 ⟨_, M, hco, hR.1.1.1, fun _ => ⟨rfl, rfl⟩, fun a => ?_⟩, hR.1, frB.rf⟩
    rw [e1]
    have g1 : 0 ≤ c ∧ c < nCv Q := by
      by_cases g1 : 0 ≤ c ∧ c < nCv Q
      · exact g1
      · rw [if_neg g1] at a; exact absurd rfl a
    exact ⟨fun _ => ⟨rfl, rfl⟩, fun g2 => ⟨fun _ => ⟨rfl, rfl⟩, fun g3 => ⟨fun _ => ⟨rfl, rfl⟩, fun g4 => ⟨fun g5 => absurd ⟨g1, g2, g3, by omega⟩ g, fun _ => ⟨rfl, rfl⟩⟩⟩⟩⟩
end RC2
/-! judged -/
def judF (Q : QT) (cv : Nat) : Nat → Nat → (Nat → Int) → Int
  | 0, _, _ => -2
  | n + 1, k, L => if toL (stpL Q cv L) = Q 52 k ∧ L 7 + rd Q (L 6) (Q 52 k) ≤ 999 then judF Q cv n (k + 1) (goL Q (Q 52 k) (askL (stpL Q cv L) (bI 12 (akL Q cv L)) L)) else (k : Int)
def judgedV (Q : QT) (c s pl day : Int) : Int := if (0 ≤ c ∧ c < nCv Q) ∧ (0 ≤ s ∧ s < nPp Q) ∧ (0 ≤ pl ∧ pl < 8) ∧ (0 ≤ day ∧ day ≤ 999) then judF Q c.toNat (Q 48 4).toNat 0 (begL (fun _ => 0) s (-1) pl day) else -1
theorem judF_ext {Q : QT} {cv : Nat} : ∀ {n k : Nat} {L L' : Nat → Int}, eqL L L' → judF Q cv n k L = judF Q cv n k L' := by
  intro n
  induction n with
  | zero => intros; rfl
  | succ n ih =>
    intro k L L' h
    have ha : eqL (askL (stpL Q cv L) (bI 12 (akL Q cv L)) L) (askL (stpL Q cv L') (bI 12 (akL Q cv L')) L') := fun i hi => by
      unfold askL
      rw [if_neg (by omega), if_neg (show ¬ i = 11 by omega), stpL_ext h, h 5 (by omega), h 8 (by omega), h i hi]
    have hg : eqL (goL Q (Q 52 k) (askL (stpL Q cv L) (bI 12 (akL Q cv L)) L)) (goL Q (Q 52 k) (askL (stpL Q cv L') (bI 12 (akL Q cv L')) L')) := fun i hi => by
      unfold goL
      rw [ha 7 (by omega), ha 6 (by omega), ha 9 (by omega), ha 10 (by omega), ha i hi]
    unfold judF
    rw [ih hg, stpL_ext h, h 7 (by omega), h 6 (by omega)]
section JD
variable {l : Launch} {G : Gt} {d : Nat} {Q : QT} {M : Mem}
theorem KX11_judged {c s pl day : Int} (hR : RelC Q M) (hw : WFA Q) : ∃ M', Cl l G (d + 5) mX11_judged [vR (some (2, 0)), vI c, vI s, vI pl, vI day] M (some (vI (judgedV Q c s pl day))) M' ∧ RelC Q M' ∧ frK M M' := by
  have hq := hw.q
  have h12 := nPp_le hq.1
  have e1 := cppl_eq hq.1 hR.1.1
  have hco := KX11_coverOf (l := l) (G := G) (d := d + 4) (c := c) hR.1.1 hq.2.2.2.2
  have hy := hw.1.2.2.2.2.2.2.2
  unfold judgedV
  by_cases g : (0 ≤ c ∧ c < nCv Q) ∧ (0 ≤ s ∧ s < nPp Q) ∧ (0 ≤ pl ∧ pl < 8) ∧ (0 ≤ day ∧ day ≤ 999)
  · rw [if_pos g]
    obtain ⟨g1, g2, g3, g4⟩ := g
    rw [if_pos g1] at hco
    have b := KX5_begin (l := l) (G := G) (d := d + 3) (M := M) (k0 := 8) (cv := c.toNat) (s := s) (p := -1) (pl := pl) (day := day) g3
    have R1 : RelB Q (seI M.1 5 8 (begL (M.1 5 8) s (-1) pl day), upR M.2.1 5 8 0 (some (13, c.toNat)), M.2.2) := hR.1.beg
    have key : ∀ (n k : Nat), (Q 48 4).toNat = n + k → ∀ (M1 : Mem) (L : Nat → Int), RelB Q M1 → frB M M1 → M1.2.1 5 8 0 = some (13, c.toNat) → M1.1 5 8 = L → WL Q L → L 7 ≤ 999 → ∃ M', Ex l G (d + 5) mX11_judged 54 [some (vR (some (2, 0))), some (vI c), some (vI s), some (vI pl), some (vI day), some (vR (some (13, c.toNat))), some (vI (k : Int)), none] [] M1 (some (vI (judF Q c.toNat n k L))) M' ∧ RelB Q M' ∧ frB M M' := by
      intro n
      induction n with
      | zero =>
        intro k hk M1 L R1 f1 hT hM hL h9
        have e4 : M1.1 4 0 11 = Q 48 4 := by rw [f1.1 _ _ _ (by unfold scC; omega)]; exact hR.2.1.1.2.2.2
        exact ⟨M1, xX11_judged_54 R1.1.1 ⟨fun _ => ⟨rfl, rfl⟩, fun c => absurd (by omega) c⟩, R1, f1⟩
      | succ n ih =>
        intro k hk M1 L R1 f1 hT hM hL h9
        have e4 : M1.1 4 0 11 = Q 48 4 := by rw [f1.1 _ _ _ (by unfold scC; omega)]; exact hR.2.1.1.2.2.2
        obtain ⟨M3, c3, R3, f3, e3⟩ := KX0_askOn (l := l) (G := G) (d := d) R1 hq hT (by omega) hM hL
        have f3b := f3.b fun _ _ _ => scL.c
        have ew : M3.1 39 0 (k : Int).toNat = Q 52 k := by rw [Int.toNat_natCast, (f1.tr f3b).1 _ _ _ (by unfold scC; omega)]; exact hR.2.1.2.2.2.2.2.2.1 k (by omega)
        have hwk := hy.2 k (by omega)
        unfold judF
        by_cases c1 : toL (stpL Q c.toNat L) = Q 52 k
        · obtain ⟨v, hv⟩ : ∃ v : Nat, Q 52 k = (v : Int) := ⟨(Q 52 k).toNat, by omega⟩
          have s1 : (stpL Q c.toNat L).1 = 0 := by
            by_cases s1 : (stpL Q c.toNat L).1 = 0
            · exact s1
            · unfold toL at c1; rw [if_neg s1] at c1; omega
          have s4 : 1 ≤ rd Q (L 6) v := by
            rcases stpL_or (cv := c.toNat) hq hL with ⟨x, _⟩ | ⟨x, _⟩ | ⟨_, u, u1, u2, u3⟩
            · omega
            · omega
            · have : (u : Int) = (v : Int) := by unfold toL at c1; rw [if_pos s1, u2, hv] at c1; exact c1
              rw [← this]; exact u3
          rw [hv] at c1 hwk ew
          have hLa := hL.ask (stpL Q c.toNat L) (bI 12 (akL Q c.toNat L))
          have k2 := KX0_comesInTime (l := l) (G := G) (d := d + 4) (v := v) R3 hq e3 hLa (by omega)
          have e7 : askL (stpL Q c.toNat L) (bI 12 (akL Q c.toNat L)) L 7 = L 7 := rfl
          have e6 : askL (stpL Q c.toNat L) (bI 12 (akL Q c.toNat L)) L 6 = L 6 := rfl
          rw [e7, e6] at k2
          rw [c1] at c3
          rw [hv]
          by_cases c2 : L 7 + rd Q (L 6) v ≤ 999
          · rw [if_neg (by omega)] at k2
            obtain ⟨M7, c7, R7, f7, e7', r7⟩ := KX0_goTo (l := l) (G := G) (d := d + 4) (v := v) R3 hq e3 hLa (by omega)
            have f7b := f7.b fun _ _ _ => scL.c
            obtain ⟨M', x1, x2⟩ := ih (k + 1) (by omega) M7 _ R7 ((f1.tr f3b).tr f7b) (by rw [r7, f3.2.1 _ _ _ (by omega)]; exact hT) e7' (hLa.go hq (by omega) s4 (by show L 7 ≤ 1990; omega)) (by show L 7 + rd Q (L 6) v ≤ 999; omega)
            rw [if_pos ⟨c1, c2⟩]
            exact ⟨M', xX11_judged_54 R1.1.1 ⟨fun c => by omega, fun _ => ⟨_, M3, c3, R3.1.1, by omega, fun c => absurd ew.symm c, fun _ => ⟨_, M3, k2, R3.1.1, fun _ => ⟨M7, c7, by unfold InR; omega, x1⟩, fun c => by omega⟩⟩⟩, x2⟩
          · rw [if_pos (by omega)] at k2
            rw [if_neg (fun x => c2 x.2)]
            exact ⟨M3, xX11_judged_54 R1.1.1 ⟨fun c => by omega, fun _ => ⟨_, M3, c3, R3.1.1, by omega, fun c => absurd ew.symm c, fun _ => ⟨_, M3, k2, R3.1.1, fun c => absurd rfl c, fun _ => ⟨rfl, rfl⟩⟩⟩⟩, R3, f1.tr f3b⟩
        · rw [if_neg (fun x => c1 x.1)]
          exact ⟨M3, xX11_judged_54 R1.1.1 ⟨fun c => by omega, fun _ => ⟨_, M3, c3, R3.1.1, by omega, fun _ => ⟨rfl, rfl⟩, fun c => absurd (c.trans ew) c1⟩⟩, R3, f1.tr f3b⟩
    obtain ⟨M', x1, x2, x3⟩ := key (Q 48 4).toNat 0 rfl _ _ R1 frB.beg (by dsimp only; rw [upR_s]) (by dsimp only; rw [seI_s]) (begL_WL g2 g3 g4) g4.2
    rw [judF_ext (L' := begL (fun _ => 0) s (-1) pl day) (fun i hi => by unfold begL; ((repeat' split) <;> first | rfl | (exfalso; omega) | (congr 1; omega) | congr 1))] at x1
    refine ⟨M', xX11_judged_0 ⟨_, M, hco, hR.1.1.1, fun a => absurd a (by simp), fun _ => ?_⟩, hR.fr hw x2 x3, x3.ck x2⟩
    rw [e1]
    exact ⟨fun a => absurd g2 a, fun _ => ⟨fun a => absurd g3 a, fun _ => ⟨fun _ => ⟨_, rfl, _, b, x1⟩, fun a => absurd g4 a⟩⟩⟩
  · rw [if_neg g]
    refine ⟨M, xX11_judged_0 ⟨_, M, hco, hR.1.1.1, fun _ => ⟨rfl, rfl⟩, fun a => ?_⟩, hR, frK.rf⟩
    rw [e1]
    have g1 : 0 ≤ c ∧ c < nCv Q := by
      by_cases g1 : 0 ≤ c ∧ c < nCv Q
      · exact g1
      · rw [if_neg g1] at a; exact absurd rfl a
    exact ⟨fun _ => ⟨rfl, rfl⟩, fun g2 => ⟨fun _ => ⟨rfl, rfl⟩, fun g3 => ⟨fun g4 => absurd ⟨g1, g2, g3, g4⟩ g, fun _ => ⟨rfl, rfl⟩⟩⟩⟩
end JD
