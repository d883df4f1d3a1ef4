/-! the reference's ways: the days from one place to all -/
set_option maxRecDepth 4000 in
theorem xX12_spreads_0 {l : Launch} {G : Gt} {d : Nat} {M M' : Mem} {r : Option Vl} {x1 : Int} (h : 
    Ex l G d mX12_spreads 2 [some (vR (some (3, 0))), some (vI x1), some (vI 0), none, none, none] [] M r M') : Cl l G d mX12_spreads [vR (some (3, 0)), vI x1] M r M' := by
  show Ex l G d mX12_spreads 0 [some (vR (some (3, 0))), some (vI x1), none, none, none, none] [] M r M'
  refine r_iconst 1 dX12_spreads_0 rfl (InR_of rfl) ?_
  refine r_istore_n (ls' := [some (vR (some (3, 0))), some (vI x1), some (vI 0), none, none, none]) 2 dX12_spreads_1 rfl rfl rfl rfl ?_
  exact h
set_option maxRecDepth 4000 in
theorem xX12_spreads_2 {l : Launch} {G : Gt} {d : Nat} {M M' : Mem} {r : Option Vl} {x1 : Int} {x2 : Int} (hS : Sh M.2.1) (h : 
    (8 ≤ x2 → Ex l G d mX12_spreads 34 [some (vR (some (3, 0))), some (vI x1), some (vI 0), none, none, none] [] M r M') ∧ (¬ (8 ≤ x2) → ((0 ≤ x2 ∧ x2 < 8) ∧ InR (x2 + 1)) ∧ Ex l G d mX12_spreads 2 [some (vR (some (3, 0))), some (vI x1), some (vI (x2 + 1)), none, none, none] [] ((upI M.1 75 0 x2.toNat (if x2 = x1 then 0 else 9999 : Int)), M.2.1, M.2.2) r M')) : Ex l G d mX12_spreads 2 [some (vR (some (3, 0))), some (vI x1), some (vI x2), none, none, none] [] M r M' := by
  refine r_iload_n 3 dX12_spreads_2 rfl rfl ?_
  refine r_bipush 5 dX12_spreads_3 rfl rfl ?_
  refine r_icmp_ge 8 32 dX12_spreads_5 rfl rfl (fun c => ?_) (fun c => ?_)
  · have h := h.1 (c)
    refine r_iconst 33 dX12_spreads_32 rfl (InR_of rfl) ?_
    refine r_istore_n (ls' := [some (vR (some (3, 0))), some (vI x1), some (vI 0), none, none, none]) 34 dX12_spreads_33 rfl rfl rfl rfl ?_
    exact h
  · have h := h.2 (c)
    refine r_aload_n 9 dX12_spreads_8 rfl rfl ?_
    refine g_R 12 dX12_spreads_9 rfl rfl rfl fr_12_91 (sh_12_28 hS) ?_
    refine r_iload_n 13 dX12_spreads_12 rfl rfl ?_
    refine r_iload_n 14 dX12_spreads_13 rfl rfl ?_
    refine r_iload_n 15 dX12_spreads_14 rfl rfl ?_
    have hJ_1 : Ex l G d mX12_spreads 25 [some (vR (some (3, 0))), some (vI x1), some (vI x2), none, none, none] [vI (if x2 = x1 then 0 else 9999 : Int), vI x2, vR (some (75, 0))] M r M' := by
      obtain ⟨⟨o_3, o_4⟩, h⟩ := h
      refine s_I 8 26 dX12_spreads_25 rfl rfl (by decide) rfl rfl o_3 ?_
      refine r_iinc (ls' := [some (vR (some (3, 0))), some (vI x1), some (vI (x2 + 1)), none, none, none]) 29 dX12_spreads_26 rfl rfl rfl rfl o_4 rfl ?_
      refine r_goto 2 dX12_spreads_29 rfl ?_
      exact h
    refine r_icmp_ne 18 22 dX12_spreads_15 rfl rfl (fun c => ?_) (fun c => ?_)
    · have c_2 := c
      refine r_sipush 25 dX12_spreads_22 rfl rfl ?_
      exact (Ex.at hJ_1 rfl (show [vI 9999, vI x2, vR (some (75, 0))] = [vI (if x2 = x1 then 0 else 9999 : Int), vI x2, vR (some (75, 0))] by simp only [if_neg c_2]) rfl)
    · have c_2 := Decidable.not_not.mp c
      refine r_iconst 19 dX12_spreads_18 rfl (InR_of rfl) ?_
      refine r_goto 25 dX12_spreads_19 rfl ?_
      exact (Ex.at hJ_1 rfl (show [vI 0, vI x2, vR (some (75, 0))] = [vI (if x2 = x1 then 0 else 9999 : Int), vI x2, vR (some (75, 0))] by simp only [if_pos c_2]) rfl)
set_option maxRecDepth 4000 in
theorem xX12_spreads_34 {l : Launch} {G : Gt} {d : Nat} {M M' : Mem} {r : Option Vl} {x1 : Int} {x2 : Int} (h : 
    (8 ≤ x2 → r = none ∧ M' = M) ∧ (¬ (8 ≤ x2) → Ex l G d mX12_spreads 42 [some (vR (some (3, 0))), some (vI x1), some (vI x2), some (vI 0), none, none] [] M r M')) : Ex l G d mX12_spreads 34 [some (vR (some (3, 0))), some (vI x1), some (vI x2), none, none, none] [] M r M' := by
  refine r_iload_n 35 dX12_spreads_34 rfl rfl ?_
  refine r_bipush 37 dX12_spreads_35 rfl rfl ?_
  refine r_icmp_ge 40 190 dX12_spreads_37 rfl rfl (fun c => ?_) (fun c => ?_)
  · have h := h.1 (c)
    exact r_vret dX12_spreads_190 rfl h.1 h.2
  · have h := h.2 (c)
    refine r_iconst 41 dX12_spreads_40 rfl (InR_of rfl) ?_
    refine r_istore_n (ls' := [some (vR (some (3, 0))), some (vI x1), some (vI x2), some (vI 0), none, none]) 42 dX12_spreads_41 rfl rfl rfl rfl ?_
    exact h
set_option maxRecDepth 4000 in
theorem xX12_spreads_42 {l : Launch} {G : Gt} {d : Nat} {M M' : Mem} {r : Option Vl} {x1 : Int} {x2 : Int} {x3 : Int} (hS : Sh M.2.1) (h : 
    ((M.1 48 0 1) ≤ x3 → (InR (x2 + 1)) ∧ Ex l G d mX12_spreads 34 [some (vR (some (3, 0))), some (vI x1), some (vI (x2 + 1)), none, none, none] [] M r M') ∧ (¬ ((M.1 48 0 1) ≤ x3) → ((0 ≤ x3 ∧ x3 < 16) ∧ (0 ≤ (M.1 53 0 x3.toNat) ∧ (M.1 53 0 x3.toNat) < 8) ∧ InR ((M.1 75 0 (M.1 53 0 x3.toNat).toNat) + (M.1 55 0 x3.toNat)) ∧ (0 ≤ (M.1 54 0 x3.toNat) ∧ (M.1 54 0 x3.toNat) < 8)) ∧ ((((M.1 75 0 (M.1 54 0 x3.toNat).toNat) ≤ ((M.1 75 0 (M.1 53 0 x3.toNat).toNat) + (M.1 55 0 x3.toNat)) → ((0 ≤ (M.1 54 0 x3.toNat) ∧ (M.1 54 0 x3.toNat) < 8))) ∧ (¬ ((M.1 75 0 (M.1 54 0 x3.toNat).toNat) ≤ ((M.1 75 0 (M.1 53 0 x3.toNat).toNat) + (M.1 55 0 x3.toNat))) → ((0 ≤ (M.1 53 0 x3.toNat) ∧ (M.1 53 0 x3.toNat) < 8) ∧ (0 ≤ x3 ∧ x3 < 16) ∧ InR ((M.1 75 0 (M.1 53 0 x3.toNat).toNat) + (M.1 55 0 x3.toNat))))) ∧ (((0 ≤ (M.1 54 0 x3.toNat) ∧ (M.1 54 0 x3.toNat) < 8) ∧ (0 ≤ x3 ∧ x3 < 16) ∧ InR ((if (M.1 75 0 (M.1 54 0 x3.toNat).toNat) ≤ ((M.1 75 0 (M.1 53 0 x3.toNat).toNat) + (M.1 55 0 x3.toNat)) then (M.1 75 0 (M.1 54 0 x3.toNat).toNat) else ((M.1 75 0 (M.1 53 0 x3.toNat).toNat) + (M.1 55 0 x3.toNat)) : Int) + (M.1 55 0 x3.toNat)) ∧ (0 ≤ (M.1 53 0 x3.toNat) ∧ (M.1 53 0 x3.toNat) < 8)) ∧ (((((upI M.1 75 0 (M.1 54 0 x3.toNat).toNat (if (M.1 75 0 (M.1 54 0 x3.toNat).toNat) ≤ ((M.1 75 0 (M.1 53 0 x3.toNat).toNat) + (M.1 55 0 x3.toNat)) then (M.1 75 0 (M.1 54 0 x3.toNat).toNat) else ((M.1 75 0 (M.1 53 0 x3.toNat).toNat) + (M.1 55 0 x3.toNat)) : Int)) 75 0 (M.1 53 0 x3.toNat).toNat) ≤ ((if (M.1 75 0 (M.1 54 0 x3.toNat).toNat) ≤ ((M.1 75 0 (M.1 53 0 x3.toNat).toNat) + (M.1 55 0 x3.toNat)) then (M.1 75 0 (M.1 54 0 x3.toNat).toNat) else ((M.1 75 0 (M.1 53 0 x3.toNat).toNat) + (M.1 55 0 x3.toNat)) : Int) + (M.1 55 0 x3.toNat)) → ((0 ≤ (M.1 53 0 x3.toNat) ∧ (M.1 53 0 x3.toNat) < 8))) ∧ (¬ (((upI M.1 75 0 (M.1 54 0 x3.toNat).toNat (if (M.1 75 0 (M.1 54 0 x3.toNat).toNat) ≤ ((M.1 75 0 (M.1 53 0 x3.toNat).toNat) + (M.1 55 0 x3.toNat)) then (M.1 75 0 (M.1 54 0 x3.toNat).toNat) else ((M.1 75 0 (M.1 53 0 x3.toNat).toNat) + (M.1 55 0 x3.toNat)) : Int)) 75 0 (M.1 53 0 x3.toNat).toNat) ≤ ((if (M.1 75 0 (M.1 54 0 x3.toNat).toNat) ≤ ((M.1 75 0 (M.1 53 0 x3.toNat).toNat) + (M.1 55 0 x3.toNat)) then (M.1 75 0 (M.1 54 0 x3.toNat).toNat) else ((M.1 75 0 (M.1 53 0 x3.toNat).toNat) + (M.1 55 0 x3.toNat)) : Int) + (M.1 55 0 x3.toNat))) → ((0 ≤ (M.1 54 0 x3.toNat) ∧ (M.1 54 0 x3.toNat) < 8) ∧ (0 ≤ x3 ∧ x3 < 16) ∧ InR ((if (M.1 75 0 (M.1 54 0 x3.toNat).toNat) ≤ ((M.1 75 0 (M.1 53 0 x3.toNat).toNat) + (M.1 55 0 x3.toNat)) then (M.1 75 0 (M.1 54 0 x3.toNat).toNat) else ((M.1 75 0 (M.1 53 0 x3.toNat).toNat) + (M.1 55 0 x3.toNat)) : Int) + (M.1 55 0 x3.toNat))))) ∧ ((0 ≤ (M.1 53 0 x3.toNat) ∧ (M.1 53 0 x3.toNat) < 8) ∧ InR (x3 + 1)) ∧ Ex l G d mX12_spreads 42 [some (vR (some (3, 0))), some (vI x1), some (vI x2), some (vI (x3 + 1)), none, none] [] ((upI (upI M.1 75 0 (M.1 54 0 x3.toNat).toNat (if (M.1 75 0 (M.1 54 0 x3.toNat).toNat) ≤ ((M.1 75 0 (M.1 53 0 x3.toNat).toNat) + (M.1 55 0 x3.toNat)) then (M.1 75 0 (M.1 54 0 x3.toNat).toNat) else ((M.1 75 0 (M.1 53 0 x3.toNat).toNat) + (M.1 55 0 x3.toNat)) : Int)) 75 0 (M.1 53 0 x3.toNat).toNat (if ((upI M.1 75 0 (M.1 54 0 x3.toNat).toNat (if (M.1 75 0 (M.1 54 0 x3.toNat).toNat) ≤ ((M.1 75 0 (M.1 53 0 x3.toNat).toNat) + (M.1 55 0 x3.toNat)) then (M.1 75 0 (M.1 54 0 x3.toNat).toNat) else ((M.1 75 0 (M.1 53 0 x3.toNat).toNat) + (M.1 55 0 x3.toNat)) : Int)) 75 0 (M.1 53 0 x3.toNat).toNat) ≤ ((if (M.1 75 0 (M.1 54 0 x3.toNat).toNat) ≤ ((M.1 75 0 (M.1 53 0 x3.toNat).toNat) + (M.1 55 0 x3.toNat)) then (M.1 75 0 (M.1 54 0 x3.toNat).toNat) else ((M.1 75 0 (M.1 53 0 x3.toNat).toNat) + (M.1 55 0 x3.toNat)) : Int) + (M.1 55 0 x3.toNat)) then ((upI M.1 75 0 (M.1 54 0 x3.toNat).toNat (if (M.1 75 0 (M.1 54 0 x3.toNat).toNat) ≤ ((M.1 75 0 (M.1 53 0 x3.toNat).toNat) + (M.1 55 0 x3.toNat)) then (M.1 75 0 (M.1 54 0 x3.toNat).toNat) else ((M.1 75 0 (M.1 53 0 x3.toNat).toNat) + (M.1 55 0 x3.toNat)) : Int)) 75 0 (M.1 53 0 x3.toNat).toNat) else ((if (M.1 75 0 (M.1 54 0 x3.toNat).toNat) ≤ ((M.1 75 0 (M.1 53 0 x3.toNat).toNat) + (M.1 55 0 x3.toNat)) then (M.1 75 0 (M.1 54 0 x3.toNat).toNat) else ((M.1 75 0 (M.1 53 0 x3.toNat).toNat) + (M.1 55 0 x3.toNat)) : Int) + (M.1 55 0 x3.toNat)) : Int)), M.2.1, M.2.2) r M'))))) : Ex l G d mX12_spreads 42 [some (vR (some (3, 0))), some (vI x1), some (vI x2), some (vI x3), none, none] [] M r M' := by
  refine r_iload_n 43 dX12_spreads_42 rfl rfl ?_
  refine r_aload_n 44 dX12_spreads_43 rfl rfl ?_
  refine g_R 47 dX12_spreads_44 rfl rfl rfl fr_12_7 (sh_12_1 hS) ?_
  refine r_iconst 48 dX12_spreads_47 rfl (InR_of rfl) ?_
  refine a_I 6 49 dX12_spreads_48 rfl rfl rfl rfl ⟨by decide, by decide⟩ rfl ?_
  refine r_icmp_ge 52 184 dX12_spreads_49 rfl rfl (fun c => ?_) (fun c => ?_)
  · have h := h.1 (c)
    obtain ⟨o_1, h⟩ := h
    refine r_iinc (ls' := [some (vR (some (3, 0))), some (vI x1), some (vI (x2 + 1)), some (vI x3), none, none]) 187 dX12_spreads_184 rfl rfl rfl rfl o_1 rfl ?_
    refine r_goto 34 dX12_spreads_187 rfl ?_
    exact Ex.weak h ⟨rfl, rfl, rfl, trivial⟩
  · have h := h.2 (c)
    obtain ⟨⟨o_2, o_3, o_4, o_5⟩, h⟩ := h
    refine r_aload_n 53 dX12_spreads_52 rfl rfl ?_
    refine g_R 56 dX12_spreads_53 rfl rfl rfl fr_12_25 (sh_12_6 hS) ?_
    refine r_iload_n 57 dX12_spreads_56 rfl rfl ?_
    refine a_I 16 58 dX12_spreads_57 rfl rfl rfl rfl o_2 rfl ?_
    refine r_istore (ls' := [some (vR (some (3, 0))), some (vI x1), some (vI x2), some (vI x3), some (vI (M.1 53 0 x3.toNat)), none]) 60 dX12_spreads_58 rfl rfl rfl rfl ?_
    refine r_aload_n 61 dX12_spreads_60 rfl rfl ?_
    refine g_R 64 dX12_spreads_61 rfl rfl rfl fr_12_28 (sh_12_7 hS) ?_
    refine r_iload_n 65 dX12_spreads_64 rfl rfl ?_
    refine a_I 16 66 dX12_spreads_65 rfl rfl rfl rfl o_2 rfl ?_
    refine r_istore (ls' := [some (vR (some (3, 0))), some (vI x1), some (vI x2), some (vI x3), some (vI (M.1 53 0 x3.toNat)), some (vI (M.1 54 0 x3.toNat))]) 68 dX12_spreads_66 rfl rfl rfl rfl ?_
    refine r_aload_n 69 dX12_spreads_68 rfl rfl ?_
    refine g_R 72 dX12_spreads_69 rfl rfl rfl fr_12_91 (sh_12_28 hS) ?_
    refine r_iload 74 dX12_spreads_72 rfl rfl ?_
    refine r_aload_n 75 dX12_spreads_74 rfl rfl ?_
    refine g_R 78 dX12_spreads_75 rfl rfl rfl fr_12_91 (sh_12_28 hS) ?_
    refine r_iload 80 dX12_spreads_78 rfl rfl ?_
    refine a_I 8 81 dX12_spreads_80 rfl rfl rfl rfl o_3 rfl ?_
    refine r_aload_n 82 dX12_spreads_81 rfl rfl ?_
    refine g_R 85 dX12_spreads_82 rfl rfl rfl fr_12_31 (sh_12_8 hS) ?_
    refine r_iload_n 86 dX12_spreads_85 rfl rfl ?_
    refine a_I 16 87 dX12_spreads_86 rfl rfl rfl rfl o_2 rfl ?_
    refine r_iadd 88 dX12_spreads_87 rfl o_4 ?_
    refine r_aload_n 89 dX12_spreads_88 rfl rfl ?_
    refine g_R 92 dX12_spreads_89 rfl rfl rfl fr_12_91 (sh_12_28 hS) ?_
    refine r_iload 94 dX12_spreads_92 rfl rfl ?_
    refine a_I 8 95 dX12_spreads_94 rfl rfl rfl rfl o_5 rfl ?_
    obtain ⟨h0, h⟩ := h
    have hJ_6 : Ex l G d mX12_spreads 122 [some (vR (some (3, 0))), some (vI x1), some (vI x2), some (vI x3), some (vI (M.1 53 0 x3.toNat)), some (vI (M.1 54 0 x3.toNat))] [vI (if (M.1 75 0 (M.1 54 0 x3.toNat).toNat) ≤ ((M.1 75 0 (M.1 53 0 x3.toNat).toNat) + (M.1 55 0 x3.toNat)) then (M.1 75 0 (M.1 54 0 x3.toNat).toNat) else ((M.1 75 0 (M.1 53 0 x3.toNat).toNat) + (M.1 55 0 x3.toNat)) : Int), vI (M.1 54 0 x3.toNat), vR (some (75, 0))] M r M' := by
      obtain ⟨⟨o_12, o_13, o_14, o_15⟩, h⟩ := h
      refine s_I 8 123 dX12_spreads_122 rfl rfl (by decide) rfl rfl o_12 ?_
      refine r_aload_n 124 dX12_spreads_123 rfl rfl ?_
      refine g_R 127 dX12_spreads_124 rfl rfl rfl fr_12_91 (mR_0 (sh_12_28 hS)) ?_
      refine r_iload 129 dX12_spreads_127 rfl rfl ?_
      refine r_aload_n 130 dX12_spreads_129 rfl rfl ?_
      refine g_R 133 dX12_spreads_130 rfl rfl rfl fr_12_91 (mR_0 (sh_12_28 hS)) ?_
      refine r_iload 135 dX12_spreads_133 rfl rfl ?_
      refine a_I 8 136 dX12_spreads_135 rfl rfl rfl rfl o_12 (mI_0 (upI_s)) ?_
      refine r_aload_n 137 dX12_spreads_136 rfl rfl ?_
      refine g_R 140 dX12_spreads_137 rfl rfl rfl fr_12_31 (mR_0 (sh_12_8 hS)) ?_
      refine r_iload_n 141 dX12_spreads_140 rfl rfl ?_
      refine a_I 16 142 dX12_spreads_141 rfl rfl rfl rfl o_13 (mI_0 (upI_f rfl)) ?_
      refine r_iadd 143 dX12_spreads_142 rfl o_14 ?_
      refine r_aload_n 144 dX12_spreads_143 rfl rfl ?_
      refine g_R 147 dX12_spreads_144 rfl rfl rfl fr_12_91 (mR_0 (sh_12_28 hS)) ?_
      refine r_iload 149 dX12_spreads_147 rfl rfl ?_
      refine a_I 8 150 dX12_spreads_149 rfl rfl rfl rfl o_15 (mI_0 rfl) ?_
      obtain ⟨h0, h⟩ := h
      have hJ_16 : Ex l G d mX12_spreads 177 [some (vR (some (3, 0))), some (vI x1), some (vI x2), some (vI x3), some (vI (M.1 53 0 x3.toNat)), some (vI (M.1 54 0 x3.toNat))] [vI (if ((upI M.1 75 0 (M.1 54 0 x3.toNat).toNat (if (M.1 75 0 (M.1 54 0 x3.toNat).toNat) ≤ ((M.1 75 0 (M.1 53 0 x3.toNat).toNat) + (M.1 55 0 x3.toNat)) then (M.1 75 0 (M.1 54 0 x3.toNat).toNat) else ((M.1 75 0 (M.1 53 0 x3.toNat).toNat) + (M.1 55 0 x3.toNat)) : Int)) 75 0 (M.1 53 0 x3.toNat).toNat) ≤ ((if (M.1 75 0 (M.1 54 0 x3.toNat).toNat) ≤ ((M.1 75 0 (M.1 53 0 x3.toNat).toNat) + (M.1 55 0 x3.toNat)) then (M.1 75 0 (M.1 54 0 x3.toNat).toNat) else ((M.1 75 0 (M.1 53 0 x3.toNat).toNat) + (M.1 55 0 x3.toNat)) : Int) + (M.1 55 0 x3.toNat)) then ((upI M.1 75 0 (M.1 54 0 x3.toNat).toNat (if (M.1 75 0 (M.1 54 0 x3.toNat).toNat) ≤ ((M.1 75 0 (M.1 53 0 x3.toNat).toNat) + (M.1 55 0 x3.toNat)) then (M.1 75 0 (M.1 54 0 x3.toNat).toNat) else ((M.1 75 0 (M.1 53 0 x3.toNat).toNat) + (M.1 55 0 x3.toNat)) : Int)) 75 0 (M.1 53 0 x3.toNat).toNat) else ((if (M.1 75 0 (M.1 54 0 x3.toNat).toNat) ≤ ((M.1 75 0 (M.1 53 0 x3.toNat).toNat) + (M.1 55 0 x3.toNat)) then (M.1 75 0 (M.1 54 0 x3.toNat).toNat) else ((M.1 75 0 (M.1 53 0 x3.toNat).toNat) + (M.1 55 0 x3.toNat)) : Int) + (M.1 55 0 x3.toNat)) : Int), vI (M.1 53 0 x3.toNat), vR (some (75, 0))] ((upI M.1 75 0 (M.1 54 0 x3.toNat).toNat (if (M.1 75 0 (M.1 54 0 x3.toNat).toNat) ≤ ((M.1 75 0 (M.1 53 0 x3.toNat).toNat) + (M.1 55 0 x3.toNat)) then (M.1 75 0 (M.1 54 0 x3.toNat).toNat) else ((M.1 75 0 (M.1 53 0 x3.toNat).toNat) + (M.1 55 0 x3.toNat)) : Int)), M.2.1, M.2.2) r M' := by
        obtain ⟨⟨o_22, o_23⟩, h⟩ := h
        refine s_I 8 178 dX12_spreads_177 rfl rfl (by decide) rfl rfl o_22 ?_
        refine r_iinc (ls' := [some (vR (some (3, 0))), some (vI x1), some (vI x2), some (vI (x3 + 1)), some (vI (M.1 53 0 x3.toNat)), some (vI (M.1 54 0 x3.toNat))]) 181 dX12_spreads_178 rfl rfl rfl rfl o_23 rfl ?_
        refine r_goto 42 dX12_spreads_181 rfl ?_
        exact Ex.weak h ⟨rfl, rfl, rfl, rfl, trivial⟩
      have h := h0
      refine r_icmp_ge 153 170 dX12_spreads_150 rfl rfl (fun c => ?_) (fun c => ?_)
      · have c_17 := c
        have h := h.1 c_17
        have o_18 := h
        refine r_aload_n 171 dX12_spreads_170 rfl rfl ?_
        refine g_R 174 dX12_spreads_171 rfl rfl rfl fr_12_91 (mR_0 (sh_12_28 hS)) ?_
        refine r_iload 176 dX12_spreads_174 rfl rfl ?_
        refine a_I 8 177 dX12_spreads_176 rfl rfl rfl rfl o_18 (mI_0 rfl) ?_
        exact (Ex.at hJ_16 rfl (show [vI ((upI M.1 75 0 (M.1 54 0 x3.toNat).toNat (if (M.1 75 0 (M.1 54 0 x3.toNat).toNat) ≤ ((M.1 75 0 (M.1 53 0 x3.toNat).toNat) + (M.1 55 0 x3.toNat)) then (M.1 75 0 (M.1 54 0 x3.toNat).toNat) else ((M.1 75 0 (M.1 53 0 x3.toNat).toNat) + (M.1 55 0 x3.toNat)) : Int)) 75 0 (M.1 53 0 x3.toNat).toNat), vI (M.1 53 0 x3.toNat), vR (some (75, 0))] = [vI (if ((upI M.1 75 0 (M.1 54 0 x3.toNat).toNat (if (M.1 75 0 (M.1 54 0 x3.toNat).toNat) ≤ ((M.1 75 0 (M.1 53 0 x3.toNat).toNat) + (M.1 55 0 x3.toNat)) then (M.1 75 0 (M.1 54 0 x3.toNat).toNat) else ((M.1 75 0 (M.1 53 0 x3.toNat).toNat) + (M.1 55 0 x3.toNat)) : Int)) 75 0 (M.1 53 0 x3.toNat).toNat) ≤ ((if (M.1 75 0 (M.1 54 0 x3.toNat).toNat) ≤ ((M.1 75 0 (M.1 53 0 x3.toNat).toNat) + (M.1 55 0 x3.toNat)) then (M.1 75 0 (M.1 54 0 x3.toNat).toNat) else ((M.1 75 0 (M.1 53 0 x3.toNat).toNat) + (M.1 55 0 x3.toNat)) : Int) + (M.1 55 0 x3.toNat)) then ((upI M.1 75 0 (M.1 54 0 x3.toNat).toNat (if (M.1 75 0 (M.1 54 0 x3.toNat).toNat) ≤ ((M.1 75 0 (M.1 53 0 x3.toNat).toNat) + (M.1 55 0 x3.toNat)) then (M.1 75 0 (M.1 54 0 x3.toNat).toNat) else ((M.1 75 0 (M.1 53 0 x3.toNat).toNat) + (M.1 55 0 x3.toNat)) : Int)) 75 0 (M.1 53 0 x3.toNat).toNat) else ((if (M.1 75 0 (M.1 54 0 x3.toNat).toNat) ≤ ((M.1 75 0 (M.1 53 0 x3.toNat).toNat) + (M.1 55 0 x3.toNat)) then (M.1 75 0 (M.1 54 0 x3.toNat).toNat) else ((M.1 75 0 (M.1 53 0 x3.toNat).toNat) + (M.1 55 0 x3.toNat)) : Int) + (M.1 55 0 x3.toNat)) : Int), vI (M.1 53 0 x3.toNat), vR (some (75, 0))] by simp only [if_pos c_17]) rfl)
      · have c_17 := c
        have h := h.2 c_17
        obtain ⟨o_19, o_20, o_21⟩ := h
        refine r_aload_n 154 dX12_spreads_153 rfl rfl ?_
        refine g_R 157 dX12_spreads_154 rfl rfl rfl fr_12_91 (mR_0 (sh_12_28 hS)) ?_
        refine r_iload 159 dX12_spreads_157 rfl rfl ?_
        refine a_I 8 160 dX12_spreads_159 rfl rfl rfl rfl o_19 (mI_0 (upI_s)) ?_
        refine r_aload_n 161 dX12_spreads_160 rfl rfl ?_
        refine g_R 164 dX12_spreads_161 rfl rfl rfl fr_12_31 (mR_0 (sh_12_8 hS)) ?_
        refine r_iload_n 165 dX12_spreads_164 rfl rfl ?_
        refine a_I 16 166 dX12_spreads_165 rfl rfl rfl rfl o_20 (mI_0 (upI_f rfl)) ?_
        refine r_iadd 167 dX12_spreads_166 rfl o_21 ?_
        refine r_goto 177 dX12_spreads_167 rfl ?_
        exact (Ex.at hJ_16 rfl (show [vI ((if (M.1 75 0 (M.1 54 0 x3.toNat).toNat) ≤ ((M.1 75 0 (M.1 53 0 x3.toNat).toNat) + (M.1 55 0 x3.toNat)) then (M.1 75 0 (M.1 54 0 x3.toNat).toNat) else ((M.1 75 0 (M.1 53 0 x3.toNat).toNat) + (M.1 55 0 x3.toNat)) : Int) + (M.1 55 0 x3.toNat)), vI (M.1 53 0 x3.toNat), vR (some (75, 0))] = [vI (if ((upI M.1 75 0 (M.1 54 0 x3.toNat).toNat (if (M.1 75 0 (M.1 54 0 x3.toNat).toNat) ≤ ((M.1 75 0 (M.1 53 0 x3.toNat).toNat) + (M.1 55 0 x3.toNat)) then (M.1 75 0 (M.1 54 0 x3.toNat).toNat) else ((M.1 75 0 (M.1 53 0 x3.toNat).toNat) + (M.1 55 0 x3.toNat)) : Int)) 75 0 (M.1 53 0 x3.toNat).toNat) ≤ ((if (M.1 75 0 (M.1 54 0 x3.toNat).toNat) ≤ ((M.1 75 0 (M.1 53 0 x3.toNat).toNat) + (M.1 55 0 x3.toNat)) then (M.1 75 0 (M.1 54 0 x3.toNat).toNat) else ((M.1 75 0 (M.1 53 0 x3.toNat).toNat) + (M.1 55 0 x3.toNat)) : Int) + (M.1 55 0 x3.toNat)) then ((upI M.1 75 0 (M.1 54 0 x3.toNat).toNat (if (M.1 75 0 (M.1 54 0 x3.toNat).toNat) ≤ ((M.1 75 0 (M.1 53 0 x3.toNat).toNat) + (M.1 55 0 x3.toNat)) then (M.1 75 0 (M.1 54 0 x3.toNat).toNat) else ((M.1 75 0 (M.1 53 0 x3.toNat).toNat) + (M.1 55 0 x3.toNat)) : Int)) 75 0 (M.1 53 0 x3.toNat).toNat) else ((if (M.1 75 0 (M.1 54 0 x3.toNat).toNat) ≤ ((M.1 75 0 (M.1 53 0 x3.toNat).toNat) + (M.1 55 0 x3.toNat)) then (M.1 75 0 (M.1 54 0 x3.toNat).toNat) else ((M.1 75 0 (M.1 53 0 x3.toNat).toNat) + (M.1 55 0 x3.toNat)) : Int) + (M.1 55 0 x3.toNat)) : Int), vI (M.1 53 0 x3.toNat), vR (some (75, 0))] by simp only [if_neg c_17]) rfl)
    have h := h0
    refine r_icmp_ge 98 115 dX12_spreads_95 rfl rfl (fun c => ?_) (fun c => ?_)
    · have c_7 := c
      have h := h.1 c_7
      have o_8 := h
      refine r_aload_n 116 dX12_spreads_115 rfl rfl ?_
      refine g_R 119 dX12_spreads_116 rfl rfl rfl fr_12_91 (sh_12_28 hS) ?_
      refine r_iload 121 dX12_spreads_119 rfl rfl ?_
      refine a_I 8 122 dX12_spreads_121 rfl rfl rfl rfl o_8 rfl ?_
      exact (Ex.at hJ_6 rfl (show [vI (M.1 75 0 (M.1 54 0 x3.toNat).toNat), vI (M.1 54 0 x3.toNat), vR (some (75, 0))] = [vI (if (M.1 75 0 (M.1 54 0 x3.toNat).toNat) ≤ ((M.1 75 0 (M.1 53 0 x3.toNat).toNat) + (M.1 55 0 x3.toNat)) then (M.1 75 0 (M.1 54 0 x3.toNat).toNat) else ((M.1 75 0 (M.1 53 0 x3.toNat).toNat) + (M.1 55 0 x3.toNat)) : Int), vI (M.1 54 0 x3.toNat), vR (some (75, 0))] by simp only [if_pos c_7]) rfl)
    · have c_7 := c
      have h := h.2 c_7
      obtain ⟨o_9, o_10, o_11⟩ := h
      refine r_aload_n 99 dX12_spreads_98 rfl rfl ?_
      refine g_R 102 dX12_spreads_99 rfl rfl rfl fr_12_91 (sh_12_28 hS) ?_
      refine r_iload 104 dX12_spreads_102 rfl rfl ?_
      refine a_I 8 105 dX12_spreads_104 rfl rfl rfl rfl o_9 rfl ?_
      refine r_aload_n 106 dX12_spreads_105 rfl rfl ?_
      refine g_R 109 dX12_spreads_106 rfl rfl rfl fr_12_31 (sh_12_8 hS) ?_
      refine r_iload_n 110 dX12_spreads_109 rfl rfl ?_
      refine a_I 16 111 dX12_spreads_110 rfl rfl rfl rfl o_10 rfl ?_
      refine r_iadd 112 dX12_spreads_111 rfl o_11 ?_
      refine r_goto 122 dX12_spreads_112 rfl ?_
      exact (Ex.at hJ_6 rfl (show [vI ((M.1 75 0 (M.1 53 0 x3.toNat).toNat) + (M.1 55 0 x3.toNat)), vI (M.1 54 0 x3.toNat), vR (some (75, 0))] = [vI (if (M.1 75 0 (M.1 54 0 x3.toNat).toNat) ≤ ((M.1 75 0 (M.1 53 0 x3.toNat).toNat) + (M.1 55 0 x3.toNat)) then (M.1 75 0 (M.1 54 0 x3.toNat).toNat) else ((M.1 75 0 (M.1 53 0 x3.toNat).toNat) + (M.1 55 0 x3.toNat)) : Int), vI (M.1 54 0 x3.toNat), vR (some (75, 0))] by simp only [if_neg c_7]) rfl)

def farF (Q : QT) (x p : Nat) : Int := if dist Q x p < 1000 then dist Q x p else 9999
theorem farF_in {Q : QT} (h : WFr Q) {x p : Nat} (hx : x < 8) (hp : p < 8) : (0 ≤ farF Q x p ∧ farF Q x p ≤ 63 ∧ farF Q x p = dist Q x p ∧ dist Q x p < 1000) ∨ (farF Q x p = 9999 ∧ 1000 ≤ dist Q x p) := by
  have h1 := Dk_nn h 8 x p
  unfold farF
  by_cases c : dist Q x p < 1000
  · rw [if_pos c]
    have := dist_le h hx hp c
    unfold dist at *
    omega
  · rw [if_neg c]
    omega
theorem farF_road {Q : QT} (h : WFr Q) {x a b k : Nat} (hx : x < 8) (ha : a < 8) (hb : b < 8) (e : ro Q (a : Int) (b : Int) = some k) : farF Q x b ≤ farF Q x a + rd Q a b := by
  have h1 := farF_in h hx ha
  have h2 := farF_in h hx hb
  have h3 := dist_tri h (a := x) ha e
  have h4 := rd_in h (a : Int) (b : Int)
  omega
/-- one road -/
def stR (Q : QT) (k : Nat) (F : Nat → Int) : Nat → Int :=
  let a := (Q 53 k).toNat
  let b := (Q 54 k).toNat
  let y := if F b ≤ F a + Q 55 k then F b else F a + Q 55 k
  fun j => if j = a then (if F a ≤ y + Q 55 k then F a else y + Q 55 k) else if j = b then y else F j
def okF (Q : QT) (x : Nat) (F : Nat → Int) : Prop := ∀ i, i < 8 → farF Q x i ≤ F i ∧ F i ≤ 9999
def rnd (Q : QT) (F0 F : Nat → Int) (k : Nat) : Prop := (∀ i, i < 8 → F i ≤ F0 i) ∧ (∀ i, 8 ≤ i → F i = F0 i) ∧ ∀ j, j < k → F (Q 54 j).toNat ≤ F0 (Q 53 j).toNat + Q 55 j ∧ F (Q 53 j).toNat ≤ F0 (Q 54 j).toNat + Q 55 j
theorem rd_at {Q : QT} (h : WFr Q) {k : Nat} (hk : k < nRd Q) : ∃ a b : Nat, a < 8 ∧ b < 8 ∧ a ≠ b ∧ Q 53 k = a ∧ Q 54 k = b ∧ ro Q (a : Int) (b : Int) = some k ∧ rd Q a b = Q 55 k ∧ 1 ≤ Q 55 k ∧ Q 55 k ≤ 9 := by
  obtain ⟨h1, h2, h3, h4, h5⟩ := h.2 k hk
  have e1 : Q 53 k = ((Q 53 k).toNat : Int) := by omega
  have e2 : Q 54 k = ((Q 54 k).toNat : Int) := by omega
  rw [e1, e2] at h5
  refine ⟨(Q 53 k).toNat, (Q 54 k).toNat, by omega, by omega, by omega, e1, e2, h5, ?_, h4.1, h4.2⟩
  unfold rd
  rw [h5]
theorem stR_le {Q : QT} (F : Nat → Int) (k i : Nat) : stR Q k F i ≤ F i := by
  unfold stR
  by_cases c : i = (Q 53 k).toNat
  · rw [if_pos c, ← c]; split <;> omega
  · rw [if_neg c]
    by_cases c2 : i = (Q 54 k).toNat
    · rw [if_pos c2, ← c2]; split <;> omega
    · rw [if_neg c2]; exact Int.le_refl _
theorem stR_rnd {Q : QT} {x : Nat} (h : WFr Q) (hx : x < 8) {F0 F : Nat → Int} {k : Nat} (hk : k < nRd Q) (ho : okF Q x F) (hr : rnd Q F0 F k) : okF Q x (stR Q k F) ∧ rnd Q F0 (stR Q k F) (k + 1) := by
  obtain ⟨a, b, ha, hb, hab, ea, eb, er, ed, h1, h9⟩ := rd_at h hk
  have t1 := farF_road h hx ha hb er
  have t2 := farF_road h hx hb ha (by rw [ro_sym]; exact er)
  rw [rd_sym Q b a] at t2
  rw [ed] at t1 t2
  have oa := ho a ha
  have ob := ho b hb
  have ra := hr.1 a ha
  have rb := hr.1 b hb
  have ea' : (Q 53 k).toNat = a := by omega
  have eb' : (Q 54 k).toNat = b := by omega
  have sa : stR Q k F a = if F a ≤ (if F b ≤ F a + Q 55 k then F b else F a + Q 55 k) + Q 55 k then F a else (if F b ≤ F a + Q 55 k then F b else F a + Q 55 k) + Q 55 k := by
    unfold stR; rw [ea', eb', if_pos rfl]
  have sb : stR Q k F b = if F b ≤ F a + Q 55 k then F b else F a + Q 55 k := by
    unfold stR; rw [ea', eb', if_neg (show ¬ b = a by omega), if_pos rfl]
  have sj : ∀ j, j ≠ a → j ≠ b → stR Q k F j = F j := fun j n1 n2 => by
    unfold stR; rw [ea', eb', if_neg n1, if_neg n2]
  have la := stR_le (Q := Q) F k a
  have lb := stR_le (Q := Q) F k b
  have fb : farF Q x b ≤ stR Q k F b ∧ stR Q k F b ≤ F a + Q 55 k := by rw [sb]; split <;> omega
  have fa : farF Q x a ≤ stR Q k F a ∧ stR Q k F a ≤ stR Q k F b + Q 55 k := by rw [sa, ← sb]; split <;> omega
  refine ⟨fun i hi => ?_, fun i hi => ?_, fun i hi => by rw [sj i (by omega) (by omega)]; exact hr.2.1 i hi, fun j hj => ?_⟩
  · by_cases c1 : i = a
    · rw [c1]; omega
    · by_cases c2 : i = b
      · rw [c2]; omega
      · rw [sj i c1 c2]; exact ho i hi
  · have := stR_le (Q := Q) F k i
    have := hr.1 i hi
    omega
  · by_cases c : j = k
    · rw [c, ea', eb']; omega
    · have hj2 := hr.2.2 j (by omega)
      have g1 := stR_le (Q := Q) F k (Q 54 j).toNat
      have g2 := stR_le (Q := Q) F k (Q 53 j).toNat
      omega
def rgt (Q : QT) (x : Nat) (F : Nat → Int) : Nat → Bool := fun i => decide (F i = farF Q x i)
theorem rgt_new {Q : QT} {x : Nat} (h : WFr Q) (hx : x < 8) {F0 F : Nat → Int} (h0 : okF Q x F0) (ho : okF Q x F) (hz : F0 x = 0) (hr : rnd Q F0 F (nRd Q)) : ∀ (m p : Nat), p < 8 → rgt Q x F0 p = false → farF Q x p ≤ m → ∃ j, j < 8 ∧ rgt Q x F j = true ∧ rgt Q x F0 j = false := by
  intro m
  induction m with
  | zero =>
    intro p hp hw hm
    exfalso
    have h1 := farF_in h hx hp
    have hne : x ≠ p := fun e => by
      subst e
      unfold rgt at hw
      have := (Dk_self h 8 x).1
      have h2 := of_decide_eq_false hw
      unfold dist at h1
      omega
    have := ((Dk_self h 8 x).2 p).1 hne
    unfold dist at h1
    omega
  | succ m ih =>
    intro p hp hw hm
    have h1 := farF_in h hx hp
    have hw2 : ¬ F0 p = farF Q x p := of_decide_eq_false hw
    have h2 := h0 p hp
    have hne : x ≠ p := fun e => by
      subst e
      have := (Dk_self h 8 x).1
      unfold dist at h1
      omega
    obtain ⟨c, hc, ⟨j, hj⟩, he⟩ := dist_pre h hx hp hne (by omega)
    have hpos := rd_pos h hj
    have h3 := farF_in h hx hc
    by_cases hcw : rgt Q x F0 c = false
    · exact ih c hc hcw (by omega)
    · have hcr : F0 c = farF Q x c := by
        by_cases e : F0 c = farF Q x c
        · exact e
        · exact absurd (decide_eq_false e) hcw
      refine ⟨p, hp, ?_, hw⟩
      have hk := rkF_some hj
      have ed : rd Q c p = Q 55 j := by unfold rd; rw [hj]
      have hj2 := hr.2.2 j hk.1
      have h4 := ho p hp
      refine decide_eq_true ?_
      rcases hk.2 with ⟨e1, e2⟩ | ⟨e1, e2⟩
      · rw [e1, e2] at hj2
        simp only [Int.toNat_natCast] at hj2
        omega
      · rw [e1, e2] at hj2
        simp only [Int.toNat_natCast] at hj2
        omega
theorem rgt_keep {Q : QT} {x : Nat} {F0 F : Nat → Int} {k : Nat} (ho : okF Q x F) (hr : rnd Q F0 F k) : ∀ i, i < 8 → rgt Q x F0 i = true → rgt Q x F i = true := fun i hi e => by
  have e1 : F0 i = farF Q x i := of_decide_eq_true e
  have := ho i hi
  have := hr.1 i hi
  exact decide_eq_true (by omega)
theorem rgt_more {Q : QT} {x : Nat} (h : WFr Q) (hx : x < 8) {F0 F : Nat → Int} {n : Nat} (hn : n < 8) (h0 : okF Q x F0) (ho : okF Q x F) (hz : F0 x = 0) (hr : rnd Q F0 F (nRd Q)) (hc : n ≤ cnt (rgt Q x F0) 8) : n + 1 ≤ cnt (rgt Q x F) 8 := by
  by_cases e : 8 ≤ cnt (rgt Q x F0) 8
  · have := cnt_mono (rgt_keep (Q := Q) (x := x) ho hr)
    omega
  · by_cases w : ∃ p, p < 8 ∧ rgt Q x F0 p = false
    · obtain ⟨p, hp, hw⟩ := w
      obtain ⟨j, hj, h1, h2⟩ := rgt_new h hx h0 ho hz hr (farF Q x p).toNat p hp hw (by omega)
      have := cnt_lt (rgt_keep (Q := Q) (x := x) ho hr) hj h1 h2
      omega
    · exfalso
      have := cnt_mono (p := fun _ => true) (q := rgt Q x F0) (n := 8) (fun i hi _ => by
        cases e2 : rgt Q x F0 i with
        | true => rfl
        | false => exact absurd ⟨i, hi, e2⟩ w)
      have h8 : cnt (fun _ => true) 8 = 8 := rfl
      omega
theorem HoldsR.se {Q : QT} {I : IM} {F : Nat → Int} (h : HoldsR Q I) : HoldsR Q (seI I 75 0 F) := fun f i hf => by
  rw [← h f i hf]
  unfold seI
  rw [if_neg (show ¬ f = 75 by omega)]
section SP
variable {l : Launch} {G : Gt} {d : Nat} {Q : QT} {M : Mem} {x : Nat}
theorem spR (hS : Sh M.2.1) (hw : WFr Q) (hH : HoldsR Q M.1) (hx : x < 8) (n : Nat) (F0 : Nat → Int) {M' : Mem} (hn : n < 8)
    (next : ∀ F, okF Q x F → rnd Q F0 F (nRd Q) → Ex l G d mX12_spreads 34 [some (vR (some (3, 0))), some (vI (x : Int)), some (vI ((n : Int) + 1)), none, none, none] [] (seI M.1 75 0 F, M.2.1, M.2.2) none M') : ∀ F, okF Q x F → rnd Q F0 F 0 → Ex l G d mX12_spreads 42 [some (vR (some (3, 0))), some (vI (x : Int)), some (vI (n : Int)), some (vI 0), none, none] [] (seI M.1 75 0 F, M.2.1, M.2.2) none M' := by
  have h16 := hw.1
  have hnn : Q 48 1 = (nRd Q : Int) := by unfold nRd; omega
  refine loopUp (P := fun k => ∀ F, okF Q x F → rnd Q F0 F k → Ex l G d mX12_spreads 42 [some (vR (some (3, 0))), some (vI (x : Int)), some (vI (n : Int)), some (vI (k : Int)), none, none] [] (seI M.1 75 0 F, M.2.1, M.2.2) none M') 0 (nRd Q) (Nat.zero_le _) ?_ ?_
  · intro k _ hk ih F ho hr
    have hq := hH.se (F := F)
    obtain ⟨a, b, ha, hb, hab, ea, eb, er, ed, h1, h9⟩ := rd_at hw hk
    have q1 : seI M.1 75 0 F 48 0 1 = nRd Q := (hq 48 1 (by omega)).trans hnn
    have q2 : seI M.1 75 0 F 53 0 k = a := (hq 53 k (by omega)).trans ea
    have q3 : seI M.1 75 0 F 54 0 k = b := (hq 54 k (by omega)).trans eb
    have q4 : seI M.1 75 0 F 55 0 k = Q 55 k := hq 55 k (by omega)
    have oa := ho a ha
    have ob := ho b hb
    have ga := farF_in hw hx ha
    have gb := farF_in hw hx hb
    have hst := stR_rnd hw hx hk ho hr
    have hn2 := ih _ hst.1 hst.2
    refine xX12_spreads_42 hS ⟨fun c => ?_, fun _ => ?_⟩
    · dsimp only at c; rw [q1] at c; omega
    · dsimp only
      simp only [Int.toNat_natCast, q2, q3, q4, seI_s, upI_seI]
      have em : (fun j => if j = a then (if (if a = b then (if F b ≤ F a + Q 55 k then F b else F a + Q 55 k) else F a) ≤ (if F b ≤ F a + Q 55 k then F b else F a + Q 55 k) + Q 55 k then (if a = b then (if F b ≤ F a + Q 55 k then F b else F a + Q 55 k) else F a) else (if F b ≤ F a + Q 55 k then F b else F a + Q 55 k) + Q 55 k) else if j = b then (if F b ≤ F a + Q 55 k then F b else F a + Q 55 k) else F j) = stR Q k F := by
        funext j
        unfold stR
        rw [ea, eb, Int.toNat_natCast, Int.toNat_natCast, if_neg hab]
      have hy : InR ((if F b ≤ F a + Q 55 k then F b else F a + Q 55 k) + Q 55 k) := by unfold InR; split <;> omega
      have hz : InR (F a + Q 55 k) := by unfold InR; omega
      have hi : InR ((k : Int) + 1) := by unfold InR; omega
      refine ⟨⟨by omega, by omega, hz, by omega⟩, ⟨fun _ => by omega, fun _ => ⟨by omega, by omega, hz⟩⟩, ⟨by omega, by omega, hy, by omega⟩, ⟨fun _ => by omega, fun _ => ⟨by omega, by omega, hy⟩⟩, ⟨by omega, hi⟩, ?_⟩
      rw [em]
      exact hn2
  · intro F ho hr
    have q1 : seI M.1 75 0 F 48 0 1 = nRd Q := (hH.se (F := F) 48 1 (by omega)).trans hnn
    refine xX12_spreads_42 hS ⟨fun _ => ⟨by unfold InR; omega, next F ho hr⟩, fun c => absurd ?_ c⟩
    dsimp only
    rw [q1]
    exact Int.le_refl _
end SP
