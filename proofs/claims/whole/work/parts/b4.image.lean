/-! image, back: the class -/
set_option maxRecDepth 4000 in
theorem xX5_copyFrom_0 {l : Launch} {G : Gt} {d : Nat} {M M' : Mem} {r : Option Vl} {k0 : Nat} {k1 : Nat} (hne : k1 ≠ k0) (h : 
    r = none ∧ M' = ((upI (upI (upI (upI (upI (upI (upI (upI (upI (upI (upI M.1 5 k0 1 (M.1 5 k1 1)) 5 k0 2 (M.1 5 k1 2)) 5 k0 3 (M.1 5 k1 3)) 5 k0 4 (M.1 5 k1 4)) 5 k0 5 (M.1 5 k1 5)) 5 k0 6 (M.1 5 k1 6)) 5 k0 7 (M.1 5 k1 7)) 5 k0 8 (M.1 5 k1 8)) 5 k0 9 (M.1 5 k1 9)) 5 k0 10 (M.1 5 k1 10)) 5 k0 11 (M.1 5 k1 11)), (upR M.2.1 5 k0 0 (M.2.1 5 k1 0)), M.2.2)) : Cl l G d mX5_copyFrom [vR (some (5, k0)), vR (some (5, k1))] M r M' := by
  show Ex l G d mX5_copyFrom 0 [some (vR (some (5, k0))), some (vR (some (5, k1)))] [] M r M'
  refine r_aload_n 1 dX5_copyFrom_0 rfl rfl ?_
  refine r_aload_n 2 dX5_copyFrom_1 rfl rfl ?_
  refine g_R 5 dX5_copyFrom_2 rfl rfl rfl fr_5_15 rfl ?_
  refine p_R 8 dX5_copyFrom_5 rfl rfl rfl rfl pf_5_15 (.inl rfl) rfl ?_
  refine r_aload_n 9 dX5_copyFrom_8 rfl rfl ?_
  refine r_aload_n 10 dX5_copyFrom_9 rfl rfl ?_
  refine g_I 13 dX5_copyFrom_10 rfl rfl rfl fi_5_19 (mI_0 rfl) ?_
  refine p_I 16 dX5_copyFrom_13 rfl rfl rfl rfl pf_5_19 (.inl rfl) rfl ?_
  refine r_aload_n 17 dX5_copyFrom_16 rfl rfl ?_
  refine r_aload_n 18 dX5_copyFrom_17 rfl rfl ?_
  refine g_I 21 dX5_copyFrom_18 rfl rfl rfl fi_5_22 (mI_0 (upI_k hne)) ?_
  refine p_I 24 dX5_copyFrom_21 rfl rfl rfl rfl pf_5_22 (.inl rfl) rfl ?_
  refine r_aload_n 25 dX5_copyFrom_24 rfl rfl ?_
  refine r_aload_n 26 dX5_copyFrom_25 rfl rfl ?_
  refine g_I 29 dX5_copyFrom_26 rfl rfl rfl fi_5_25 (mI_0 ((upI_k hne).trans (upI_k hne))) ?_
  refine p_I 32 dX5_copyFrom_29 rfl rfl rfl rfl pf_5_25 (.inl rfl) rfl ?_
  refine r_aload_n 33 dX5_copyFrom_32 rfl rfl ?_
  refine r_aload_n 34 dX5_copyFrom_33 rfl rfl ?_
  refine g_I 37 dX5_copyFrom_34 rfl rfl rfl fi_5_28 (mI_0 ((upI_k hne).trans ((upI_k hne).trans (upI_k hne)))) ?_
  refine p_I 40 dX5_copyFrom_37 rfl rfl rfl rfl pf_5_28 (.inl rfl) rfl ?_
  refine r_aload_n 41 dX5_copyFrom_40 rfl rfl ?_
  refine r_aload_n 42 dX5_copyFrom_41 rfl rfl ?_
  refine g_I 45 dX5_copyFrom_42 rfl rfl rfl fi_5_34 (mI_0 ((upI_k hne).trans ((upI_k hne).trans ((upI_k hne).trans (upI_k hne))))) ?_
  refine p_I 48 dX5_copyFrom_45 rfl rfl rfl rfl pf_5_34 (.inl rfl) rfl ?_
  refine r_aload_n 49 dX5_copyFrom_48 rfl rfl ?_
  refine r_aload_n 50 dX5_copyFrom_49 rfl rfl ?_
  refine g_I 53 dX5_copyFrom_50 rfl rfl rfl fi_5_37 (mI_0 ((upI_k hne).trans ((upI_k hne).trans ((upI_k hne).trans ((upI_k hne).trans (upI_k hne)))))) ?_
  refine p_I 56 dX5_copyFrom_53 rfl rfl rfl rfl pf_5_37 (.inl rfl) rfl ?_
  refine r_aload_n 57 dX5_copyFrom_56 rfl rfl ?_
  refine r_aload_n 58 dX5_copyFrom_57 rfl rfl ?_
  refine g_I 61 dX5_copyFrom_58 rfl rfl rfl fi_5_40 (mI_0 ((upI_k hne).trans ((upI_k hne).trans ((upI_k hne).trans ((upI_k hne).trans ((upI_k hne).trans (upI_k hne))))))) ?_
  refine p_I 64 dX5_copyFrom_61 rfl rfl rfl rfl pf_5_40 (.inl rfl) rfl ?_
  refine r_aload_n 65 dX5_copyFrom_64 rfl rfl ?_
  refine r_aload_n 66 dX5_copyFrom_65 rfl rfl ?_
  refine g_I 69 dX5_copyFrom_66 rfl rfl rfl fi_5_9 (mI_0 ((upI_k hne).trans ((upI_k hne).trans ((upI_k hne).trans ((upI_k hne).trans ((upI_k hne).trans ((upI_k hne).trans (upI_k hne)))))))) ?_
  refine p_I 72 dX5_copyFrom_69 rfl rfl rfl rfl pf_5_9 (.inl rfl) rfl ?_
  refine r_aload_n 73 dX5_copyFrom_72 rfl rfl ?_
  refine r_aload_n 74 dX5_copyFrom_73 rfl rfl ?_
  refine g_I 77 dX5_copyFrom_74 rfl rfl rfl fi_5_43 (mI_0 ((upI_k hne).trans ((upI_k hne).trans ((upI_k hne).trans ((upI_k hne).trans ((upI_k hne).trans ((upI_k hne).trans ((upI_k hne).trans (upI_k hne))))))))) ?_
  refine p_I 80 dX5_copyFrom_77 rfl rfl rfl rfl pf_5_43 (.inl rfl) rfl ?_
  refine r_aload_n 81 dX5_copyFrom_80 rfl rfl ?_
  refine r_aload_n 82 dX5_copyFrom_81 rfl rfl ?_
  refine g_I 85 dX5_copyFrom_82 rfl rfl rfl fi_5_46 (mI_0 ((upI_k hne).trans ((upI_k hne).trans ((upI_k hne).trans ((upI_k hne).trans ((upI_k hne).trans ((upI_k hne).trans ((upI_k hne).trans ((upI_k hne).trans (upI_k hne)))))))))) ?_
  refine p_I 88 dX5_copyFrom_85 rfl rfl rfl rfl pf_5_46 (.inl rfl) rfl ?_
  refine r_aload_n 89 dX5_copyFrom_88 rfl rfl ?_
  refine r_aload_n 90 dX5_copyFrom_89 rfl rfl ?_
  refine g_I 93 dX5_copyFrom_90 rfl rfl rfl fi_5_49 (mI_0 ((upI_k hne).trans ((upI_k hne).trans ((upI_k hne).trans ((upI_k hne).trans ((upI_k hne).trans ((upI_k hne).trans ((upI_k hne).trans ((upI_k hne).trans ((upI_k hne).trans (upI_k hne))))))))))) ?_
  refine p_I 96 dX5_copyFrom_93 rfl rfl rfl rfl pf_5_49 (.inl rfl) rfl ?_
  exact r_vret dX5_copyFrom_96 rfl h.1 h.2

set_option maxRecDepth 4000 in
theorem xX8_copyFrom_0 {l : Launch} {G : Gt} {d : Nat} {M M' : Mem} {r : Option Vl} {k0 : Nat} {k1 : Nat} (hne : k1 ≠ k0) (hS : Sh M.2.1) (h : 
    Ex l G (d + 1) mX8_copyFrom 140 [some (vR (some (4, k0))), some (vR (some (4, k1))), some (vI 0)] [] ((cpI (cpI (cpI (cpI (cpI (cpI (upI (upI (upI (upI (upI (upI M.1 4 k0 0 (M.1 4 k1 0)) 4 k0 2 (M.1 4 k1 2)) 4 k0 4 (M.1 4 k1 4)) 4 k0 8 (M.1 4 k1 8)) 4 k0 10 (M.1 4 k1 10)) 4 k0 11 (M.1 4 k1 11)) 33 k1 33 k0 0 0 12) 34 k1 34 k0 0 0 64) 35 k1 35 k0 0 0 60) 36 k1 36 k0 0 0 12) 37 k1 37 k0 0 0 17) 39 k1 39 k0 0 0 20), M.2.1, M.2.2) r M') : Cl l G (d + 1) mX8_copyFrom [vR (some (4, k0)), vR (some (4, k1))] M r M' := by
  show Ex l G (d + 1) mX8_copyFrom 0 [some (vR (some (4, k0))), some (vR (some (4, k1))), none] [] M r M'
  refine r_aload_n 1 dX8_copyFrom_0 rfl rfl ?_
  refine r_aload_n 2 dX8_copyFrom_1 rfl rfl ?_
  refine g_I 5 dX8_copyFrom_2 rfl rfl rfl fi_8_43 rfl ?_
  refine p_I 8 dX8_copyFrom_5 rfl rfl rfl rfl pf_8_43 (.inl rfl) rfl ?_
  refine r_aload_n 9 dX8_copyFrom_8 rfl rfl ?_
  refine r_aload_n 10 dX8_copyFrom_9 rfl rfl ?_
  refine g_I 13 dX8_copyFrom_10 rfl rfl rfl fi_8_47 (mI_0 (upI_k hne)) ?_
  refine p_I 16 dX8_copyFrom_13 rfl rfl rfl rfl pf_8_47 (.inl rfl) rfl ?_
  refine r_aload_n 17 dX8_copyFrom_16 rfl rfl ?_
  refine r_aload_n 18 dX8_copyFrom_17 rfl rfl ?_
  refine g_I 21 dX8_copyFrom_18 rfl rfl rfl fi_8_50 (mI_0 ((upI_k hne).trans (upI_k hne))) ?_
  refine p_I 24 dX8_copyFrom_21 rfl rfl rfl rfl pf_8_50 (.inl rfl) rfl ?_
  refine r_aload_n 25 dX8_copyFrom_24 rfl rfl ?_
  refine r_aload_n 26 dX8_copyFrom_25 rfl rfl ?_
  refine g_I 29 dX8_copyFrom_26 rfl rfl rfl fi_8_53 (mI_0 ((upI_k hne).trans ((upI_k hne).trans (upI_k hne)))) ?_
  refine p_I 32 dX8_copyFrom_29 rfl rfl rfl rfl pf_8_53 (.inl rfl) rfl ?_
  refine r_aload_n 33 dX8_copyFrom_32 rfl rfl ?_
  refine r_aload_n 34 dX8_copyFrom_33 rfl rfl ?_
  refine g_I 37 dX8_copyFrom_34 rfl rfl rfl fi_8_56 (mI_0 ((upI_k hne).trans ((upI_k hne).trans ((upI_k hne).trans (upI_k hne))))) ?_
  refine p_I 40 dX8_copyFrom_37 rfl rfl rfl rfl pf_8_56 (.inl rfl) rfl ?_
  refine r_aload_n 41 dX8_copyFrom_40 rfl rfl ?_
  refine r_aload_n 42 dX8_copyFrom_41 rfl rfl ?_
  refine g_I 45 dX8_copyFrom_42 rfl rfl rfl fi_8_59 (mI_0 ((upI_k hne).trans ((upI_k hne).trans ((upI_k hne).trans ((upI_k hne).trans (upI_k hne)))))) ?_
  refine p_I 48 dX8_copyFrom_45 rfl rfl rfl rfl pf_8_59 (.inl rfl) rfl ?_
  refine r_aload_n 49 dX8_copyFrom_48 rfl rfl ?_
  refine g_R 52 dX8_copyFrom_49 rfl rfl rfl fr_8_9 (mR_0 (sh_8_1 hS _)) ?_
  refine r_iconst 53 dX8_copyFrom_52 rfl (InR_of rfl) ?_
  refine r_aload_n 54 dX8_copyFrom_53 rfl rfl ?_
  refine g_R 57 dX8_copyFrom_54 rfl rfl rfl fr_8_9 (mR_0 (sh_8_1 hS _)) ?_
  refine r_iconst 58 dX8_copyFrom_57 rfl (InR_of rfl) ?_
  refine r_bipush 60 dX8_copyFrom_58 rfl rfl ?_
  refine cp_y 12 12 63 dX8_copyFrom_60 rfl rfl rfl ⟨(inT5 (List.mem_of_getElem? (i := 95) rfl) rfl), (inT3 (List.mem_of_getElem? (i := 171) rfl) rfl), (inT3 (List.mem_of_getElem? (i := 170) rfl) rfl), (inT1 (List.mem_of_getElem? (i := 19) rfl) rfl)⟩ rfl rfl rfl rfl rfl ⟨by decide, by decide, by decide, by decide, by decide⟩ rfl ?_
  refine r_aload_n 64 dX8_copyFrom_63 rfl rfl ?_
  refine g_R 67 dX8_copyFrom_64 rfl rfl rfl fr_8_15 (mR_0 (sh_8_3 hS _)) ?_
  refine r_iconst 68 dX8_copyFrom_67 rfl (InR_of rfl) ?_
  refine r_aload_n 69 dX8_copyFrom_68 rfl rfl ?_
  refine g_R 72 dX8_copyFrom_69 rfl rfl rfl fr_8_15 (mR_0 (sh_8_3 hS _)) ?_
  refine r_iconst 73 dX8_copyFrom_72 rfl (InR_of rfl) ?_
  refine r_bipush 75 dX8_copyFrom_73 rfl rfl ?_
  refine cp_y 64 64 78 dX8_copyFrom_75 rfl rfl rfl ⟨(inT5 (List.mem_of_getElem? (i := 95) rfl) rfl), (inT3 (List.mem_of_getElem? (i := 171) rfl) rfl), (inT3 (List.mem_of_getElem? (i := 170) rfl) rfl), (inT1 (List.mem_of_getElem? (i := 19) rfl) rfl)⟩ rfl rfl rfl rfl rfl ⟨by decide, by decide, by decide, by decide, by decide⟩ rfl ?_
  refine r_aload_n 79 dX8_copyFrom_78 rfl rfl ?_
  refine g_R 82 dX8_copyFrom_79 rfl rfl rfl fr_8_18 (mR_0 (sh_8_5 hS _)) ?_
  refine r_iconst 83 dX8_copyFrom_82 rfl (InR_of rfl) ?_
  refine r_aload_n 84 dX8_copyFrom_83 rfl rfl ?_
  refine g_R 87 dX8_copyFrom_84 rfl rfl rfl fr_8_18 (mR_0 (sh_8_5 hS _)) ?_
  refine r_iconst 88 dX8_copyFrom_87 rfl (InR_of rfl) ?_
  refine r_bipush 90 dX8_copyFrom_88 rfl rfl ?_
  refine cp_y 60 60 93 dX8_copyFrom_90 rfl rfl rfl ⟨(inT5 (List.mem_of_getElem? (i := 95) rfl) rfl), (inT3 (List.mem_of_getElem? (i := 171) rfl) rfl), (inT3 (List.mem_of_getElem? (i := 170) rfl) rfl), (inT1 (List.mem_of_getElem? (i := 19) rfl) rfl)⟩ rfl rfl rfl rfl rfl ⟨by decide, by decide, by decide, by decide, by decide⟩ rfl ?_
  refine r_aload_n 94 dX8_copyFrom_93 rfl rfl ?_
  refine g_R 97 dX8_copyFrom_94 rfl rfl rfl fr_8_21 (mR_0 (sh_8_6 hS _)) ?_
  refine r_iconst 98 dX8_copyFrom_97 rfl (InR_of rfl) ?_
  refine r_aload_n 99 dX8_copyFrom_98 rfl rfl ?_
  refine g_R 102 dX8_copyFrom_99 rfl rfl rfl fr_8_21 (mR_0 (sh_8_6 hS _)) ?_
  refine r_iconst 103 dX8_copyFrom_102 rfl (InR_of rfl) ?_
  refine r_bipush 105 dX8_copyFrom_103 rfl rfl ?_
  refine cp_y 12 12 108 dX8_copyFrom_105 rfl rfl rfl ⟨(inT5 (List.mem_of_getElem? (i := 95) rfl) rfl), (inT3 (List.mem_of_getElem? (i := 171) rfl) rfl), (inT3 (List.mem_of_getElem? (i := 170) rfl) rfl), (inT1 (List.mem_of_getElem? (i := 19) rfl) rfl)⟩ rfl rfl rfl rfl rfl ⟨by decide, by decide, by decide, by decide, by decide⟩ rfl ?_
  refine r_aload_n 109 dX8_copyFrom_108 rfl rfl ?_
  refine g_R 112 dX8_copyFrom_109 rfl rfl rfl fr_8_24 (mR_0 (sh_8_7 hS _)) ?_
  refine r_iconst 113 dX8_copyFrom_112 rfl (InR_of rfl) ?_
  refine r_aload_n 114 dX8_copyFrom_113 rfl rfl ?_
  refine g_R 117 dX8_copyFrom_114 rfl rfl rfl fr_8_24 (mR_0 (sh_8_7 hS _)) ?_
  refine r_iconst 118 dX8_copyFrom_117 rfl (InR_of rfl) ?_
  refine r_bipush 120 dX8_copyFrom_118 rfl rfl ?_
  refine cp_y 17 17 123 dX8_copyFrom_120 rfl rfl rfl ⟨(inT5 (List.mem_of_getElem? (i := 95) rfl) rfl), (inT3 (List.mem_of_getElem? (i := 171) rfl) rfl), (inT3 (List.mem_of_getElem? (i := 170) rfl) rfl), (inT1 (List.mem_of_getElem? (i := 19) rfl) rfl)⟩ rfl rfl rfl rfl rfl ⟨by decide, by decide, by decide, by decide, by decide⟩ rfl ?_
  refine r_aload_n 124 dX8_copyFrom_123 rfl rfl ?_
  refine g_R 127 dX8_copyFrom_124 rfl rfl rfl fr_8_33 (mR_0 (sh_8_12 hS _)) ?_
  refine r_iconst 128 dX8_copyFrom_127 rfl (InR_of rfl) ?_
  refine r_aload_n 129 dX8_copyFrom_128 rfl rfl ?_
  refine g_R 132 dX8_copyFrom_129 rfl rfl rfl fr_8_33 (mR_0 (sh_8_12 hS _)) ?_
  refine r_iconst 133 dX8_copyFrom_132 rfl (InR_of rfl) ?_
  refine r_bipush 135 dX8_copyFrom_133 rfl rfl ?_
  refine cp_y 20 20 138 dX8_copyFrom_135 rfl rfl rfl ⟨(inT5 (List.mem_of_getElem? (i := 95) rfl) rfl), (inT3 (List.mem_of_getElem? (i := 171) rfl) rfl), (inT3 (List.mem_of_getElem? (i := 170) rfl) rfl), (inT1 (List.mem_of_getElem? (i := 19) rfl) rfl)⟩ rfl rfl rfl rfl rfl ⟨by decide, by decide, by decide, by decide, by decide⟩ rfl ?_
  refine r_iconst 139 dX8_copyFrom_138 rfl (InR_of rfl) ?_
  refine r_istore_n (ls' := [some (vR (some (4, k0))), some (vR (some (4, k1))), some (vI 0)]) 140 dX8_copyFrom_139 rfl rfl rfl rfl ?_
  exact h
set_option maxRecDepth 4000 in
theorem xX8_copyFrom_140 {l : Launch} {G : Gt} {d : Nat} {M M' : Mem} {r : Option Vl} {k0 : Nat} {k1 : Nat} {x2 : Int} (hne : k1 ≠ k0) (hS : Sh M.2.1) (h : 
    (8 ≤ x2 → r = none ∧ M' = M) ∧ (¬ (8 ≤ x2) → ((0 ≤ x2 ∧ x2 < 8)) ∧ (∃ k_2 : Nat, (M.2.1 38 k0 x2.toNat) = some (5, k_2) ∧ (∃ k_4 : Nat, (M.2.1 38 k1 x2.toNat) = some (5, k_4) ∧ (∃ (M_6 : Mem), Cl l G d mX5_copyFrom [vR (some (5, k_2)), vR (some (5, k_4))] M none M_6 ∧ (InR (x2 + 1)) ∧ Ex l G (d + 1) mX8_copyFrom 140 [some (vR (some (4, k0))), some (vR (some (4, k1))), some (vI (x2 + 1))] [] M_6 r M'))))) : Ex l G (d + 1) mX8_copyFrom 140 [some (vR (some (4, k0))), some (vR (some (4, k1))), some (vI x2)] [] M r M' := by
  refine r_iload_n 141 dX8_copyFrom_140 rfl rfl ?_
  refine r_bipush 143 dX8_copyFrom_141 rfl rfl ?_
  refine r_icmp_ge 146 167 dX8_copyFrom_143 rfl rfl (fun c => ?_) (fun c => ?_)
  · have h := h.1 (c)
    exact r_vret dX8_copyFrom_167 rfl h.1 h.2
  · have h := h.2 (c)
    obtain ⟨o_1, h⟩ := h
    refine r_aload_n 147 dX8_copyFrom_146 rfl rfl ?_
    refine g_R 150 dX8_copyFrom_147 rfl rfl rfl fr_8_29 (sh_8_9 hS _) ?_
    refine r_iload_n 151 dX8_copyFrom_150 rfl rfl ?_
    refine a_R (ci := 5) 8 152 dX8_copyFrom_151 rfl rfl rfl rfl rfl o_1 rfl ?_
    refine r_aload_n 153 dX8_copyFrom_152 rfl rfl ?_
    refine g_R 156 dX8_copyFrom_153 rfl rfl rfl fr_8_29 (sh_8_9 hS _) ?_
    refine r_iload_n 157 dX8_copyFrom_156 rfl rfl ?_
    refine a_R (ci := 5) 8 158 dX8_copyFrom_157 rfl rfl rfl rfl rfl o_1 rfl ?_
    obtain ⟨k_2, e_3, h⟩ := h
    obtain ⟨k_4, e_5, h⟩ := h
    refine Ex.at (st2 := [vR (some (5, k_4)), vR (some (5, k_2))]) ?_ rfl (show [vR (M.2.1 38 k1 x2.toNat), vR (M.2.1 38 k0 x2.toNat)] = [vR (some (5, k_4)), vR (some (5, k_2))] by rw [e_3, e_5]) rfl
    obtain ⟨M_6, hc_7, h⟩ := h
    refine v_0 (ci := 5) (C := (RX5, TX5, 12)) [vR (some (5, k_4))] [] 161 dX8_copyFrom_158 rfl rfl rfl rfl rfl mo_X5_copyFrom ml_8_68 rfl rfl hc_7 ?_
    obtain ⟨o_8, h⟩ := h
    refine r_iinc (ls' := [some (vR (some (4, k0))), some (vR (some (4, k1))), some (vI (x2 + 1))]) 164 dX8_copyFrom_161 rfl rfl rfl rfl o_8 rfl ?_
    refine r_goto 140 dX8_copyFrom_164 rfl ?_
    exact h

set_option maxRecDepth 4000 in
theorem xX11_image_0 {l : Launch} {G : Gt} {d : Nat} {M M' : Mem} {r : Option Vl} {x1 : Int} (hS : Sh M.2.1) (h : 
    (x1 < 0 → r = some (vI (-1)) ∧ M' = M) ∧ (¬ (x1 < 0) → (x1 < 4 → ((0 ≤ x1 ∧ x1 < 4)) ∧ ((¬ ((M.2.1 17 0 x1.toNat) = none) → ∃ k_2 : Nat, (M.2.1 17 0 x1.toNat) = some (4, k_2) ∧ (∃ (M_4 : Mem), Cl l G d mX8_copyFrom [vR (some (4, k_2)), vR (some (4, 0))] M none M_4 ∧ Sh M_4.2.1 ∧ r = some (vI (M_4.1 4 0 10)) ∧ M' = M_4)) ∧ ((M.2.1 17 0 x1.toNat) = none → (∀ M_6 : Mem, newM M 4 0 13 = M_6 → ∃ (M_7 : Mem), Cl l G d mX8_init [vR (some (4, cCnt M.2.2 4))] M_6 none M_7 ∧ Sh M_7.2.1 ∧ ((0 ≤ x1 ∧ x1 < 4)) ∧ (∃ (M_10 : Mem), Cl l G d mX8_copyFrom [vR (some (4, cCnt M.2.2 4)), vR (some (4, 0))] (M_7.1, (upR M_7.2.1 17 0 x1.toNat (some (4, cCnt M.2.2 4))), M_7.2.2) none M_10 ∧ Sh M_10.2.1 ∧ r = some (vI (M_10.1 4 0 10)) ∧ M' = M_10))))) ∧ (¬ (x1 < 4) → r = some (vI (-1)) ∧ M' = M))) : Cl l G (d + 1) mX11_image [vR (some (2, 0)), vI x1] M r M' := by
  show Ex l G (d + 1) mX11_image 0 [some (vR (some (2, 0))), some (vI x1), none] [] M r M'
  refine r_iload_n 1 dX11_image_0 rfl rfl ?_
  refine r_if_lt 4 9 dX11_image_1 rfl rfl (fun c => ?_) (fun c => ?_)
  · have h := h.1 (c)
    refine r_iconst 10 dX11_image_9 rfl (InR_of rfl) ?_
    exact r_iret dX11_image_10 rfl (.inl rfl) h.1 h.2
  · have h := h.2 (c)
    refine r_iload_n 5 dX11_image_4 rfl rfl ?_
    refine r_iconst 6 dX11_image_5 rfl (InR_of rfl) ?_
    refine r_icmp_lt 9 11 dX11_image_6 rfl rfl (fun c => ?_) (fun c => ?_)
    · have h := h.1 (c)
      obtain ⟨o_1, h⟩ := h
      refine r_aload_n 12 dX11_image_11 rfl rfl ?_
      refine g_R 15 dX11_image_12 rfl rfl rfl fr_11_86 (sh_11_13 hS) ?_
      refine r_iload_n 16 dX11_image_15 rfl rfl ?_
      refine a_R (ci := 8) 4 17 dX11_image_16 rfl rfl rfl rfl rfl o_1 rfl ?_
      refine r_astore_n (ls' := [some (vR (some (2, 0))), some (vI x1), some (vR (M.2.1 17 0 x1.toNat))]) 18 dX11_image_17 rfl rfl rfl rfl ?_
      refine r_aload_n 19 dX11_image_18 rfl rfl ?_
      refine r_ifnonnull 22 37 dX11_image_19 rfl rfl (fun c => ?_) (fun c => ?_)
      · have h := h.1 (c)
        refine r_aload_n 38 dX11_image_37 rfl rfl ?_
        refine r_aload_n 39 dX11_image_38 rfl rfl ?_
        refine g_R 42 dX11_image_39 rfl rfl rfl fr_11_12 (sh_11_0 hS) ?_
        obtain ⟨k_2, e_3, h⟩ := h
        refine Ex.at (st2 := [vR (some (4, 0)), vR (some (4, k_2))]) ?_ rfl (show [vR (some (4, 0)), vR (M.2.1 17 0 x1.toNat)] = [vR (some (4, 0)), vR (some (4, k_2))] by rw [e_3]) rfl
        obtain ⟨M_4, hc_5, hS, h⟩ := h
        refine v_0 (ci := 8) (C := (RX8, TX8, 13)) [vR (some (4, 0))] [] 45 dX11_image_42 rfl rfl rfl rfl rfl mo_X8_copyFrom ml_11_365 rfl rfl hc_5 ?_
        refine r_aload_n 46 dX11_image_45 rfl rfl ?_
        refine g_R 49 dX11_image_46 rfl rfl rfl fr_11_12 (sh_11_0 hS) ?_
        refine g_I 52 dX11_image_49 rfl rfl rfl fi_11_231 rfl ?_
        exact r_iret dX11_image_52 rfl (.inl rfl) h.1 h.2
      · have h := h.2 (c)
        refine r_new (f := 4) (ci := 8) (C := (RX8, TX8, 13)) 25 dX11_image_22 rfl rfl rfl rfl (inT1 (List.mem_of_getElem? (i := 30) rfl) rfl) (inT1 (List.mem_of_getElem? (i := 31) rfl) rfl) wi_8 ?_
        generalize hM_6 : newM M 4 0 13 = M_6
        have h := h M_6 hM_6
        refine r_dup 26 dX11_image_25 rfl rfl ?_
        obtain ⟨M_7, hc_8, hS, h⟩ := h
        refine r_callI [] [vR (some (4, cCnt M.2.2 4))] 29 dX11_image_26 rfl rfl rfl mo_X8_init ⟨rfl, rfl⟩ ml_11_11 rfl rfl hc_8 ?_
        obtain ⟨o_9, h⟩ := h
        refine r_astore_n (ls' := [some (vR (some (2, 0))), some (vI x1), some (vR (some (4, cCnt M.2.2 4)))]) 30 dX11_image_29 rfl rfl rfl rfl ?_
        refine r_aload_n 31 dX11_image_30 rfl rfl ?_
        refine g_R 34 dX11_image_31 rfl rfl rfl fr_11_86 (sh_11_13 hS) ?_
        refine r_iload_n 35 dX11_image_34 rfl rfl ?_
        refine r_aload_n 36 dX11_image_35 rfl rfl ?_
        refine s_R (ci := 8) 4 37 dX11_image_36 rfl rfl rfl rfl rfl rfl rfl rfl o_9 ?_
        refine r_aload_n 38 dX11_image_37 rfl rfl ?_
        refine r_aload_n 39 dX11_image_38 rfl rfl ?_
        refine g_R 42 dX11_image_39 rfl rfl rfl fr_11_12 (mR_0 ((upR_f rfl).trans (sh_11_0 hS))) ?_
        obtain ⟨M_10, hc_11, hS, h⟩ := h
        refine v_0 (ci := 8) (C := (RX8, TX8, 13)) [vR (some (4, 0))] [] 45 dX11_image_42 rfl rfl rfl rfl rfl mo_X8_copyFrom ml_11_365 rfl rfl hc_11 ?_
        refine r_aload_n 46 dX11_image_45 rfl rfl ?_
        refine g_R 49 dX11_image_46 rfl rfl rfl fr_11_12 (sh_11_0 hS) ?_
        refine g_I 52 dX11_image_49 rfl rfl rfl fi_11_231 rfl ?_
        exact r_iret dX11_image_52 rfl (.inl rfl) h.1 h.2
    · have h := h.2 (c)
      refine r_iconst 10 dX11_image_9 rfl (InR_of rfl) ?_
      exact r_iret dX11_image_10 rfl (.inl rfl) h.1 h.2

set_option maxRecDepth 4000 in
theorem xX11_back_0 {l : Launch} {G : Gt} {d : Nat} {M M' : Mem} {r : Option Vl} {x1 : Int} (hS : Sh M.2.1) (h : 
    (x1 < 0 → r = some (vI (-1)) ∧ M' = M) ∧ (¬ (x1 < 0) → (x1 < 4 → ((0 ≤ x1 ∧ x1 < 4)) ∧ ((¬ ((M.2.1 17 0 x1.toNat) = none) → ∃ k_2 : Nat, (M.2.1 17 0 x1.toNat) = some (4, k_2) ∧ (∃ (M_4 : Mem), Cl l G d mX8_copyFrom [vR (some (4, 0)), vR (some (4, k_2))] M none M_4 ∧ (∃ (M_6 : Mem), Cl l G d mX11_forgetFacts [vR (some (2, 0)), vI (-1)] M_4 none M_6 ∧ Sh M_6.2.1 ∧ (∃ (M_8 : Mem), Cl l G d mX10_measure [vR (some (7, 0)), vR (some (34, 0))] M_6 none M_8 ∧ Sh M_8.2.1 ∧ r = some (vI (M_8.1 4 0 10)) ∧ M' = M_8)))) ∧ ((M.2.1 17 0 x1.toNat) = none → r = some (vI (-1)) ∧ M' = M))) ∧ (¬ (x1 < 4) → r = some (vI (-1)) ∧ M' = M))) : Cl l G (d + 1) mX11_back [vR (some (2, 0)), vI x1] M r M' := by
  show Ex l G (d + 1) mX11_back 0 [some (vR (some (2, 0))), some (vI x1), none] [] M r M'
  refine r_iload_n 1 dX11_back_0 rfl rfl ?_
  refine r_if_lt 4 9 dX11_back_1 rfl rfl (fun c => ?_) (fun c => ?_)
  · have h := h.1 (c)
    refine r_iconst 10 dX11_back_9 rfl (InR_of rfl) ?_
    exact r_iret dX11_back_10 rfl (.inl rfl) h.1 h.2
  · have h := h.2 (c)
    refine r_iload_n 5 dX11_back_4 rfl rfl ?_
    refine r_iconst 6 dX11_back_5 rfl (InR_of rfl) ?_
    refine r_icmp_lt 9 11 dX11_back_6 rfl rfl (fun c => ?_) (fun c => ?_)
    · have h := h.1 (c)
      obtain ⟨o_1, h⟩ := h
      refine r_aload_n 12 dX11_back_11 rfl rfl ?_
      refine g_R 15 dX11_back_12 rfl rfl rfl fr_11_86 (sh_11_13 hS) ?_
      refine r_iload_n 16 dX11_back_15 rfl rfl ?_
      refine a_R (ci := 8) 4 17 dX11_back_16 rfl rfl rfl rfl rfl o_1 rfl ?_
      refine r_astore_n (ls' := [some (vR (some (2, 0))), some (vI x1), some (vR (M.2.1 17 0 x1.toNat))]) 18 dX11_back_17 rfl rfl rfl rfl ?_
      refine r_aload_n 19 dX11_back_18 rfl rfl ?_
      refine r_ifnonnull 22 24 dX11_back_19 rfl rfl (fun c => ?_) (fun c => ?_)
      · have h := h.1 (c)
        refine r_aload_n 25 dX11_back_24 rfl rfl ?_
        refine g_R 28 dX11_back_25 rfl rfl rfl fr_11_12 (sh_11_0 hS) ?_
        refine r_aload_n 29 dX11_back_28 rfl rfl ?_
        obtain ⟨k_2, e_3, h⟩ := h
        refine Ex.at (st2 := [vR (some (4, k_2)), vR (some (4, 0))]) ?_ rfl (show [vR (M.2.1 17 0 x1.toNat), vR (some (4, 0))] = [vR (some (4, k_2)), vR (some (4, 0))] by rw [e_3]) rfl
        obtain ⟨M_4, hc_5, h⟩ := h
        refine v_0 (ci := 8) (C := (RX8, TX8, 13)) [vR (some (4, k_2))] [] 32 dX11_back_29 rfl rfl rfl rfl rfl mo_X8_copyFrom ml_11_365 rfl rfl hc_5 ?_
        refine r_aload_n 33 dX11_back_32 rfl rfl ?_
        refine r_iconst 34 dX11_back_33 rfl (InR_of rfl) ?_
        obtain ⟨M_6, hc_7, hS, h⟩ := h
        refine v_0 (ci := 11) (C := (RX11, TX11, 16)) [vI (-1)] [] 37 dX11_back_34 rfl rfl rfl rfl rfl mo_X11_forgetFacts ml_11_117 rfl rfl hc_7 ?_
        refine r_aload_n 38 dX11_back_37 rfl rfl ?_
        refine g_R 41 dX11_back_38 rfl rfl rfl fr_11_28 (sh_11_2 hS) ?_
        refine r_aload_n 42 dX11_back_41 rfl rfl ?_
        refine g_R 45 dX11_back_42 rfl rfl rfl fr_11_12 (sh_11_0 hS) ?_
        refine g_R 48 dX11_back_45 rfl rfl rfl fr_11_104 (sh_8_3 hS _) ?_
        obtain ⟨M_8, hc_9, hS, h⟩ := h
        refine v_0 (ci := 10) (C := (RX10, TX10, 2)) [vR (some (34, 0))] [] 51 dX11_back_48 rfl rfl rfl rfl rfl mo_X10_measure ml_11_107 rfl rfl hc_9 ?_
        refine r_aload_n 52 dX11_back_51 rfl rfl ?_
        refine g_R 55 dX11_back_52 rfl rfl rfl fr_11_12 (sh_11_0 hS) ?_
        refine g_I 58 dX11_back_55 rfl rfl rfl fi_11_231 rfl ?_
        exact r_iret dX11_back_58 rfl (.inl rfl) h.1 h.2
      · have h := h.2 (c)
        refine r_iconst 23 dX11_back_22 rfl (InR_of rfl) ?_
        exact r_iret dX11_back_23 rfl (.inl rfl) h.1 h.2
    · have h := h.2 (c)
      refine r_iconst 10 dX11_back_9 rfl (InR_of rfl) ?_
      exact r_iret dX11_back_10 rfl (.inl rfl) h.1 h.2

theorem lti_inj {j i j' i' : Nat} (hi : i < 8) (hi' : i' < 8) (h : lti j i = lti j' i') : j = j' ∧ i = i' := by
  cases j with
  | zero =>
    cases j' with
    | zero => exact ⟨rfl, h⟩
    | succ j' => exfalso; have : i = 9 + 8 * j' + i' := h; omega
  | succ j =>
    cases j' with
    | zero => exfalso; have : 9 + 8 * j + i = i' := h; omega
    | succ j' => have : 9 + 8 * j + i = 9 + 8 * j' + i' := h; omega
theorem lti_s {j i : Nat} (h : 1 ≤ j) : lti j i = 1 + 8 * j + i := by
  cases j with
  | zero => omega
  | succ j => show 9 + 8 * j + i = _; omega
section CF
variable {l : Launch} {G : Gt} {d : Nat} {Q Q' : QT} {M M' : Mem}
theorem KX5_copyFrom {k0 k1 : Nat} (hne : k1 ≠ k0) : ∃ I', Cl l G d mX5_copyFrom [vR (some (5, k0)), vR (some (5, k1))] M none (I', upR M.2.1 5 k0 0 (M.2.1 5 k1 0), M.2.2) ∧ (∀ x, 1 ≤ x → x ≤ 11 → I' 5 k0 x = M.1 5 k1 x) ∧ ∀ f j i, ¬ (f = 5 ∧ j = k0) → I' f j i = M.1 f j i := by
  refine ⟨_, xX5_copyFrom_0 hne ⟨rfl, rfl⟩, fun x h1 h2 => ?_, fun f j i hn => ?_⟩
  · rw [upI_eq (I := M.1), upI_seI, upI_seI, upI_seI, upI_seI, upI_seI, upI_seI, upI_seI, upI_seI, upI_seI, upI_seI, seI_s]
    have hx : x = 1 ∨ x = 2 ∨ x = 3 ∨ x = 4 ∨ x = 5 ∨ x = 6 ∨ x = 7 ∨ x = 8 ∨ x = 9 ∨ x = 10 ∨ x = 11 := by omega
    rcases hx with rfl | rfl | rfl | rfl | rfl | rfl | rfl | rfl | rfl | rfl | rfl <;> rfl
  · rw [upI_o hn, upI_o hn, upI_o hn, upI_o hn, upI_o hn, upI_o hn, upI_o hn, upI_o hn, upI_o hn, upI_o hn, upI_o hn]
def cpS (f : Nat) : Prop := f = 4 ∨ f = 33 ∨ f = 34 ∨ f = 35 ∨ f = 36 ∨ f = 37 ∨ f = 39
/-- what a copied state is -/
def CpP (k0 k1 : Nat) (M M' : Mem) : Prop := M'.2.2 = M.2.2 ∧ (∀ f j i, ¬ (j = k0 ∧ (f = 4 ∨ f = 33 ∨ f = 34 ∨ f = 35 ∨ f = 36 ∨ f = 37 ∨ f = 39)) → ¬ (f = 5 ∧ ∃ i', i' < 8 ∧ j = lti k0 i') → M'.1 f j i = M.1 f j i) ∧ (∀ f j i, ¬ (f = 5 ∧ ∃ i', i' < 8 ∧ j = lti k0 i') → M'.2.1 f j i = M.2.1 f j i) ∧
  (∀ i, (i = 0 ∨ i = 2 ∨ i = 4 ∨ i = 8 ∨ i = 10 ∨ i = 11) → M'.1 4 k0 i = M.1 4 k1 i) ∧ (∀ i, i < 12 → M'.1 33 k0 i = M.1 33 k1 i) ∧ (∀ i, i < 64 → M'.1 34 k0 i = M.1 34 k1 i) ∧ (∀ i, i < 60 → M'.1 35 k0 i = M.1 35 k1 i) ∧ (∀ i, i < 12 → M'.1 36 k0 i = M.1 36 k1 i) ∧ (∀ i, i < 17 → M'.1 37 k0 i = M.1 37 k1 i) ∧ (∀ i, i < 20 → M'.1 39 k0 i = M.1 39 k1 i) ∧
  ∀ i, i < 8 → (∀ x, 1 ≤ x → x ≤ 11 → M'.1 5 (lti k0 i) x = M.1 5 (lti k1 i) x) ∧ M'.2.1 5 (lti k0 i) 0 = M.2.1 5 (lti k1 i) 0
theorem KX8_copyFrom {k0 k1 : Nat} (hne : k1 ≠ k0) (hS : Sh M.2.1) (hp0 : ∀ i, i < 8 → M.2.1 38 k0 i = some (5, lti k0 i)) (hp1 : ∀ i, i < 8 → M.2.1 38 k1 i = some (5, lti k1 i)) : ∃ M', Cl l G (d + 1) mX8_copyFrom [vR (some (4, k0)), vR (some (4, k1))] M none M' ∧ Sh M'.2.1 ∧ CpP k0 k1 M M' := by
  obtain ⟨I1, hI1⟩ : ∃ I1, I1 = (cpI (cpI (cpI (cpI (cpI (cpI (upI (upI (upI (upI (upI (upI M.1 4 k0 0 (M.1 4 k1 0)) 4 k0 2 (M.1 4 k1 2)) 4 k0 4 (M.1 4 k1 4)) 4 k0 8 (M.1 4 k1 8)) 4 k0 10 (M.1 4 k1 10)) 4 k0 11 (M.1 4 k1 11)) 33 k1 33 k0 0 0 12) 34 k1 34 k0 0 0 64) 35 k1 35 k0 0 0 60) 36 k1 36 k0 0 0 12) 37 k1 37 k0 0 0 17) 39 k1 39 k0 0 0 20) := ⟨_, rfl⟩
  have o1 : ∀ f j i, ¬ (j = k0 ∧ (f = 4 ∨ f = 33 ∨ f = 34 ∨ f = 35 ∨ f = 36 ∨ f = 37 ∨ f = 39)) → I1 f j i = M.1 f j i := fun f j i hn => by
    rw [hI1]
    unfold cpI
    rw [seI_o (by omega), seI_o (by omega), seI_o (by omega), seI_o (by omega), seI_o (by omega), seI_o (by omega), upI_o (by omega), upI_o (by omega), upI_o (by omega), upI_o (by omega), upI_o (by omega), upI_o (by omega)]
  have s1 : ∀ i, (i = 0 ∨ i = 2 ∨ i = 4 ∨ i = 8 ∨ i = 10 ∨ i = 11) → I1 4 k0 i = M.1 4 k1 i := fun i hi => by
    rw [hI1]
    rw [cpI_f rfl, cpI_f rfl, cpI_f rfl, cpI_f rfl, cpI_f rfl, cpI_f rfl]
    rcases hi with rfl | rfl | rfl | rfl | rfl | rfl
    · rw [upI_i (by omega), upI_i (by omega), upI_i (by omega), upI_i (by omega), upI_i (by omega), upI_s]
    · rw [upI_i (by omega), upI_i (by omega), upI_i (by omega), upI_i (by omega), upI_s]
    · rw [upI_i (by omega), upI_i (by omega), upI_i (by omega), upI_s]
    · rw [upI_i (by omega), upI_i (by omega), upI_s]
    · rw [upI_i (by omega), upI_s]
    · rw [upI_s]
  have r33 : ∀ i, i < 12 → I1 33 k0 i = M.1 33 k1 i := fun i hi => by
    rw [hI1, cpI_f rfl, cpI_f rfl, cpI_f rfl, cpI_f rfl, cpI_f rfl, cp_row hi, upI_o (by omega), upI_o (by omega), upI_o (by omega), upI_o (by omega), upI_o (by omega), upI_o (by omega)]
  have r34 : ∀ i, i < 64 → I1 34 k0 i = M.1 34 k1 i := fun i hi => by
    rw [hI1, cpI_f rfl, cpI_f rfl, cpI_f rfl, cpI_f rfl, cp_row hi, cpI_f rfl, upI_o (by omega), upI_o (by omega), upI_o (by omega), upI_o (by omega), upI_o (by omega), upI_o (by omega)]
  have r35 : ∀ i, i < 60 → I1 35 k0 i = M.1 35 k1 i := fun i hi => by
    rw [hI1, cpI_f rfl, cpI_f rfl, cpI_f rfl, cp_row hi, cpI_f rfl, cpI_f rfl, upI_o (by omega), upI_o (by omega), upI_o (by omega), upI_o (by omega), upI_o (by omega), upI_o (by omega)]
  have r36 : ∀ i, i < 12 → I1 36 k0 i = M.1 36 k1 i := fun i hi => by
    rw [hI1, cpI_f rfl, cpI_f rfl, cp_row hi, cpI_f rfl, cpI_f rfl, cpI_f rfl, upI_o (by omega), upI_o (by omega), upI_o (by omega), upI_o (by omega), upI_o (by omega), upI_o (by omega)]
  have r37 : ∀ i, i < 17 → I1 37 k0 i = M.1 37 k1 i := fun i hi => by
    rw [hI1, cpI_f rfl, cp_row hi, cpI_f rfl, cpI_f rfl, cpI_f rfl, cpI_f rfl, upI_o (by omega), upI_o (by omega), upI_o (by omega), upI_o (by omega), upI_o (by omega), upI_o (by omega)]
  have r39 : ∀ i, i < 20 → I1 39 k0 i = M.1 39 k1 i := fun i hi => by
    rw [hI1, cp_row hi, cpI_f rfl, cpI_f rfl, cpI_f rfl, cpI_f rfl, cpI_f rfl, upI_o (by omega), upI_o (by omega), upI_o (by omega), upI_o (by omega), upI_o (by omega), upI_o (by omega)]
  have hnel : ∀ f i, shp f i = true → ¬ f = 5 := fun f i e => by
    have h2 := List.contains_iff_mem.mp (show _ from e)
    have h3 : ∀ q ∈ ([(9, 0), (9, 1), (9, 2), (9, 3), (9, 12), (13, 1), (12, 8), (8, 0), (8, 1), (8, 2), (11, 0), (11, 2), (6, 0), (6, 1), (14, 1), (14, 2), (14, 3), (14, 4), (4, 1), (4, 3), (4, 5), (4, 6), (4, 7), (4, 9), (4, 12), (10, 0), (10, 1), (10, 2), (10, 3), (10, 4), (7, 0), (7, 1), (2, 0), (2, 1), (2, 2), (2, 3), (2, 4), (2, 5), (2, 6), (2, 7), (2, 8), (2, 9), (2, 11), (2, 13), (2, 14), (2, 15), (3, 1), (3, 2), (3, 3), (3, 4), (3, 5), (3, 6), (3, 7), (3, 8), (3, 9), (3, 10), (3, 11), (3, 12), (3, 13), (3, 14), (3, 15), (3, 16), (3, 17), (3, 18), (3, 19), (3, 20), (3, 21), (3, 22), (3, 23), (3, 24), (3, 25), (3, 26), (3, 27), (3, 28), (3, 39), (3, 40), (3, 41), (3, 42), (3, 43), (3, 44), (3, 45), (3, 46), (3, 47), (3, 51), (3, 52), (3, 53), (3, 54), (3, 55), (3, 64), (3, 65)] : List (Nat × Nat)), ¬ q.1 = 5 := by decide
    exact h3 (f, i) h2
  have key : ∀ n x : Nat, n + x = 8 → ∀ N : Mem, N.2.2 = M.2.2 → (∀ f j i, ¬ (f = 5 ∧ ∃ i', i' < x ∧ j = lti k0 i') → N.1 f j i = I1 f j i) → (∀ f j i, ¬ (f = 5 ∧ ∃ i', i' < x ∧ j = lti k0 i') → N.2.1 f j i = M.2.1 f j i) → (∀ i, i < x → (∀ y, 1 ≤ y → y ≤ 11 → N.1 5 (lti k0 i) y = M.1 5 (lti k1 i) y) ∧ N.2.1 5 (lti k0 i) 0 = M.2.1 5 (lti k1 i) 0) → ∃ M', Ex l G (d + 1) mX8_copyFrom 140 [some (vR (some (4, k0))), some (vR (some (4, k1))), some (vI (x : Int))] [] N none M' ∧ M'.2.2 = M.2.2 ∧ (∀ f j i, ¬ (f = 5 ∧ ∃ i', i' < 8 ∧ j = lti k0 i') → M'.1 f j i = I1 f j i) ∧ (∀ f j i, ¬ (f = 5 ∧ ∃ i', i' < 8 ∧ j = lti k0 i') → M'.2.1 f j i = M.2.1 f j i) ∧ ∀ i, i < 8 → (∀ y, 1 ≤ y → y ≤ 11 → M'.1 5 (lti k0 i) y = M.1 5 (lti k1 i) y) ∧ M'.2.1 5 (lti k0 i) 0 = M.2.1 5 (lti k1 i) 0 := by
    intro n
    induction n with
    | zero =>
      intro x hx N q1 q2 q3 q4
      have ex : x = 8 := by omega
      subst ex
      have hSN : Sh N.2.1 := hS.congr fun f k i hs => q3 f k i (fun e => hnel f i hs e.1)
      exact ⟨N, xX8_copyFrom_140 hne hSN ⟨fun _ => ⟨rfl, rfl⟩, fun c => absurd (by omega) c⟩, q1, q2, q3, q4⟩
    | succ n ih =>
      intro x hx N q1 q2 q3 q4
      have hSN : Sh N.2.1 := hS.congr fun f k i hs => q3 f k i (fun e => hnel f i hs e.1)
      have hl : lti k1 x ≠ lti k0 x := fun e => hne (lti_inj (by omega) (by omega) e).1
      obtain ⟨I2, y1, y2, y3⟩ := KX5_copyFrom (l := l) (G := G) (d := d) (M := N) hl
      have src : ∀ y, N.1 5 (lti k1 x) y = M.1 5 (lti k1 x) y := fun y => by
        rw [q2 5 _ y (fun ⟨_, i', hi', e⟩ => hne (lti_inj (by omega) (by omega) e).1)]
        exact o1 _ _ _ (by omega)
      have srR : N.2.1 5 (lti k1 x) 0 = M.2.1 5 (lti k1 x) 0 := q3 5 _ 0 (fun ⟨_, i', hi', e⟩ => hne (lti_inj (by omega) (by omega) e).1)
      obtain ⟨M', z1, z2⟩ := ih (x + 1) (by omega) (I2, upR N.2.1 5 (lti k0 x) 0 (N.2.1 5 (lti k1 x) 0), N.2.2) q1 (fun f j i hn => by
          dsimp only
          rw [y3 f j i (fun e => hn ⟨e.1, x, by omega, e.2⟩)]
          exact q2 f j i (fun ⟨e1, i', hi', e2⟩ => hn ⟨e1, i', by omega, e2⟩)) (fun f j i hn => by
          dsimp only
          rw [upR_o (fun e => hn ⟨e.1, x, by omega, e.2⟩)]
          exact q3 f j i (fun ⟨e1, i', hi', e2⟩ => hn ⟨e1, i', by omega, e2⟩)) (fun i hi => by
          dsimp only
          by_cases e : i = x
          · subst e
            exact ⟨fun y h1 h2 => (y2 y h1 h2).trans (src y), by rw [upR_s]; exact srR⟩
          · have hd : ¬ (lti k0 i = lti k0 x) := fun e2 => e (lti_inj (by omega) (by omega) e2).2
            refine ⟨fun y h1 h2 => ?_, ?_⟩
            · rw [y3 _ _ _ (fun e2 => hd e2.2)]; exact (q4 i (by omega)).1 y h1 h2
            · rw [upR_o (fun e2 => hd e2.2)]; exact (q4 i (by omega)).2)
      refine ⟨M', xX8_copyFrom_140 hne hSN ⟨fun c => by omega, fun _ => ⟨by omega, lti k0 x, ?_, lti k1 x, ?_, _, y1, by unfold InR; omega, z1⟩⟩, z2⟩
      · rw [Int.toNat_natCast, q3 _ _ _ (by omega)]; exact hp0 x (by omega)
      · rw [Int.toNat_natCast, q3 _ _ _ (by omega)]; exact hp1 x (by omega)
  obtain ⟨M', z1, z2, z3, z4, z5⟩ := key 8 0 rfl (I1, M.2.1, M.2.2) rfl (fun _ _ _ _ => rfl) (fun _ _ _ _ => rfl) (fun i hi => by omega)
  refine ⟨M', xX8_copyFrom_0 hne hS (by rw [← hI1]; exact z1), hS.congr fun f k i hs => z4 f k i (fun e => hnel f i hs e.1), z2, fun f j i h1 h2 => (z3 f j i h2).trans (o1 f j i h1), z4, fun i hi => (z3 _ _ _ (by omega)).trans (s1 i hi), fun i hi => (z3 _ _ _ (by omega)).trans (r33 i hi), fun i hi => (z3 _ _ _ (by omega)).trans (r34 i hi), fun i hi => (z3 _ _ _ (by omega)).trans (r35 i hi), fun i hi => (z3 _ _ _ (by omega)).trans (r36 i hi), fun i hi => (z3 _ _ _ (by omega)).trans (r37 i hi), fun i hi => (z3 _ _ _ (by omega)).trans (r39 i hi), z5⟩
theorem StI.cp {k0 k1 : Nat} (h : StI Q M k1) (hc : CpP k0 k1 M M') (hp : ∀ i, i < 8 → M.2.1 38 k0 i = some (5, lti k0 i)) (h8 : nLt Q ≤ 8) (h60 : nCh Q ≤ 60) : StI Q M' k0 := by
  obtain ⟨c1, c2, c3, c4, c5, c6, c7, c8, c9, c10, c11⟩ := hc
  obtain ⟨⟨a1, a2, a3, a4⟩, a5, a6, a7, a8, a9, a10, a11⟩ := h
  refine ⟨⟨(c4 _ (by omega)).trans a1, (c4 _ (by omega)).trans a2, (c4 _ (by omega)).trans a3, (c4 _ (by omega)).trans a4⟩, fun i hi => (c5 i hi).trans (a5 i hi), fun x y hx hy => (c6 _ (by omega)).trans (a6 x y hx hy), fun i hi => (c7 i (by omega)).trans (a7 i hi), fun i hi => (c8 i hi).trans (a8 i hi), fun i hi => (c9 i hi).trans (a9 i hi), fun i hi => (c10 i hi).trans (a10 i hi), ⟨(c4 _ (by omega)).trans a11.1.1, (c4 _ (by omega)).trans a11.1.2⟩, fun i hi => (c3 _ _ _ (by omega)).trans (hp i hi), fun i hi => ?_⟩
  obtain ⟨b1, b2⟩ := c11 i (by omega)
  obtain ⟨e1, e2⟩ := a11.2.2 i hi
  refine ⟨b2.trans e1, ?_⟩
  unfold LtC at e2 ⊢
  rw [b1 1 (by omega) (by omega), b1 2 (by omega) (by omega), b1 4 (by omega) (by omega), b1 5 (by omega) (by omega), b1 6 (by omega) (by omega), b1 7 (by omega) (by omega), b1 8 (by omega) (by omega), b1 9 (by omega) (by omega), b1 10 (by omega) (by omega)]
  exact e2
theorem StI_c {j : Nat} (h : StI Q M j) (hf : ∀ f, 48 ≤ f → f ≤ 70 → Q' f = Q f) : StI Q' M j := by
  have hc : eqC Q Q' := ⟨by rw [hf _ (by omega) (by omega)], by rw [hf _ (by omega) (by omega)], hf _ (by omega) (by omega), hf _ (by omega) (by omega), hf _ (by omega) (by omega), hf _ (by omega) (by omega), hf _ (by omega) (by omega), hf _ (by omega) (by omega), hf _ (by omega) (by omega)⟩
  have hr : eqR Q Q' := ⟨by rw [hf _ (by omega) (by omega)], hf _ (by omega) (by omega), hf _ (by omega) (by omega), hf _ (by omega) (by omega)⟩
  obtain ⟨⟨a1, a2, a3, a4⟩, a5, a6, a7, a8, a9, a10, a11⟩ := h
  refine ⟨⟨by rw [hf _ (by omega) (by omega)]; exact a1, by rw [hf _ (by omega) (by omega)]; exact a2, by rw [hf _ (by omega) (by omega)]; exact a3, by rw [hf _ (by omega) (by omega)]; exact a4⟩, fun i hi => by rw [hf _ (by omega) (by omega)]; exact a5 i hi, RoadsC_q hr a6, fun i hi => by rw [pk_q hc, srt_q hc]; exact a7 i (by rw [nCh_q hc] at hi; exact hi), fun i hi => by rw [hf _ (by omega) (by omega)]; exact a8 i hi, fun i hi => by rw [hf _ (by omega) (by omega)]; exact a9 i hi, fun i hi => by rw [hf _ (by omega) (by omega)]; exact a10 i hi, a11.q (by rw [hf _ (by omega) (by omega)]) (by rw [hf _ (by omega) (by omega)]) (fun f h1 h2 => hf f (by omega) h2)⟩
/-- other states may be other -/
theorem RelA.oth3 (h : RelA Q M) (hI : ∀ f k i, relF f i → ¬ (1 ≤ k ∧ (f = 4 ∨ f = 33 ∨ f = 35 ∨ f = 36)) → M'.1 f k i = M.1 f k i) (hS : Sh M'.2.1) (hR : ∀ f k i, (f = 28 ∨ f = 15) → M'.2.1 f k i = M.2.1 f k i) (hc : ∀ f, (f = 14 ∨ f = 29 ∨ f = 30 ∨ f = 31 ∨ f = 32 ∨ f = 13 ∨ f = 47) → cCnt M'.2.2 f = cCnt M.2.2 f) (hl : CLe M.2.2 M'.2.2) : RelA Q M' := by
  obtain ⟨hS0, hC, hP, hF, hCv, hK⟩ := h
  have hSn : ∀ n, Snap Q M.1 n n → Snap Q M'.1 n n := fun n h => by
    refine ⟨fun m hm => ?_, fun t p ht hp => ?_, fun p hp => ?_, fun a ha => ?_⟩
    · rw [hI _ _ _ (by unfold relF; omega) (by omega)]; exact h.1 m hm
    · rw [hI _ _ _ (by unfold relF; omega) (by omega)]; exact h.2.1 t p ht hp
    · rw [hI _ _ _ (by unfold relF; omega) (by omega)]; exact h.2.2.1 p hp
    · rw [hI _ _ _ (by unfold relF; omega) (by omega)]; exact h.2.2.2 a ha
  refine ⟨hS, ⟨?_, ?_, fun p hp => ?_, fun i hi => ?_⟩, ?_, ⟨fun c j hj => ?_, fun j cv s n seen hj hc hs hn e => ?_⟩, ?_, fun r hr => ?_⟩
  · rw [hI _ _ _ (by unfold relF; omega) (by omega)]; exact hC.1
  · rw [hI _ _ _ (by unfold relF; omega) (by omega)]; exact hC.2.1
  · rw [hI _ _ _ (by unfold relF; omega) (by omega)]; exact hC.2.2.1 p hp
  · rw [hI _ _ _ (by unfold relF; omega) (by omega)]; exact hC.2.2.2 i hi
  · obtain ⟨p1, p2, ⟨p3, p4, p5, p6⟩, p7, p8, p9⟩ := hP
    have e2 := hI 6 0 2 (by unfold relF; omega) (by omega)
    have c1 := hc 14 (by omega)
    have c2 := hc 29 (by omega)
    have c3 := hc 30 (by omega)
    have c4 := hc 31 (by omega)
    have c5 := hc 32 (by omega)
    refine ⟨by rw [e2, c1]; exact p1, by rw [c1]; exact p2, by rw [c1, c2, c3, c4, c5]; exact ⟨p3, p4, p5, p6⟩, fun i hi => by rw [hR _ _ _ (.inl rfl), c1]; exact p7 i hi, fun n hn => ?_, fun n hn => hSn n (p9 n (by rw [e2] at hn; exact hn))⟩
    rw [hI _ _ _ (by unfold relF; omega) (by omega)]; exact p8 n (by rw [c1] at hn; exact hn)
  · rw [hI _ _ _ (by unfold relF; omega) (by omega)] at c ⊢; exact hF.1 c j hj
  · rw [hI _ _ _ (by unfold relF; omega) (by omega)] at e ⊢; exact hF.2 j cv s n seen hj hc hs hn e
  · obtain ⟨h1, ⟨h2, h2'⟩, h3⟩ := hCv
    refine ⟨by rw [hI _ _ _ (by unfold relF; omega) (by omega)]; exact h1, ⟨by rw [hc _ (by omega)]; exact h2, by rw [hc _ (by omega)]; exact h2'⟩, fun c hcc => ?_⟩
    obtain ⟨a1, ⟨a2, a2'⟩, a3, a4, a5⟩ := h3 c hcc
    refine ⟨by rw [hR _ _ _ (.inr rfl)]; exact a1, ⟨?_, fun k hk => by rw [hI _ _ _ (by unfold relF; omega) (by omega)]; exact a2' k hk⟩, by rw [hI _ _ _ (by unfold relF; omega) (by omega)]; exact a3, by rw [hI _ _ _ (by unfold relF; omega) (by omega)]; exact a4, by rw [hI _ _ _ (by unfold relF; omega) (by omega)]; exact a5⟩
    rw [← a2]
    exact hl.2.2.2.2 47 c (by omega)
  · rw [hI _ _ _ (by unfold relF; omega) (by omega)]; exact hK r hr
end CF
