/-! the class's snapshots -/
set_option maxRecDepth 4000 in
theorem xX7_beginWith_0 {l : Launch} {G : Gt} {d : Nat} {M M' : Mem} {r : Option Vl} {k0 : Nat} {k1 : Nat} (hS : Sh M.2.1) (h : 
    Ex l G (d + 1) mX7_beginWith 26 [some (vR (some (14, k0))), some (vR (some (4, k1))), some (vI 0)] [] ((flI (flI (flI M.1 29 k0 10 0) 30 k0 72 0) 32 k0 8 0), M.2.1, M.2.2) r M') : Cl l G (d + 1) mX7_beginWith [vR (some (14, k0)), vR (some (4, k1))] M r M' := by
  show Ex l G (d + 1) mX7_beginWith 0 [some (vR (some (14, k0))), some (vR (some (4, k1))), none] [] M r M'
  refine r_aload_n 1 dX7_beginWith_0 rfl rfl ?_
  refine g_R 4 dX7_beginWith_1 rfl rfl rfl fr_7_9 (sh_7_1 hS _) ?_
  refine r_iconst 5 dX7_beginWith_4 rfl (InR_of rfl) ?_
  refine c_0 [vR (some (29, k0)), vI 0] [] 8 dX7_beginWith_5 rfl rfl mo_J7_fill_53178 ml_7_28 rfl rfl (KJ7_fl (n := 10) rfl (by decide) rfl (by decide)) ?_
  refine r_aload_n 9 dX7_beginWith_8 rfl rfl ?_
  refine g_R 12 dX7_beginWith_9 rfl rfl rfl fr_7_15 (mR_0 (sh_7_2 hS _)) ?_
  refine r_iconst 13 dX7_beginWith_12 rfl (InR_of rfl) ?_
  refine c_0 [vR (some (30, k0)), vI 0] [] 16 dX7_beginWith_13 rfl rfl mo_J7_fill_53178 ml_7_28 rfl rfl (KJ7_fl (n := 72) rfl (by decide) rfl (by decide)) ?_
  refine r_aload_n 17 dX7_beginWith_16 rfl rfl ?_
  refine g_R 20 dX7_beginWith_17 rfl rfl rfl fr_7_21 (mR_0 (sh_7_4 hS _)) ?_
  refine r_iconst 21 dX7_beginWith_20 rfl (InR_of rfl) ?_
  refine c_0 [vR (some (32, k0)), vI 0] [] 24 dX7_beginWith_21 rfl rfl mo_J7_fill_53178 ml_7_28 rfl rfl (KJ7_fl (n := 8) rfl (by decide) rfl (by decide)) ?_
  refine r_iconst 25 dX7_beginWith_24 rfl (InR_of rfl) ?_
  refine r_istore_n (ls' := [some (vR (some (14, k0))), some (vR (some (4, k1))), some (vI 0)]) 26 dX7_beginWith_25 rfl rfl rfl rfl ?_
  exact h
set_option maxRecDepth 4000 in
theorem xX7_beginWith_26 {l : Launch} {G : Gt} {d : Nat} {M M' : Mem} {r : Option Vl} {k0 : Nat} {k1 : Nat} {x2 : Int} (hS : Sh M.2.1) (h : 
    ((M.1 4 k1 0) ≤ x2 → r = none ∧ M' = M) ∧ (¬ ((M.1 4 k1 0) ≤ x2) → ((0 ≤ x2 ∧ x2 < 12) ∧ (0 ≤ (M.1 33 k1 x2.toNat) ∧ (M.1 33 k1 x2.toNat) < 8) ∧ (0 ≤ x2 ∧ x2 < 32) ∧ InR (x2 + 1)) ∧ Ex l G (d + 1) mX7_beginWith 26 [some (vR (some (14, k0))), some (vR (some (4, k1))), some (vI (x2 + 1))] [] ((upI (upI M.1 31 k0 x2.toNat (M.1 33 k1 x2.toNat)) 32 k0 (M.1 33 k1 x2.toNat).toNat (aOr (M.1 32 k0 (M.1 33 k1 x2.toNat).toNat) (aShl 1 x2))), M.2.1, M.2.2) r M')) : Ex l G (d + 1) mX7_beginWith 26 [some (vR (some (14, k0))), some (vR (some (4, k1))), some (vI x2)] [] M r M' := by
  refine r_iload_n 27 dX7_beginWith_26 rfl rfl ?_
  refine r_aload_n 28 dX7_beginWith_27 rfl rfl ?_
  refine g_I 31 dX7_beginWith_28 rfl rfl rfl fi_7_34 rfl ?_
  refine r_icmp_ge 34 69 dX7_beginWith_31 rfl rfl (fun c => ?_) (fun c => ?_)
  · have h := h.1 (c)
    exact r_vret dX7_beginWith_69 rfl h.1 h.2
  · have h := h.2 (c)
    obtain ⟨⟨o_1, o_2, o_3, o_4⟩, h⟩ := h
    refine r_aload_n 35 dX7_beginWith_34 rfl rfl ?_
    refine g_R 38 dX7_beginWith_35 rfl rfl rfl fr_7_18 (sh_7_3 hS _) ?_
    refine r_iload_n 39 dX7_beginWith_38 rfl rfl ?_
    refine r_aload_n 40 dX7_beginWith_39 rfl rfl ?_
    refine g_R 43 dX7_beginWith_40 rfl rfl rfl fr_7_39 (sh_8_1 hS _) ?_
    refine r_iload_n 44 dX7_beginWith_43 rfl rfl ?_
    refine a_I 12 45 dX7_beginWith_44 rfl rfl rfl rfl o_1 rfl ?_
    refine s_I 12 46 dX7_beginWith_45 rfl rfl (by decide) rfl rfl o_1 ?_
    refine r_aload_n 47 dX7_beginWith_46 rfl rfl ?_
    refine g_R 50 dX7_beginWith_47 rfl rfl rfl fr_7_21 (mR_0 (sh_7_4 hS _)) ?_
    refine r_aload_n 51 dX7_beginWith_50 rfl rfl ?_
    refine g_R 54 dX7_beginWith_51 rfl rfl rfl fr_7_18 (mR_0 (sh_7_3 hS _)) ?_
    refine r_iload_n 55 dX7_beginWith_54 rfl rfl ?_
    refine a_I 12 56 dX7_beginWith_55 rfl rfl rfl rfl o_1 (mI_0 (upI_s)) ?_
    refine r_dup2 57 dX7_beginWith_56 rfl rfl ?_
    refine a_I 8 58 dX7_beginWith_57 rfl rfl rfl rfl o_2 (mI_0 (upI_f rfl)) ?_
    refine r_iconst 59 dX7_beginWith_58 rfl (InR_of rfl) ?_
    refine r_iload_n 60 dX7_beginWith_59 rfl rfl ?_
    refine r_ishl 61 dX7_beginWith_60 rfl o_3 ?_
    refine r_ior 62 dX7_beginWith_61 rfl ?_
    refine s_I 8 63 dX7_beginWith_62 rfl rfl (by decide) rfl rfl o_2 ?_
    refine r_iinc (ls' := [some (vR (some (14, k0))), some (vR (some (4, k1))), some (vI (x2 + 1))]) 66 dX7_beginWith_63 rfl rfl rfl rfl o_4 rfl ?_
    refine r_goto 26 dX7_beginWith_66 rfl ?_
    exact h

set_option maxRecDepth 4000 in
theorem xX7_follow_0 {l : Launch} {G : Gt} {d : Nat} {M M' : Mem} {r : Option Vl} {k0 : Nat} {k1 : Nat} {x2 : Int} (hne : k1 ≠ k0) (hS : Sh M.2.1) (h : 
    Ex l G (d + 1) mX7_follow 106 [some (vR (some (14, k0))), some (vR (some (14, k1))), some (vI x2), some (vI (aAnd (aShr x2 13) 3)), some (vI (aAnd (aShr x2 9) 15)), some (vI (aAnd (aShr x2 5) 15)), some (vI (aAnd (aShr x2 1) 15)), some (vI (if (aAnd x2 1) = 1 then 1 else 0 : Int)), none] [] ((cpI (cpI (cpI (cpI M.1 29 k1 29 k0 0 0 10) 30 k1 30 k0 0 0 72) 31 k1 31 k0 0 0 12) 32 k1 32 k0 0 0 8), M.2.1, M.2.2) r M') : Cl l G (d + 1) mX7_follow [vR (some (14, k0)), vR (some (14, k1)), vI x2] M r M' := by
  show Ex l G (d + 1) mX7_follow 0 [some (vR (some (14, k0))), some (vR (some (14, k1))), some (vI x2), none, none, none, none, none, none] [] M r M'
  refine r_aload_n 1 dX7_follow_0 rfl rfl ?_
  refine g_R 4 dX7_follow_1 rfl rfl rfl fr_7_9 (sh_7_1 hS _) ?_
  refine r_iconst 5 dX7_follow_4 rfl (InR_of rfl) ?_
  refine r_aload_n 6 dX7_follow_5 rfl rfl ?_
  refine g_R 9 dX7_follow_6 rfl rfl rfl fr_7_9 (sh_7_1 hS _) ?_
  refine r_iconst 10 dX7_follow_9 rfl (InR_of rfl) ?_
  refine r_bipush 12 dX7_follow_10 rfl rfl ?_
  refine cp_y 10 10 15 dX7_follow_12 rfl rfl rfl ⟨(inT4 (List.mem_of_getElem? (i := 2) rfl) rfl), (inT3 (List.mem_of_getElem? (i := 171) rfl) rfl), (inT3 (List.mem_of_getElem? (i := 170) rfl) rfl), (inT1 (List.mem_of_getElem? (i := 19) rfl) rfl)⟩ rfl rfl rfl rfl rfl ⟨by decide, by decide, by decide, by decide, by decide⟩ rfl ?_
  refine r_aload_n 16 dX7_follow_15 rfl rfl ?_
  refine g_R 19 dX7_follow_16 rfl rfl rfl fr_7_15 (mR_0 (sh_7_2 hS _)) ?_
  refine r_iconst 20 dX7_follow_19 rfl (InR_of rfl) ?_
  refine r_aload_n 21 dX7_follow_20 rfl rfl ?_
  refine g_R 24 dX7_follow_21 rfl rfl rfl fr_7_15 (mR_0 (sh_7_2 hS _)) ?_
  refine r_iconst 25 dX7_follow_24 rfl (InR_of rfl) ?_
  refine r_bipush 27 dX7_follow_25 rfl rfl ?_
  refine cp_y 72 72 30 dX7_follow_27 rfl rfl rfl ⟨(inT4 (List.mem_of_getElem? (i := 2) rfl) rfl), (inT3 (List.mem_of_getElem? (i := 171) rfl) rfl), (inT3 (List.mem_of_getElem? (i := 170) rfl) rfl), (inT1 (List.mem_of_getElem? (i := 19) rfl) rfl)⟩ rfl rfl rfl rfl rfl ⟨by decide, by decide, by decide, by decide, by decide⟩ rfl ?_
  refine r_aload_n 31 dX7_follow_30 rfl rfl ?_
  refine g_R 34 dX7_follow_31 rfl rfl rfl fr_7_18 (mR_0 (sh_7_3 hS _)) ?_
  refine r_iconst 35 dX7_follow_34 rfl (InR_of rfl) ?_
  refine r_aload_n 36 dX7_follow_35 rfl rfl ?_
  refine g_R 39 dX7_follow_36 rfl rfl rfl fr_7_18 (mR_0 (sh_7_3 hS _)) ?_
  refine r_iconst 40 dX7_follow_39 rfl (InR_of rfl) ?_
  refine r_bipush 42 dX7_follow_40 rfl rfl ?_
  refine cp_y 12 12 45 dX7_follow_42 rfl rfl rfl ⟨(inT4 (List.mem_of_getElem? (i := 2) rfl) rfl), (inT3 (List.mem_of_getElem? (i := 171) rfl) rfl), (inT3 (List.mem_of_getElem? (i := 170) rfl) rfl), (inT1 (List.mem_of_getElem? (i := 19) rfl) rfl)⟩ rfl rfl rfl rfl rfl ⟨by decide, by decide, by decide, by decide, by decide⟩ rfl ?_
  refine r_aload_n 46 dX7_follow_45 rfl rfl ?_
  refine g_R 49 dX7_follow_46 rfl rfl rfl fr_7_21 (mR_0 (sh_7_4 hS _)) ?_
  refine r_iconst 50 dX7_follow_49 rfl (InR_of rfl) ?_
  refine r_aload_n 51 dX7_follow_50 rfl rfl ?_
  refine g_R 54 dX7_follow_51 rfl rfl rfl fr_7_21 (mR_0 (sh_7_4 hS _)) ?_
  refine r_iconst 55 dX7_follow_54 rfl (InR_of rfl) ?_
  refine r_bipush 57 dX7_follow_55 rfl rfl ?_
  refine cp_y 8 8 60 dX7_follow_57 rfl rfl rfl ⟨(inT4 (List.mem_of_getElem? (i := 2) rfl) rfl), (inT3 (List.mem_of_getElem? (i := 171) rfl) rfl), (inT3 (List.mem_of_getElem? (i := 170) rfl) rfl), (inT1 (List.mem_of_getElem? (i := 19) rfl) rfl)⟩ rfl rfl rfl rfl rfl ⟨by decide, by decide, by decide, by decide, by decide⟩ rfl ?_
  refine r_iload_n 61 dX7_follow_60 rfl rfl ?_
  refine r_bipush 63 dX7_follow_61 rfl rfl ?_
  refine r_ishr 64 dX7_follow_63 rfl ⟨by decide, by decide⟩ ?_
  refine r_iconst 65 dX7_follow_64 rfl (InR_of rfl) ?_
  refine r_iand 66 dX7_follow_65 rfl ?_
  refine r_istore_n (ls' := [some (vR (some (14, k0))), some (vR (some (14, k1))), some (vI x2), some (vI (aAnd (aShr x2 13) 3)), none, none, none, none, none]) 67 dX7_follow_66 rfl rfl rfl rfl ?_
  refine r_iload_n 68 dX7_follow_67 rfl rfl ?_
  refine r_bipush 70 dX7_follow_68 rfl rfl ?_
  refine r_ishr 71 dX7_follow_70 rfl ⟨by decide, by decide⟩ ?_
  refine r_bipush 73 dX7_follow_71 rfl rfl ?_
  refine r_iand 74 dX7_follow_73 rfl ?_
  refine r_istore (ls' := [some (vR (some (14, k0))), some (vR (some (14, k1))), some (vI x2), some (vI (aAnd (aShr x2 13) 3)), some (vI (aAnd (aShr x2 9) 15)), none, none, none, none]) 76 dX7_follow_74 rfl rfl rfl rfl ?_
  refine r_iload_n 77 dX7_follow_76 rfl rfl ?_
  refine r_iconst 78 dX7_follow_77 rfl (InR_of rfl) ?_
  refine r_ishr 79 dX7_follow_78 rfl ⟨by decide, by decide⟩ ?_
  refine r_bipush 81 dX7_follow_79 rfl rfl ?_
  refine r_iand 82 dX7_follow_81 rfl ?_
  refine r_istore (ls' := [some (vR (some (14, k0))), some (vR (some (14, k1))), some (vI x2), some (vI (aAnd (aShr x2 13) 3)), some (vI (aAnd (aShr x2 9) 15)), some (vI (aAnd (aShr x2 5) 15)), none, none, none]) 84 dX7_follow_82 rfl rfl rfl rfl ?_
  refine r_iload_n 85 dX7_follow_84 rfl rfl ?_
  refine r_iconst 86 dX7_follow_85 rfl (InR_of rfl) ?_
  refine r_ishr 87 dX7_follow_86 rfl ⟨by decide, by decide⟩ ?_
  refine r_bipush 89 dX7_follow_87 rfl rfl ?_
  refine r_iand 90 dX7_follow_89 rfl ?_
  refine r_istore (ls' := [some (vR (some (14, k0))), some (vR (some (14, k1))), some (vI x2), some (vI (aAnd (aShr x2 13) 3)), some (vI (aAnd (aShr x2 9) 15)), some (vI (aAnd (aShr x2 5) 15)), some (vI (aAnd (aShr x2 1) 15)), none, none]) 92 dX7_follow_90 rfl rfl rfl rfl ?_
  refine r_iload_n 93 dX7_follow_92 rfl rfl ?_
  refine r_iconst 94 dX7_follow_93 rfl (InR_of rfl) ?_
  refine r_iand 95 dX7_follow_94 rfl ?_
  refine r_iconst 96 dX7_follow_95 rfl (InR_of rfl) ?_
  have hJ_1 : Ex l G (d + 1) mX7_follow 104 [some (vR (some (14, k0))), some (vR (some (14, k1))), some (vI x2), some (vI (aAnd (aShr x2 13) 3)), some (vI (aAnd (aShr x2 9) 15)), some (vI (aAnd (aShr x2 5) 15)), some (vI (aAnd (aShr x2 1) 15)), none, none] [vI (if (aAnd x2 1) = 1 then 1 else 0 : Int)] ((cpI (cpI (cpI (cpI M.1 29 k1 29 k0 0 0 10) 30 k1 30 k0 0 0 72) 31 k1 31 k0 0 0 12) 32 k1 32 k0 0 0 8), M.2.1, M.2.2) r M' := by
    refine r_istore (ls' := [some (vR (some (14, k0))), some (vR (some (14, k1))), some (vI x2), some (vI (aAnd (aShr x2 13) 3)), some (vI (aAnd (aShr x2 9) 15)), some (vI (aAnd (aShr x2 5) 15)), some (vI (aAnd (aShr x2 1) 15)), some (vI (if (aAnd x2 1) = 1 then 1 else 0 : Int)), none]) 106 dX7_follow_104 rfl rfl rfl rfl ?_
    exact h
  refine r_icmp_ne 99 103 dX7_follow_96 rfl rfl (fun c => ?_) (fun c => ?_)
  · have c_2 := c
    refine r_iconst 104 dX7_follow_103 rfl (InR_of rfl) ?_
    exact (Ex.at hJ_1 rfl (show [vI 0] = [vI (if (aAnd x2 1) = 1 then 1 else 0 : Int)] by simp only [if_neg c_2]) rfl)
  · have c_2 := Decidable.not_not.mp c
    refine r_iconst 100 dX7_follow_99 rfl (InR_of rfl) ?_
    refine r_goto 104 dX7_follow_100 rfl ?_
    exact (Ex.at hJ_1 rfl (show [vI 1] = [vI (if (aAnd x2 1) = 1 then 1 else 0 : Int)] by simp only [if_pos c_2]) rfl)
set_option maxRecDepth 4000 in
theorem xX7_follow_106 {l : Launch} {G : Gt} {d : Nat} {M M' : Mem} {r : Option Vl} {k0 : Nat} {k1 : Nat} {x2 : Int} {x3 : Int} {x4 : Int} {x5 : Int} {x6 : Int} {x7 : Int} (hne : k1 ≠ k0) (hS : Sh M.2.1) (h : 
    (¬ (x3 = 0) → (¬ (x3 = 1) → ((0 ≤ x4 ∧ x4 < 12) ∧ (0 ≤ (M.1 31 k0 x4.toNat) ∧ (M.1 31 k0 x4.toNat) < 8) ∧ (0 ≤ x4 ∧ x4 < 32) ∧ (0 ≤ x5 ∧ x5 < 8)) ∧ r = none ∧ M' = ((upI (upI (upI M.1 32 k0 (M.1 31 k0 x4.toNat).toNat (aAnd (M.1 32 k0 (M.1 31 k0 x4.toNat).toNat) (aXor (aShl 1 x4) (-1)))) 31 k0 x4.toNat x5) 32 k0 x5.toNat (aOr ((upI M.1 32 k0 (M.1 31 k0 x4.toNat).toNat (aAnd (M.1 32 k0 (M.1 31 k0 x4.toNat).toNat) (aXor (aShl 1 x4) (-1)))) 32 k0 x5.toNat) (aShl 1 x4))), M.2.1, M.2.2)) ∧ (x3 = 1 → (InR (x5 * 12) ∧ InR ((x5 * 12) + x4)) ∧ (((x7 = 0 → ((0 ≤ ((x5 * 12) + x4) ∧ ((x5 * 12) + x4) < 72) ∧ (0 ≤ x6 ∧ x6 < 32))) ∧ (¬ (x7 = 0) → ((0 ≤ ((x5 * 12) + x4) ∧ ((x5 * 12) + x4) < 72) ∧ (0 ≤ x6 ∧ x6 < 32)))) ∧ ((0 ≤ ((x5 * 12) + x4) ∧ ((x5 * 12) + x4) < 72)) ∧ r = none ∧ M' = ((upI M.1 30 k0 ((x5 * 12) + x4).toNat (if x7 = 0 then (aAnd (M.1 30 k0 ((x5 * 12) + x4).toNat) (aXor (aShl 1 x6) (-1))) else (aOr (M.1 30 k0 ((x5 * 12) + x4).toNat) (aShl 1 x6)) : Int)), M.2.1, M.2.2)))) ∧ (x3 = 0 → ((x7 = 0 → ((0 ≤ x5 ∧ x5 < 10) ∧ (0 ≤ x4 ∧ x4 < 32))) ∧ (¬ (x7 = 0) → ((0 ≤ x5 ∧ x5 < 10) ∧ (0 ≤ x4 ∧ x4 < 32)))) ∧ ((0 ≤ x5 ∧ x5 < 10)) ∧ r = none ∧ M' = ((upI M.1 29 k0 x5.toNat (if x7 = 0 then (aAnd (M.1 29 k0 x5.toNat) (aXor (aShl 1 x4) (-1))) else (aOr (M.1 29 k0 x5.toNat) (aShl 1 x4)) : Int)), M.2.1, M.2.2))) : Ex l G (d + 1) mX7_follow 106 [some (vR (some (14, k0))), some (vR (some (14, k1))), some (vI x2), some (vI x3), some (vI x4), some (vI x5), some (vI x6), some (vI x7), none] [] M r M' := by
  refine r_iload_n 107 dX7_follow_106 rfl rfl ?_
  refine r_if_ne 110 154 dX7_follow_107 rfl rfl (fun c => ?_) (fun c => ?_)
  · have h := h.1 (c)
    refine r_iload_n 155 dX7_follow_154 rfl rfl ?_
    refine r_iconst 156 dX7_follow_155 rfl (InR_of rfl) ?_
    refine r_icmp_ne 159 213 dX7_follow_156 rfl rfl (fun c => ?_) (fun c => ?_)
    · have h := h.1 (c)
      obtain ⟨⟨o_1, o_2, o_3, o_4⟩, h⟩ := h
      refine r_aload_n 214 dX7_follow_213 rfl rfl ?_
      refine g_R 217 dX7_follow_214 rfl rfl rfl fr_7_21 (sh_7_4 hS _) ?_
      refine r_aload_n 218 dX7_follow_217 rfl rfl ?_
      refine g_R 221 dX7_follow_218 rfl rfl rfl fr_7_18 (sh_7_3 hS _) ?_
      refine r_iload 223 dX7_follow_221 rfl rfl ?_
      refine a_I 12 224 dX7_follow_223 rfl rfl rfl rfl o_1 rfl ?_
      refine r_dup2 225 dX7_follow_224 rfl rfl ?_
      refine a_I 8 226 dX7_follow_225 rfl rfl rfl rfl o_2 rfl ?_
      refine r_iconst 227 dX7_follow_226 rfl (InR_of rfl) ?_
      refine r_iload 229 dX7_follow_227 rfl rfl ?_
      refine r_ishl 230 dX7_follow_229 rfl o_3 ?_
      refine r_iconst 231 dX7_follow_230 rfl (InR_of rfl) ?_
      refine r_ixor 232 dX7_follow_231 rfl ?_
      refine r_iand 233 dX7_follow_232 rfl ?_
      refine s_I 8 234 dX7_follow_233 rfl rfl (by decide) rfl rfl o_2 ?_
      refine r_aload_n 235 dX7_follow_234 rfl rfl ?_
      refine g_R 238 dX7_follow_235 rfl rfl rfl fr_7_18 (mR_0 (sh_7_3 hS _)) ?_
      refine r_iload 240 dX7_follow_238 rfl rfl ?_
      refine r_iload 242 dX7_follow_240 rfl rfl ?_
      refine s_I 12 243 dX7_follow_242 rfl rfl (by decide) rfl rfl o_1 ?_
      refine r_aload_n 244 dX7_follow_243 rfl rfl ?_
      refine g_R 247 dX7_follow_244 rfl rfl rfl fr_7_21 (mR_0 (sh_7_4 hS _)) ?_
      refine r_iload 249 dX7_follow_247 rfl rfl ?_
      refine r_dup2 250 dX7_follow_249 rfl rfl ?_
      refine a_I 8 251 dX7_follow_250 rfl rfl rfl rfl o_4 (mI_0 (upI_f rfl)) ?_
      refine r_iconst 252 dX7_follow_251 rfl (InR_of rfl) ?_
      refine r_iload 254 dX7_follow_252 rfl rfl ?_
      refine r_ishl 255 dX7_follow_254 rfl o_3 ?_
      refine r_ior 256 dX7_follow_255 rfl ?_
      refine s_I 8 257 dX7_follow_256 rfl rfl (by decide) rfl rfl o_4 ?_
      exact r_vret dX7_follow_257 rfl h.1 h.2
    · have h := h.2 (Decidable.not_not.mp c)
      obtain ⟨⟨o_5, o_6⟩, h⟩ := h
      refine r_iload 161 dX7_follow_159 rfl rfl ?_
      refine r_bipush 163 dX7_follow_161 rfl rfl ?_
      refine r_imul 164 dX7_follow_163 rfl o_5 ?_
      refine r_iload 166 dX7_follow_164 rfl rfl ?_
      refine r_iadd 167 dX7_follow_166 rfl o_6 ?_
      refine r_istore (ls' := [some (vR (some (14, k0))), some (vR (some (14, k1))), some (vI x2), some (vI x3), some (vI x4), some (vI x5), some (vI x6), some (vI x7), some (vI ((x5 * 12) + x4))]) 169 dX7_follow_167 rfl rfl rfl rfl ?_
      refine r_aload_n 170 dX7_follow_169 rfl rfl ?_
      refine g_R 173 dX7_follow_170 rfl rfl rfl fr_7_15 (sh_7_2 hS _) ?_
      refine r_iload 175 dX7_follow_173 rfl rfl ?_
      refine r_iload 177 dX7_follow_175 rfl rfl ?_
      obtain ⟨h0, h⟩ := h
      have hJ_7 : Ex l G (d + 1) mX7_follow 209 [some (vR (some (14, k0))), some (vR (some (14, k1))), some (vI x2), some (vI x3), some (vI x4), some (vI x5), some (vI x6), some (vI x7), some (vI ((x5 * 12) + x4))] [vI (if x7 = 0 then (aAnd (M.1 30 k0 ((x5 * 12) + x4).toNat) (aXor (aShl 1 x6) (-1))) else (aOr (M.1 30 k0 ((x5 * 12) + x4).toNat) (aShl 1 x6)) : Int), vI ((x5 * 12) + x4), vR (some (30, k0))] M r M' := by
        obtain ⟨o_13, h⟩ := h
        refine s_I 72 210 dX7_follow_209 rfl rfl (by decide) rfl rfl o_13 ?_
        refine r_goto 257 dX7_follow_210 rfl ?_
        exact r_vret dX7_follow_257 rfl h.1 h.2
      have h := h0
      refine r_if_eq 180 195 dX7_follow_177 rfl rfl (fun c => ?_) (fun c => ?_)
      · have c_8 := c
        have h := h.1 c_8
        obtain ⟨o_9, o_10⟩ := h
        refine r_aload_n 196 dX7_follow_195 rfl rfl ?_
        refine g_R 199 dX7_follow_196 rfl rfl rfl fr_7_15 (sh_7_2 hS _) ?_
        refine r_iload 201 dX7_follow_199 rfl rfl ?_
        refine a_I 72 202 dX7_follow_201 rfl rfl rfl rfl o_9 rfl ?_
        refine r_iconst 203 dX7_follow_202 rfl (InR_of rfl) ?_
        refine r_iload 205 dX7_follow_203 rfl rfl ?_
        refine r_ishl 206 dX7_follow_205 rfl o_10 ?_
        refine r_iconst 207 dX7_follow_206 rfl (InR_of rfl) ?_
        refine r_ixor 208 dX7_follow_207 rfl ?_
        refine r_iand 209 dX7_follow_208 rfl ?_
        exact (Ex.at hJ_7 rfl (show [vI (aAnd (M.1 30 k0 ((x5 * 12) + x4).toNat) (aXor (aShl 1 x6) (-1))), vI ((x5 * 12) + x4), vR (some (30, k0))] = [vI (if x7 = 0 then (aAnd (M.1 30 k0 ((x5 * 12) + x4).toNat) (aXor (aShl 1 x6) (-1))) else (aOr (M.1 30 k0 ((x5 * 12) + x4).toNat) (aShl 1 x6)) : Int), vI ((x5 * 12) + x4), vR (some (30, k0))] by simp only [if_pos c_8]) rfl)
      · have c_8 := c
        have h := h.2 c_8
        obtain ⟨o_11, o_12⟩ := h
        refine r_aload_n 181 dX7_follow_180 rfl rfl ?_
        refine g_R 184 dX7_follow_181 rfl rfl rfl fr_7_15 (sh_7_2 hS _) ?_
        refine r_iload 186 dX7_follow_184 rfl rfl ?_
        refine a_I 72 187 dX7_follow_186 rfl rfl rfl rfl o_11 rfl ?_
        refine r_iconst 188 dX7_follow_187 rfl (InR_of rfl) ?_
        refine r_iload 190 dX7_follow_188 rfl rfl ?_
        refine r_ishl 191 dX7_follow_190 rfl o_12 ?_
        refine r_ior 192 dX7_follow_191 rfl ?_
        refine r_goto 209 dX7_follow_192 rfl ?_
        exact (Ex.at hJ_7 rfl (show [vI (aOr (M.1 30 k0 ((x5 * 12) + x4).toNat) (aShl 1 x6)), vI ((x5 * 12) + x4), vR (some (30, k0))] = [vI (if x7 = 0 then (aAnd (M.1 30 k0 ((x5 * 12) + x4).toNat) (aXor (aShl 1 x6) (-1))) else (aOr (M.1 30 k0 ((x5 * 12) + x4).toNat) (aShl 1 x6)) : Int), vI ((x5 * 12) + x4), vR (some (30, k0))] by simp only [if_neg c_8]) rfl)
  · have h := h.2 (Decidable.not_not.mp c)
    refine r_aload_n 111 dX7_follow_110 rfl rfl ?_
    refine g_R 114 dX7_follow_111 rfl rfl rfl fr_7_9 (sh_7_1 hS _) ?_
    refine r_iload 116 dX7_follow_114 rfl rfl ?_
    refine r_iload 118 dX7_follow_116 rfl rfl ?_
    obtain ⟨h0, h⟩ := h
    have hJ_14 : Ex l G (d + 1) mX7_follow 150 [some (vR (some (14, k0))), some (vR (some (14, k1))), some (vI x2), some (vI x3), some (vI x4), some (vI x5), some (vI x6), some (vI x7), none] [vI (if x7 = 0 then (aAnd (M.1 29 k0 x5.toNat) (aXor (aShl 1 x4) (-1))) else (aOr (M.1 29 k0 x5.toNat) (aShl 1 x4)) : Int), vI x5, vR (some (29, k0))] M r M' := by
      obtain ⟨o_20, h⟩ := h
      refine s_I 10 151 dX7_follow_150 rfl rfl (by decide) rfl rfl o_20 ?_
      refine r_goto 257 dX7_follow_151 rfl ?_
      exact r_vret dX7_follow_257 rfl h.1 h.2
    have h := h0
    refine r_if_eq 121 136 dX7_follow_118 rfl rfl (fun c => ?_) (fun c => ?_)
    · have c_15 := c
      have h := h.1 c_15
      obtain ⟨o_16, o_17⟩ := h
      refine r_aload_n 137 dX7_follow_136 rfl rfl ?_
      refine g_R 140 dX7_follow_137 rfl rfl rfl fr_7_9 (sh_7_1 hS _) ?_
      refine r_iload 142 dX7_follow_140 rfl rfl ?_
      refine a_I 10 143 dX7_follow_142 rfl rfl rfl rfl o_16 rfl ?_
      refine r_iconst 144 dX7_follow_143 rfl (InR_of rfl) ?_
      refine r_iload 146 dX7_follow_144 rfl rfl ?_
      refine r_ishl 147 dX7_follow_146 rfl o_17 ?_
      refine r_iconst 148 dX7_follow_147 rfl (InR_of rfl) ?_
      refine r_ixor 149 dX7_follow_148 rfl ?_
      refine r_iand 150 dX7_follow_149 rfl ?_
      exact (Ex.at hJ_14 rfl (show [vI (aAnd (M.1 29 k0 x5.toNat) (aXor (aShl 1 x4) (-1))), vI x5, vR (some (29, k0))] = [vI (if x7 = 0 then (aAnd (M.1 29 k0 x5.toNat) (aXor (aShl 1 x4) (-1))) else (aOr (M.1 29 k0 x5.toNat) (aShl 1 x4)) : Int), vI x5, vR (some (29, k0))] by simp only [if_pos c_15]) rfl)
    · have c_15 := c
      have h := h.2 c_15
      obtain ⟨o_18, o_19⟩ := h
      refine r_aload_n 122 dX7_follow_121 rfl rfl ?_
      refine g_R 125 dX7_follow_122 rfl rfl rfl fr_7_9 (sh_7_1 hS _) ?_
      refine r_iload 127 dX7_follow_125 rfl rfl ?_
      refine a_I 10 128 dX7_follow_127 rfl rfl rfl rfl o_18 rfl ?_
      refine r_iconst 129 dX7_follow_128 rfl (InR_of rfl) ?_
      refine r_iload 131 dX7_follow_129 rfl rfl ?_
      refine r_ishl 132 dX7_follow_131 rfl o_19 ?_
      refine r_ior 133 dX7_follow_132 rfl ?_
      refine r_goto 150 dX7_follow_133 rfl ?_
      exact (Ex.at hJ_14 rfl (show [vI (aOr (M.1 29 k0 x5.toNat) (aShl 1 x4)), vI x5, vR (some (29, k0))] = [vI (if x7 = 0 then (aAnd (M.1 29 k0 x5.toNat) (aXor (aShl 1 x4) (-1))) else (aOr (M.1 29 k0 x5.toNat) (aShl 1 x4)) : Int), vI x5, vR (some (29, k0))] by simp only [if_neg c_15]) rfl)

def pk (Q : QT) (j : Nat) : Int := pkN (Q 56 j) (Q 57 j) (Q 58 j) (Q 59 j) (if Q 57 j = 1 then Q 60 j else 0) (Q 61 j)
theorem pkQ_in {Q : QT} (h : WFc Q) {j : Nat} (hj : j < nCh Q) : aShr (pk Q j) 15 = Q 56 j ∧ aAnd (aShr (pk Q j) 13) 3 = Q 57 j ∧ aAnd (aShr (pk Q j) 9) 15 = Q 58 j ∧ aAnd (aShr (pk Q j) 5) 15 = Q 59 j ∧ aAnd (aShr (pk Q j) 1) 15 = (if Q 57 j = 1 then Q 60 j else 0) ∧ aAnd (pk Q j) 1 = Q 61 j := by
  have w := h.2.2.2 j hj
  have hp := h.1
  refine pkN_day w.1 w.2.1 (by omega) ?_ ?_ w.2.2.2.2.2.2.2
  · refine ⟨w.2.2.2.1, ?_⟩
    by_cases c0 : Q 57 j = 0
    · exact w.2.2.2.2.1 c0
    · by_cases c1 : Q 57 j = 1
      · have := (w.2.2.2.2.2.1 c1).1; omega
      · have := w.2.2.2.2.2.2.1 (by omega); omega
  · split
    · rename_i c; have := (w.2.2.2.2.2.1 c).2; omega
    · omega
/-- the class's state holds the people and changes of Q -/
def ClsC (Q : QT) (I : IM) : Prop := I 4 0 0 = Q 48 0 ∧ I 4 0 4 = Q 48 2 ∧ (∀ p, p < 12 → I 33 0 p = Q 49 p) ∧ ∀ i, i < nCh Q → I 35 0 i = pk Q (srt Q i)
def Snap (Q : QT) (I : IM) (k n : Nat) : Prop := (∀ m, m < 10 → I 29 k m = bI 12 (fun p => mkF Q n p m)) ∧ (∀ t p, t < 6 → p < 12 → I 30 k (12 * t + p) = bI 12 (fun q => tiF Q n p t q)) ∧ (∀ p, p < nPp Q → I 31 k p = plF Q n p) ∧ ∀ a, a < 8 → I 32 k a = bI 12 (fun p => decide (p < nPp Q ∧ plF Q n p = a))
def sameS (k : Nat) (I I' : IM) : Prop := ∀ f j i, ¬ ((f = 29 ∨ f = 30 ∨ f = 31 ∨ f = 32) ∧ j = k) → I' f j i = I f j i
theorem sameS.rf {k : Nat} {I : IM} : sameS k I I := fun _ _ _ _ => rfl
theorem sameS.tr {k : Nat} {I I' I'' : IM} (h : sameS k I I') (h' : sameS k I' I'') : sameS k I I'' := fun f j i hn => (h' f j i hn).trans (h f j i hn)
theorem sameS.up {k f i : Nat} {I : IM} {v : Int} (h : f = 29 ∨ f = 30 ∨ f = 31 ∨ f = 32) : sameS k I (upI I f k i v) := by
  intro f' j i' hn
  rw [upI_o (fun e => hn ⟨by rw [e.1]; exact h, e.2⟩)]
theorem sameS.se {k f : Nat} {I : IM} {g : Nat → Int} (h : f = 29 ∨ f = 30 ∨ f = 31 ∨ f = 32) : sameS k I (seI I f k g) := by
  intro f' j i' hn
  rw [seI_o (fun e => hn ⟨by rw [e.1]; exact h, e.2⟩)]
theorem ClsC.same {Q : QT} {k : Nat} {I I' : IM} (h : ClsC Q I) (hs : sameS k I I') : ClsC Q I' := by
  refine ⟨?_, ?_, fun p hp => ?_, fun i hi => ?_⟩
  · rw [hs _ _ _ (by omega)]; exact h.1
  · rw [hs _ _ _ (by omega)]; exact h.2.1
  · rw [hs _ _ _ (by omega)]; exact h.2.2.1 p hp
  · rw [hs _ _ _ (by omega)]; exact h.2.2.2 i hi
theorem Snap.same {Q : QT} {k k' n : Nat} {I I' : IM} (h : Snap Q I k' n) (hne : k' ≠ k) (hs : sameS k I I') : Snap Q I' k' n := by
  refine ⟨fun m hm => ?_, fun t p ht hp => ?_, fun p hp => ?_, fun a ha => ?_⟩
  · rw [hs _ _ _ (by omega)]; exact h.1 m hm
  · rw [hs _ _ _ (by omega)]; exact h.2.1 t p ht hp
  · rw [hs _ _ _ (by omega)]; exact h.2.2.1 p hp
  · rw [hs _ _ _ (by omega)]; exact h.2.2.2 a ha
section SN
variable {l : Launch} {G : Gt} {d : Nat}
theorem KX7_beginWith {Q : QT} {M : Mem} {k : Nat} (hS : Sh M.2.1) (hw : WFc Q) (hC : ClsC Q M.1) :
    ∃ I', Cl l G (d + 1) mX7_beginWith [vR (some (14, k)), vR (some (4, 0))] M none (I', M.2.1, M.2.2) ∧ sameS k M.1 I' ∧ Snap Q I' k 0 := by
  have h12 := nPp_le hw
  have hpp := nPp_eq hw
  have key := loopUp (P := fun p => ∀ M : Mem, Sh M.2.1 → ClsC Q M.1 → (∀ m, m < 10 → M.1 29 k m = 0) → (∀ i, i < 72 → M.1 30 k i = 0) → (∀ q, q < p → M.1 31 k q = Q 49 q) → (∀ a, a < 8 → M.1 32 k a = bI 12 (fun q => decide (q < p ∧ Q 49 q = a))) →
    ∃ I', Ex l G (d + 1) mX7_beginWith 26 [some (vR (some (14, k))), some (vR (some (4, 0))), some (vI (p : Int))] [] M none (I', M.2.1, M.2.2) ∧ sameS k M.1 I' ∧ Snap Q I' k 0) 0 (nPp Q) (Nat.zero_le _) ?_ ?_
  · have hs1 : sameS k M.1 (flI (flI (flI M.1 29 k 10 0) 30 k 72 0) 32 k 8 0) := ((sameS.se (by omega)).tr (sameS.se (by omega))).tr (sameS.se (by omega))
    obtain ⟨I2, hx, hs2, hL2⟩ := key (flI (flI (flI M.1 29 k 10 0) 30 k 72 0) 32 k 8 0, M.2.1, M.2.2) hS (hC.same hs1) (fun m hm => by dsimp only; rw [flI_f rfl, flI_f rfl, flI_s, if_pos hm]) (fun i hi => by dsimp only; rw [flI_f rfl, flI_s, if_pos hi]) (fun q hq => by omega) (fun a ha => by
      dsimp only
      rw [flI_s, if_pos ha]
      exact (bI_false (n := 12)).symm.trans (bI_ext fun i hi => by simp))
    exact ⟨I2, xX7_beginWith_0 hS hx, hs1.tr hs2, hL2⟩
  · intro p _ hp ih M hS hC h1 h2 h3 h4
    have eh := hC.2.2.1 p (by omega)
    have hh := hw.2.2.1 p (by omega)
    obtain ⟨a, ea⟩ := Int.eq_ofNat_of_zero_le hh.1
    have ha8 : a < 8 := by omega
    have hs1 : sameS k M.1 (upI (upI M.1 31 k p a) 32 k a (aOr (M.1 32 k a) (aShl 1 p))) := (sameS.up (by omega)).tr (sameS.up (by omega))
    obtain ⟨I2, hx, hs2, hL2⟩ := ih (upI (upI M.1 31 k p a) 32 k a (aOr (M.1 32 k a) (aShl 1 p)), M.2.1, M.2.2) hS (hC.same hs1) (fun m hm => by dsimp only; rw [upI_f rfl, upI_f rfl]; exact h1 m hm) (fun i hi => by dsimp only; rw [upI_f rfl, upI_f rfl]; exact h2 i hi) (fun q hq => by
      dsimp only
      rw [upI_f rfl, upI_c]
      split
      · rename_i e; rw [e, ea]
      · exact h3 q (by omega)) (fun b hb => by
      dsimp only
      rw [upI_c]
      by_cases e : b = a
      · subst e
        rw [if_pos rfl, h4 b hb]
        refine bI_of (by omega) (aOr_in _ _) fun i hi => ?_
        rw [tb_or, tb_bI (by omega), tb_one_shl (by omega) (by omega)]
        by_cases e2 : i = p
        · subst e2; simp [ea, show i < 12 by omega]
        · have e3 : ¬ ((i : Int) = p) := by omega
          have e4 : (i < p + 1) ↔ i < p := by omega
          simp [e3, e4]
      · rw [if_neg e, upI_f rfl, h4 b hb]
        refine bI_ext fun i hi => ?_
        by_cases e2 : i = p
        · subst e2; simp [ea]; omega
        · have e4 : (i < p + 1) ↔ i < p := by omega
          simp [e4])
    refine ⟨I2, xX7_beginWith_26 hS ⟨fun c => ?_, fun _ => ?_⟩, hs1.tr hs2, hL2⟩
    · rw [hC.1, hpp] at c; omega
    · simp only [Int.toNat_natCast, eh, ea]
      exact ⟨⟨by omega, by omega, by omega, by unfold InR; omega⟩, hx⟩
  · intro M hS hC h1 h2 h3 h4
    refine ⟨M.1, xX7_beginWith_26 hS ⟨fun _ => ⟨rfl, rfl⟩, fun c => absurd ?_ c⟩, sameS.rf, fun m hm => ?_, fun t p ht hp => ?_, fun p hp => h3 p hp, fun a ha => h4 a ha⟩
    · rw [hC.1, hpp]; exact Int.le_refl _
    · rw [h1 m hm]; exact bI_false.symm
    · rw [h2 _ (by omega)]; exact bI_false.symm
theorem cp_row {I : IM} {f k1 k0 N i : Nat} (hi : i < N) : cpI I f k1 f k0 0 0 N f k0 i = I f k1 i := by
  rw [cpI_s, pk_cpy_in (Nat.zero_le _) (by omega)]
  congr 1
  omega
end SN
