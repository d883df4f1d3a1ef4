set_option maxRecDepth 4000 in
theorem xX11_isPlace_0 {l : Launch} {G : Gt} {d : Nat} {M M' : Mem} {r : Option Vl} {x0 : Int} (h : 
    (((if x0 < 0 then 0 else (if 8 ≤ x0 then 0 else 1 : Int) : Int) = 0 ∨ (if x0 < 0 then 0 else (if 8 ≤ x0 then 0 else 1 : Int) : Int) = 1)) ∧ r = some (vI (if x0 < 0 then 0 else (if 8 ≤ x0 then 0 else 1 : Int) : Int)) ∧ M' = M) : Cl l G d mX11_isPlace [vI x0] M r M' := by
  show Ex l G d mX11_isPlace 0 [some (vI x0)] [] M r M'
  refine r_iload_n 1 dX11_isPlace_0 rfl rfl ?_
  have hJ1 : Ex l G d mX11_isPlace 15 [some (vI x0)] [vI (if x0 < 0 then 0 else (if 8 ≤ x0 then 0 else 1 : Int) : Int)] M r M' := by
    obtain ⟨o4, h⟩ := h
    exact r_iret dX11_isPlace_15 rfl (.inr ⟨rfl, o4⟩) h.1 h.2
  refine r_if_lt 4 14 dX11_isPlace_1 rfl rfl (fun c => ?_) (fun c => ?_)
  · have c2 := c
    refine r_iconst 15 dX11_isPlace_14 rfl (InR_of rfl) ?_
    simp only [if_pos c2] at hJ1
    exact hJ1
  · have c2 := c
    refine r_iload_n 5 dX11_isPlace_4 rfl rfl ?_
    refine r_bipush 7 dX11_isPlace_5 rfl rfl ?_
    refine r_icmp_ge 10 14 dX11_isPlace_7 rfl rfl (fun c => ?_) (fun c => ?_)
    · have c3 := c
      refine r_iconst 15 dX11_isPlace_14 rfl (InR_of rfl) ?_
      simp only [if_neg c2, if_pos c3] at hJ1
      exact hJ1
    · have c3 := c
      refine r_iconst 11 dX11_isPlace_10 rfl (InR_of rfl) ?_
      refine r_goto 15 dX11_isPlace_11 rfl ?_
      simp only [if_neg c2, if_neg c3] at hJ1
      exact hJ1

set_option maxRecDepth 4000 in
theorem xX11_isPerson_0 {l : Launch} {G : Gt} {d : Nat} {M M' : Mem} {r : Option Vl} {x1 : Int} (hS : Sh M.2.1) (h : 
    (((if x1 < 0 then 0 else (if (M.1 4 0 0) ≤ x1 then 0 else 1 : Int) : Int) = 0 ∨ (if x1 < 0 then 0 else (if (M.1 4 0 0) ≤ x1 then 0 else 1 : Int) : Int) = 1)) ∧ r = some (vI (if x1 < 0 then 0 else (if (M.1 4 0 0) ≤ x1 then 0 else 1 : Int) : Int)) ∧ M' = M) : Cl l G d mX11_isPerson [vR (some (2, 0)), vI x1] M r M' := by
  show Ex l G d mX11_isPerson 0 [some (vR (some (2, 0))), some (vI x1)] [] M r M'
  refine r_iload_n 1 dX11_isPerson_0 rfl rfl ?_
  have hJ1 : Ex l G d mX11_isPerson 20 [some (vR (some (2, 0))), some (vI x1)] [vI (if x1 < 0 then 0 else (if (M.1 4 0 0) ≤ x1 then 0 else 1 : Int) : Int)] M r M' := by
    obtain ⟨o4, h⟩ := h
    exact r_iret dX11_isPerson_20 rfl (.inr ⟨rfl, o4⟩) h.1 h.2
  refine r_if_lt 4 19 dX11_isPerson_1 rfl rfl (fun c => ?_) (fun c => ?_)
  · have c2 := c
    refine r_iconst 20 dX11_isPerson_19 rfl (InR_of rfl) ?_
    simp only [if_pos c2] at hJ1
    exact hJ1
  · have c2 := c
    refine r_iload_n 5 dX11_isPerson_4 rfl rfl ?_
    refine r_aload_n 6 dX11_isPerson_5 rfl rfl ?_
    refine g_R 9 dX11_isPerson_6 rfl rfl rfl fr_11_12 (sh_11_0 hS) ?_
    refine g_I 12 dX11_isPerson_9 rfl rfl rfl fi_11_105 rfl ?_
    refine r_icmp_ge 15 19 dX11_isPerson_12 rfl rfl (fun c => ?_) (fun c => ?_)
    · have c3 := c
      refine r_iconst 20 dX11_isPerson_19 rfl (InR_of rfl) ?_
      simp only [if_neg c2, if_pos c3] at hJ1
      exact hJ1
    · have c3 := c
      refine r_iconst 16 dX11_isPerson_15 rfl (InR_of rfl) ?_
      refine r_goto 20 dX11_isPerson_16 rfl ?_
      simp only [if_neg c2, if_neg c3] at hJ1
      exact hJ1

set_option maxRecDepth 4000 in
theorem xX7_marksOf_0 {l : Launch} {G : Gt} {d : Nat} {M M' : Mem} {r : Option Vl} {k0 : Nat} {x1 : Int} (h : 
    Ex l G d mX7_marksOf 4 [some (vR (some (14, k0))), some (vI x1), some (vI 0), some (vI 0)] [] M r M') : Cl l G d mX7_marksOf [vR (some (14, k0)), vI x1] M r M' := by
  show Ex l G d mX7_marksOf 0 [some (vR (some (14, k0))), some (vI x1), none, none] [] M r M'
  refine r_iconst 1 dX7_marksOf_0 rfl (InR_of rfl) ?_
  refine r_istore_n (ls' := [some (vR (some (14, k0))), some (vI x1), some (vI 0), none]) 2 dX7_marksOf_1 rfl rfl rfl rfl ?_
  refine r_iconst 3 dX7_marksOf_2 rfl (InR_of rfl) ?_
  refine r_istore_n (ls' := [some (vR (some (14, k0))), some (vI x1), some (vI 0), some (vI 0)]) 4 dX7_marksOf_3 rfl rfl rfl rfl ?_
  exact h
set_option maxRecDepth 4000 in
theorem xX7_marksOf_4 {l : Launch} {G : Gt} {d : Nat} {M M' : Mem} {r : Option Vl} {k0 : Nat} {x1 : Int} {x2 : Int} {x3 : Int} (hS : Sh M.2.1) (h : 
    (10 ≤ x3 → r = some (vI x2) ∧ M' = M) ∧ (¬ (10 ≤ x3) → ((0 ≤ x3 ∧ x3 < 10) ∧ (0 ≤ x1 ∧ x1 < 32) ∧ (0 ≤ x3 ∧ x3 < 32) ∧ InR (x3 + 1)) ∧ Ex l G d mX7_marksOf 4 [some (vR (some (14, k0))), some (vI x1), some (vI (aOr x2 (aShl (aAnd (aShr (M.1 29 k0 x3.toNat) x1) 1) x3))), some (vI (x3 + 1))] [] M r M')) : Ex l G d mX7_marksOf 4 [some (vR (some (14, k0))), some (vI x1), some (vI x2), some (vI x3)] [] M r M' := by
  refine r_iload_n 5 dX7_marksOf_4 rfl rfl ?_
  refine r_bipush 7 dX7_marksOf_5 rfl rfl ?_
  refine r_icmp_ge 10 31 dX7_marksOf_7 rfl rfl (fun c => ?_) (fun c => ?_)
  · have h := h.1 (c)
    refine r_iload_n 32 dX7_marksOf_31 rfl rfl ?_
    exact r_iret dX7_marksOf_32 rfl (.inl rfl) h.1 h.2
  · have h := h.2 (c)
    obtain ⟨⟨o1, o2, o3, o4⟩, h⟩ := h
    refine r_iload_n 11 dX7_marksOf_10 rfl rfl ?_
    refine r_aload_n 12 dX7_marksOf_11 rfl rfl ?_
    refine g_R 15 dX7_marksOf_12 rfl rfl rfl fr_7_9 (sh_7_1 hS _) ?_
    refine r_iload_n 16 dX7_marksOf_15 rfl rfl ?_
    refine a_I 10 17 dX7_marksOf_16 rfl rfl rfl rfl o1 rfl ?_
    refine r_iload_n 18 dX7_marksOf_17 rfl rfl ?_
    refine r_ishr 19 dX7_marksOf_18 rfl o2 ?_
    refine r_iconst 20 dX7_marksOf_19 rfl (InR_of rfl) ?_
    refine r_iand 21 dX7_marksOf_20 rfl ?_
    refine r_iload_n 22 dX7_marksOf_21 rfl rfl ?_
    refine r_ishl 23 dX7_marksOf_22 rfl o3 ?_
    refine r_ior 24 dX7_marksOf_23 rfl ?_
    refine r_istore_n (ls' := [some (vR (some (14, k0))), some (vI x1), some (vI (aOr x2 (aShl (aAnd (aShr (M.1 29 k0 x3.toNat) x1) 1) x3))), some (vI x3)]) 25 dX7_marksOf_24 rfl rfl rfl rfl ?_
    refine r_iinc (ls' := [some (vR (some (14, k0))), some (vI x1), some (vI (aOr x2 (aShl (aAnd (aShr (M.1 29 k0 x3.toNat) x1) 1) x3))), some (vI (x3 + 1))]) 28 dX7_marksOf_25 rfl rfl rfl rfl o4 rfl ?_
    refine r_goto 4 dX7_marksOf_28 rfl ?_
    exact h

set_option maxRecDepth 4000 in
theorem xX8_addChange_0 {l : Launch} {G : Gt} {d : Nat} {M M' : Mem} {r : Option Vl} {k0 : Nat} {x1 : Int} {x2 : Int} {x3 : Int} {x4 : Int} {x5 : Int} {x6 : Int} (h : 
    Ex l G (d + 1) mX8_addChange 6 [some (vR (some (4, k0))), some (vI x1), some (vI x2), some (vI x3), some (vI x4), some (vI x5), some (vI x6), some (vI (M.1 4 k0 4))] [] M r M') : Cl l G (d + 1) mX8_addChange [vR (some (4, k0)), vI x1, vI x2, vI x3, vI x4, vI x5, vI x6] M r M' := by
  show Ex l G (d + 1) mX8_addChange 0 [some (vR (some (4, k0))), some (vI x1), some (vI x2), some (vI x3), some (vI x4), some (vI x5), some (vI x6), none] [] M r M'
  refine r_aload_n 1 dX8_addChange_0 rfl rfl ?_
  refine g_I 4 dX8_addChange_1 rfl rfl rfl fi_8_50 rfl ?_
  refine r_istore (ls' := [some (vR (some (4, k0))), some (vI x1), some (vI x2), some (vI x3), some (vI x4), some (vI x5), some (vI x6), some (vI (M.1 4 k0 4))]) 6 dX8_addChange_4 rfl rfl rfl rfl ?_
  exact h
set_option maxRecDepth 4000 in
theorem xX8_addChange_6 {l : Launch} {G : Gt} {d : Nat} {M M' : Mem} {r : Option Vl} {k0 : Nat} {x1 : Int} {x2 : Int} {x3 : Int} {x4 : Int} {x5 : Int} {x6 : Int} {x7 : Int} (hS : Sh M.2.1) (h : 
    (x7 ≤ 0 → ((0 ≤ x7 ∧ x7 < 60) ∧ InR ((M.1 4 k0 4) + 1)) ∧ r = some (vI x7) ∧ M' = ((upI (upI M.1 35 k0 x7.toNat (aOr (aOr (aOr (aOr (aOr (aShl x1 15) (aShl x2 13)) (aShl x3 9)) (aShl x4 5)) (aShl x5 1)) (if x6 = 0 then 0 else 1 : Int))) 4 k0 4 ((M.1 4 k0 4) + 1)), M.2.1, M.2.2)) ∧ (¬ (x7 ≤ 0) → (InR (x7 - 1) ∧ (0 ≤ (x7 - 1) ∧ (x7 - 1) < 60)) ∧ (∃ (r9 : Int) (M7 : Mem), Cl l G d mX8_dayOfChange [vI (M.1 35 k0 (x7 - 1).toNat)] M (some (vI r9)) M7 ∧ Sh M7.2.1 ∧ ((r9 ≤ x1 → ((0 ≤ x7 ∧ x7 < 60) ∧ InR ((M7.1 4 k0 4) + 1)) ∧ r = some (vI x7) ∧ M' = ((upI (upI M7.1 35 k0 x7.toNat (aOr (aOr (aOr (aOr (aOr (aShl x1 15) (aShl x2 13)) (aShl x3 9)) (aShl x4 5)) (aShl x5 1)) (if x6 = 0 then 0 else 1 : Int))) 4 k0 4 ((M7.1 4 k0 4) + 1)), M7.2.1, M7.2.2)) ∧ (¬ (r9 ≤ x1) → (InR (x7 - 1) ∧ (0 ≤ (x7 - 1) ∧ (x7 - 1) < 60) ∧ (0 ≤ x7 ∧ x7 < 60) ∧ InR (x7 + (-1))) ∧ Ex l G (d + 1) mX8_addChange 6 [some (vR (some (4, k0))), some (vI x1), some (vI x2), some (vI x3), some (vI x4), some (vI x5), some (vI x6), some (vI (x7 + (-1)))] [] ((upI M7.1 35 k0 x7.toNat (M7.1 35 k0 (x7 - 1).toNat)), M7.2.1, M7.2.2) r M'))))) : Ex l G (d + 1) mX8_addChange 6 [some (vR (some (4, k0))), some (vI x1), some (vI x2), some (vI x3), some (vI x4), some (vI x5), some (vI x6), some (vI x7)] [] M r M' := by
  refine r_iload 8 dX8_addChange_6 rfl rfl ?_
  refine r_if_le 11 49 dX8_addChange_8 rfl rfl (fun c => ?_) (fun c => ?_)
  · have h := h.1 (c)
    refine r_aload_n 50 dX8_addChange_49 rfl rfl ?_
    refine g_R 53 dX8_addChange_50 rfl rfl rfl fr_8_18 (sh_8_5 hS _) ?_
    refine r_iload 55 dX8_addChange_53 rfl rfl ?_
    refine r_iload_n 56 dX8_addChange_55 rfl rfl ?_
    refine r_bipush 58 dX8_addChange_56 rfl rfl ?_
    refine r_ishl 59 dX8_addChange_58 rfl ⟨by decide, by decide⟩ ?_
    refine r_iload_n 60 dX8_addChange_59 rfl rfl ?_
    refine r_bipush 62 dX8_addChange_60 rfl rfl ?_
    refine r_ishl 63 dX8_addChange_62 rfl ⟨by decide, by decide⟩ ?_
    refine r_ior 64 dX8_addChange_63 rfl ?_
    refine r_iload_n 65 dX8_addChange_64 rfl rfl ?_
    refine r_bipush 67 dX8_addChange_65 rfl rfl ?_
    refine r_ishl 68 dX8_addChange_67 rfl ⟨by decide, by decide⟩ ?_
    refine r_ior 69 dX8_addChange_68 rfl ?_
    refine r_iload 71 dX8_addChange_69 rfl rfl ?_
    refine r_iconst 72 dX8_addChange_71 rfl (InR_of rfl) ?_
    refine r_ishl 73 dX8_addChange_72 rfl ⟨by decide, by decide⟩ ?_
    refine r_ior 74 dX8_addChange_73 rfl ?_
    refine r_iload 76 dX8_addChange_74 rfl rfl ?_
    refine r_iconst 77 dX8_addChange_76 rfl (InR_of rfl) ?_
    refine r_ishl 78 dX8_addChange_77 rfl ⟨by decide, by decide⟩ ?_
    refine r_ior 79 dX8_addChange_78 rfl ?_
    refine r_iload 81 dX8_addChange_79 rfl rfl ?_
    have hJ1 : Ex l G (d + 1) mX8_addChange 89 [some (vR (some (4, k0))), some (vI x1), some (vI x2), some (vI x3), some (vI x4), some (vI x5), some (vI x6), some (vI x7)] [vI (if x6 = 0 then 0 else 1 : Int), vI (aOr (aOr (aOr (aOr (aShl x1 15) (aShl x2 13)) (aShl x3 9)) (aShl x4 5)) (aShl x5 1)), vI x7, vR (some (35, k0))] M r M' := by
      obtain ⟨⟨o3, o4⟩, h⟩ := h
      refine r_ior 90 dX8_addChange_89 rfl ?_
      refine s_I 60 91 dX8_addChange_90 rfl rfl (by decide) rfl rfl o3 ?_
      refine r_aload_n 92 dX8_addChange_91 rfl rfl ?_
      refine r_dup 93 dX8_addChange_92 rfl rfl ?_
      refine g_I 96 dX8_addChange_93 rfl rfl rfl fi_8_50 (mI_0 (upI_f rfl)) ?_
      refine r_iconst 97 dX8_addChange_96 rfl (InR_of rfl) ?_
      refine r_iadd 98 dX8_addChange_97 rfl o4 ?_
      refine p_I 101 dX8_addChange_98 rfl rfl rfl rfl pf_8_50 (.inl rfl) rfl ?_
      refine r_iload 103 dX8_addChange_101 rfl rfl ?_
      exact r_iret dX8_addChange_103 rfl (.inl rfl) h.1 h.2
    refine r_if_eq 84 88 dX8_addChange_81 rfl rfl (fun c => ?_) (fun c => ?_)
    · have c2 := c
      refine r_iconst 89 dX8_addChange_88 rfl (InR_of rfl) ?_
      simp only [if_pos c2] at hJ1
      exact hJ1
    · have c2 := c
      refine r_iconst 85 dX8_addChange_84 rfl (InR_of rfl) ?_
      refine r_goto 89 dX8_addChange_85 rfl ?_
      simp only [if_neg c2] at hJ1
      exact hJ1
  · have h := h.2 (c)
    obtain ⟨⟨o5, o6⟩, h⟩ := h
    refine r_aload_n 12 dX8_addChange_11 rfl rfl ?_
    refine g_R 15 dX8_addChange_12 rfl rfl rfl fr_8_18 (sh_8_5 hS _) ?_
    refine r_iload 17 dX8_addChange_15 rfl rfl ?_
    refine r_iconst 18 dX8_addChange_17 rfl (InR_of rfl) ?_
    refine r_isub 19 dX8_addChange_18 rfl o5 ?_
    refine a_I 60 20 dX8_addChange_19 rfl rfl rfl rfl o6 rfl ?_
    obtain ⟨r9, M7, hc8, hS, h⟩ := h
    refine c_1 [vI (M.1 35 k0 (x7 - 1).toNat)] [] 23 dX8_addChange_20 rfl rfl mo_X8_dayOfChange ml_8_72 rfl rfl hc8 ?_
    refine r_iload_n 24 dX8_addChange_23 rfl rfl ?_
    refine r_icmp_le 27 49 dX8_addChange_24 rfl rfl (fun c => ?_) (fun c => ?_)
    · have h := h.1 (c)
      refine r_aload_n 50 dX8_addChange_49 rfl rfl ?_
      refine g_R 53 dX8_addChange_50 rfl rfl rfl fr_8_18 (sh_8_5 hS _) ?_
      refine r_iload 55 dX8_addChange_53 rfl rfl ?_
      refine r_iload_n 56 dX8_addChange_55 rfl rfl ?_
      refine r_bipush 58 dX8_addChange_56 rfl rfl ?_
      refine r_ishl 59 dX8_addChange_58 rfl ⟨by decide, by decide⟩ ?_
      refine r_iload_n 60 dX8_addChange_59 rfl rfl ?_
      refine r_bipush 62 dX8_addChange_60 rfl rfl ?_
      refine r_ishl 63 dX8_addChange_62 rfl ⟨by decide, by decide⟩ ?_
      refine r_ior 64 dX8_addChange_63 rfl ?_
      refine r_iload_n 65 dX8_addChange_64 rfl rfl ?_
      refine r_bipush 67 dX8_addChange_65 rfl rfl ?_
      refine r_ishl 68 dX8_addChange_67 rfl ⟨by decide, by decide⟩ ?_
      refine r_ior 69 dX8_addChange_68 rfl ?_
      refine r_iload 71 dX8_addChange_69 rfl rfl ?_
      refine r_iconst 72 dX8_addChange_71 rfl (InR_of rfl) ?_
      refine r_ishl 73 dX8_addChange_72 rfl ⟨by decide, by decide⟩ ?_
      refine r_ior 74 dX8_addChange_73 rfl ?_
      refine r_iload 76 dX8_addChange_74 rfl rfl ?_
      refine r_iconst 77 dX8_addChange_76 rfl (InR_of rfl) ?_
      refine r_ishl 78 dX8_addChange_77 rfl ⟨by decide, by decide⟩ ?_
      refine r_ior 79 dX8_addChange_78 rfl ?_
      refine r_iload 81 dX8_addChange_79 rfl rfl ?_
      have hJ10 : Ex l G (d + 1) mX8_addChange 89 [some (vR (some (4, k0))), some (vI x1), some (vI x2), some (vI x3), some (vI x4), some (vI x5), some (vI x6), some (vI x7)] [vI (if x6 = 0 then 0 else 1 : Int), vI (aOr (aOr (aOr (aOr (aShl x1 15) (aShl x2 13)) (aShl x3 9)) (aShl x4 5)) (aShl x5 1)), vI x7, vR (some (35, k0))] M7 r M' := by
        obtain ⟨⟨o12, o13⟩, h⟩ := h
        refine r_ior 90 dX8_addChange_89 rfl ?_
        refine s_I 60 91 dX8_addChange_90 rfl rfl (by decide) rfl rfl o12 ?_
        refine r_aload_n 92 dX8_addChange_91 rfl rfl ?_
        refine r_dup 93 dX8_addChange_92 rfl rfl ?_
        refine g_I 96 dX8_addChange_93 rfl rfl rfl fi_8_50 (mI_0 (upI_f rfl)) ?_
        refine r_iconst 97 dX8_addChange_96 rfl (InR_of rfl) ?_
        refine r_iadd 98 dX8_addChange_97 rfl o13 ?_
        refine p_I 101 dX8_addChange_98 rfl rfl rfl rfl pf_8_50 (.inl rfl) rfl ?_
        refine r_iload 103 dX8_addChange_101 rfl rfl ?_
        exact r_iret dX8_addChange_103 rfl (.inl rfl) h.1 h.2
      refine r_if_eq 84 88 dX8_addChange_81 rfl rfl (fun c => ?_) (fun c => ?_)
      · have c11 := c
        refine r_iconst 89 dX8_addChange_88 rfl (InR_of rfl) ?_
        simp only [if_pos c11] at hJ10
        exact hJ10
      · have c11 := c
        refine r_iconst 85 dX8_addChange_84 rfl (InR_of rfl) ?_
        refine r_goto 89 dX8_addChange_85 rfl ?_
        simp only [if_neg c11] at hJ10
        exact hJ10
    · have h := h.2 (c)
      obtain ⟨⟨o14, o15, o16, o17⟩, h⟩ := h
      refine r_aload_n 28 dX8_addChange_27 rfl rfl ?_
      refine g_R 31 dX8_addChange_28 rfl rfl rfl fr_8_18 (sh_8_5 hS _) ?_
      refine r_iload 33 dX8_addChange_31 rfl rfl ?_
      refine r_aload_n 34 dX8_addChange_33 rfl rfl ?_
      refine g_R 37 dX8_addChange_34 rfl rfl rfl fr_8_18 (sh_8_5 hS _) ?_
      refine r_iload 39 dX8_addChange_37 rfl rfl ?_
      refine r_iconst 40 dX8_addChange_39 rfl (InR_of rfl) ?_
      refine r_isub 41 dX8_addChange_40 rfl o14 ?_
      refine a_I 60 42 dX8_addChange_41 rfl rfl rfl rfl o15 rfl ?_
      refine s_I 60 43 dX8_addChange_42 rfl rfl (by decide) rfl rfl o16 ?_
      refine r_iinc (ls' := [some (vR (some (4, k0))), some (vI x1), some (vI x2), some (vI x3), some (vI x4), some (vI x5), some (vI x6), some (vI (x7 + (-1)))]) 46 dX8_addChange_43 rfl rfl rfl rfl o17 rfl ?_
      refine r_goto 6 dX8_addChange_46 rfl ?_
      exact h

set_option maxRecDepth 4000 in
theorem xX7_follow_0 {l : Launch} {G : Gt} {d : Nat} {M M' : Mem} {r : Option Vl} {k0 : Nat} {k1 : Nat} {x2 : Int} (hS : Sh M.2.1) (h : 
    (¬ (aAnd (aShr x2 13) 3) = 0 → (¬ (aAnd (aShr x2 13) 3) = 1 → ((0 ≤ (aAnd (aShr x2 9) 15) ∧ (aAnd (aShr x2 9) 15) < 12) ∧ (0 ≤ ((cpI (cpI (cpI M.1 29 k1 29 k0 0 0 10) 30 k1 30 k0 0 0 72) 31 k1 31 k0 0 0 12) 31 k0 (aAnd (aShr x2 9) 15).toNat) ∧ ((cpI (cpI (cpI M.1 29 k1 29 k0 0 0 10) 30 k1 30 k0 0 0 72) 31 k1 31 k0 0 0 12) 31 k0 (aAnd (aShr x2 9) 15).toNat) < 8) ∧ (0 ≤ (aAnd (aShr x2 9) 15) ∧ (aAnd (aShr x2 9) 15) < 32) ∧ (0 ≤ ((cpI (cpI (cpI M.1 29 k1 29 k0 0 0 10) 30 k1 30 k0 0 0 72) 31 k1 31 k0 0 0 12) 31 k0 (aAnd (aShr x2 9) 15).toNat) ∧ ((cpI (cpI (cpI M.1 29 k1 29 k0 0 0 10) 30 k1 30 k0 0 0 72) 31 k1 31 k0 0 0 12) 31 k0 (aAnd (aShr x2 9) 15).toNat) < 8) ∧ (0 ≤ (aAnd (aShr x2 9) 15) ∧ (aAnd (aShr x2 9) 15) < 12) ∧ (0 ≤ (aAnd (aShr x2 5) 15) ∧ (aAnd (aShr x2 5) 15) < 8) ∧ (0 ≤ (aAnd (aShr x2 9) 15) ∧ (aAnd (aShr x2 9) 15) < 32) ∧ (0 ≤ (aAnd (aShr x2 5) 15) ∧ (aAnd (aShr x2 5) 15) < 8)) ∧ r = none ∧ M' = ((upI (upI (upI (cpI (cpI (cpI (cpI M.1 29 k1 29 k0 0 0 10) 30 k1 30 k0 0 0 72) 31 k1 31 k0 0 0 12) 32 k1 32 k0 0 0 8) 32 k0 ((cpI (cpI (cpI M.1 29 k1 29 k0 0 0 10) 30 k1 30 k0 0 0 72) 31 k1 31 k0 0 0 12) 31 k0 (aAnd (aShr x2 9) 15).toNat).toNat (aAnd ((cpI (cpI (cpI (cpI M.1 29 k1 29 k0 0 0 10) 30 k1 30 k0 0 0 72) 31 k1 31 k0 0 0 12) 32 k1 32 k0 0 0 8) 32 k0 ((cpI (cpI (cpI M.1 29 k1 29 k0 0 0 10) 30 k1 30 k0 0 0 72) 31 k1 31 k0 0 0 12) 31 k0 (aAnd (aShr x2 9) 15).toNat).toNat) (aXor (aShl 1 (aAnd (aShr x2 9) 15)) (-1)))) 31 k0 (aAnd (aShr x2 9) 15).toNat (aAnd (aShr x2 5) 15)) 32 k0 (aAnd (aShr x2 5) 15).toNat (aOr ((upI (cpI (cpI (cpI (cpI M.1 29 k1 29 k0 0 0 10) 30 k1 30 k0 0 0 72) 31 k1 31 k0 0 0 12) 32 k1 32 k0 0 0 8) 32 k0 ((cpI (cpI (cpI M.1 29 k1 29 k0 0 0 10) 30 k1 30 k0 0 0 72) 31 k1 31 k0 0 0 12) 31 k0 (aAnd (aShr x2 9) 15).toNat).toNat (aAnd ((cpI (cpI (cpI (cpI M.1 29 k1 29 k0 0 0 10) 30 k1 30 k0 0 0 72) 31 k1 31 k0 0 0 12) 32 k1 32 k0 0 0 8) 32 k0 ((cpI (cpI (cpI M.1 29 k1 29 k0 0 0 10) 30 k1 30 k0 0 0 72) 31 k1 31 k0 0 0 12) 31 k0 (aAnd (aShr x2 9) 15).toNat).toNat) (aXor (aShl 1 (aAnd (aShr x2 9) 15)) (-1)))) 32 k0 (aAnd (aShr x2 5) 15).toNat) (aShl 1 (aAnd (aShr x2 9) 15)))), M.2.1, M.2.2)) ∧ (¬ (¬ (aAnd (aShr x2 13) 3) = 1) → (InR ((aAnd (aShr x2 5) 15) * 12) ∧ InR (((aAnd (aShr x2 5) 15) * 12) + (aAnd (aShr x2 9) 15))) ∧ ((((if ¬ (aAnd x2 1) = 1 then 0 else 1 : Int) = 0 → ((0 ≤ (((aAnd (aShr x2 5) 15) * 12) + (aAnd (aShr x2 9) 15)) ∧ (((aAnd (aShr x2 5) 15) * 12) + (aAnd (aShr x2 9) 15)) < 72) ∧ (0 ≤ (aAnd (aShr x2 1) 15) ∧ (aAnd (aShr x2 1) 15) < 32))) ∧ (¬ ((if ¬ (aAnd x2 1) = 1 then 0 else 1 : Int) = 0) → ((0 ≤ (((aAnd (aShr x2 5) 15) * 12) + (aAnd (aShr x2 9) 15)) ∧ (((aAnd (aShr x2 5) 15) * 12) + (aAnd (aShr x2 9) 15)) < 72) ∧ (0 ≤ (aAnd (aShr x2 1) 15) ∧ (aAnd (aShr x2 1) 15) < 32)))) ∧ ((0 ≤ (((aAnd (aShr x2 5) 15) * 12) + (aAnd (aShr x2 9) 15)) ∧ (((aAnd (aShr x2 5) 15) * 12) + (aAnd (aShr x2 9) 15)) < 72)) ∧ r = none ∧ M' = ((upI (cpI (cpI (cpI (cpI M.1 29 k1 29 k0 0 0 10) 30 k1 30 k0 0 0 72) 31 k1 31 k0 0 0 12) 32 k1 32 k0 0 0 8) 30 k0 (((aAnd (aShr x2 5) 15) * 12) + (aAnd (aShr x2 9) 15)).toNat (if (if ¬ (aAnd x2 1) = 1 then 0 else 1 : Int) = 0 then (aAnd ((cpI (cpI M.1 29 k1 29 k0 0 0 10) 30 k1 30 k0 0 0 72) 30 k0 (((aAnd (aShr x2 5) 15) * 12) + (aAnd (aShr x2 9) 15)).toNat) (aXor (aShl 1 (aAnd (aShr x2 1) 15)) (-1))) else (aOr ((cpI (cpI M.1 29 k1 29 k0 0 0 10) 30 k1 30 k0 0 0 72) 30 k0 (((aAnd (aShr x2 5) 15) * 12) + (aAnd (aShr x2 9) 15)).toNat) (aShl 1 (aAnd (aShr x2 1) 15))) : Int)), M.2.1, M.2.2)))) ∧ (¬ (¬ (aAnd (aShr x2 13) 3) = 0) → (((if ¬ (aAnd x2 1) = 1 then 0 else 1 : Int) = 0 → ((0 ≤ (aAnd (aShr x2 5) 15) ∧ (aAnd (aShr x2 5) 15) < 10) ∧ (0 ≤ (aAnd (aShr x2 9) 15) ∧ (aAnd (aShr x2 9) 15) < 32))) ∧ (¬ ((if ¬ (aAnd x2 1) = 1 then 0 else 1 : Int) = 0) → ((0 ≤ (aAnd (aShr x2 5) 15) ∧ (aAnd (aShr x2 5) 15) < 10) ∧ (0 ≤ (aAnd (aShr x2 9) 15) ∧ (aAnd (aShr x2 9) 15) < 32)))) ∧ ((0 ≤ (aAnd (aShr x2 5) 15) ∧ (aAnd (aShr x2 5) 15) < 10)) ∧ r = none ∧ M' = ((upI (cpI (cpI (cpI (cpI M.1 29 k1 29 k0 0 0 10) 30 k1 30 k0 0 0 72) 31 k1 31 k0 0 0 12) 32 k1 32 k0 0 0 8) 29 k0 (aAnd (aShr x2 5) 15).toNat (if (if ¬ (aAnd x2 1) = 1 then 0 else 1 : Int) = 0 then (aAnd ((cpI M.1 29 k1 29 k0 0 0 10) 29 k0 (aAnd (aShr x2 5) 15).toNat) (aXor (aShl 1 (aAnd (aShr x2 9) 15)) (-1))) else (aOr ((cpI M.1 29 k1 29 k0 0 0 10) 29 k0 (aAnd (aShr x2 5) 15).toNat) (aShl 1 (aAnd (aShr x2 9) 15))) : Int)), M.2.1, M.2.2))) : Cl l G (d + 1) mX7_follow [vR (some (14, k0)), vR (some (14, k1)), vI x2] M r M' := by
  show Ex l G (d + 1) mX7_follow 0 [some (vR (some (14, k0))), some (vR (some (14, k1))), some (vI x2), none, none, none, none, none, none] [] M r M'
  refine r_aload_n 1 dX7_follow_0 rfl rfl ?_
  refine g_R 4 dX7_follow_1 rfl rfl rfl fr_7_9 (sh_7_1 hS _) ?_
  refine r_iconst 5 dX7_follow_4 rfl (InR_of rfl) ?_
  refine r_aload_n 6 dX7_follow_5 rfl rfl ?_
  refine g_R 9 dX7_follow_6 rfl rfl rfl fr_7_9 (sh_7_1 hS _) ?_
  refine r_iconst 10 dX7_follow_9 rfl (InR_of rfl) ?_
  refine r_bipush 12 dX7_follow_10 rfl rfl ?_
  refine cp_y 10 10 15 dX7_follow_12 rfl rfl rfl ⟨(inT3 (List.mem_of_getElem? (i := 236) rfl) rfl), (inT3 (List.mem_of_getElem? (i := 165) rfl) rfl), (inT3 (List.mem_of_getElem? (i := 164) rfl) rfl), (inT1 (List.mem_of_getElem? (i := 19) rfl) rfl)⟩ rfl rfl rfl rfl rfl ⟨by decide, by decide, by decide, by decide, by decide⟩ rfl ?_
  refine r_aload_n 16 dX7_follow_15 rfl rfl ?_
  refine g_R 19 dX7_follow_16 rfl rfl rfl fr_7_15 (mR_0 (sh_7_2 hS _)) ?_
  refine r_iconst 20 dX7_follow_19 rfl (InR_of rfl) ?_
  refine r_aload_n 21 dX7_follow_20 rfl rfl ?_
  refine g_R 24 dX7_follow_21 rfl rfl rfl fr_7_15 (mR_0 (sh_7_2 hS _)) ?_
  refine r_iconst 25 dX7_follow_24 rfl (InR_of rfl) ?_
  refine r_bipush 27 dX7_follow_25 rfl rfl ?_
  refine cp_y 72 72 30 dX7_follow_27 rfl rfl rfl ⟨(inT3 (List.mem_of_getElem? (i := 236) rfl) rfl), (inT3 (List.mem_of_getElem? (i := 165) rfl) rfl), (inT3 (List.mem_of_getElem? (i := 164) rfl) rfl), (inT1 (List.mem_of_getElem? (i := 19) rfl) rfl)⟩ rfl rfl rfl rfl rfl ⟨by decide, by decide, by decide, by decide, by decide⟩ rfl ?_
  refine r_aload_n 31 dX7_follow_30 rfl rfl ?_
  refine g_R 34 dX7_follow_31 rfl rfl rfl fr_7_18 (mR_0 (sh_7_3 hS _)) ?_
  refine r_iconst 35 dX7_follow_34 rfl (InR_of rfl) ?_
  refine r_aload_n 36 dX7_follow_35 rfl rfl ?_
  refine g_R 39 dX7_follow_36 rfl rfl rfl fr_7_18 (mR_0 (sh_7_3 hS _)) ?_
  refine r_iconst 40 dX7_follow_39 rfl (InR_of rfl) ?_
  refine r_bipush 42 dX7_follow_40 rfl rfl ?_
  refine cp_y 12 12 45 dX7_follow_42 rfl rfl rfl ⟨(inT3 (List.mem_of_getElem? (i := 236) rfl) rfl), (inT3 (List.mem_of_getElem? (i := 165) rfl) rfl), (inT3 (List.mem_of_getElem? (i := 164) rfl) rfl), (inT1 (List.mem_of_getElem? (i := 19) rfl) rfl)⟩ rfl rfl rfl rfl rfl ⟨by decide, by decide, by decide, by decide, by decide⟩ rfl ?_
  refine r_aload_n 46 dX7_follow_45 rfl rfl ?_
  refine g_R 49 dX7_follow_46 rfl rfl rfl fr_7_21 (mR_0 (sh_7_4 hS _)) ?_
  refine r_iconst 50 dX7_follow_49 rfl (InR_of rfl) ?_
  refine r_aload_n 51 dX7_follow_50 rfl rfl ?_
  refine g_R 54 dX7_follow_51 rfl rfl rfl fr_7_21 (mR_0 (sh_7_4 hS _)) ?_
  refine r_iconst 55 dX7_follow_54 rfl (InR_of rfl) ?_
  refine r_bipush 57 dX7_follow_55 rfl rfl ?_
  refine cp_y 8 8 60 dX7_follow_57 rfl rfl rfl ⟨(inT3 (List.mem_of_getElem? (i := 236) rfl) rfl), (inT3 (List.mem_of_getElem? (i := 165) rfl) rfl), (inT3 (List.mem_of_getElem? (i := 164) rfl) rfl), (inT1 (List.mem_of_getElem? (i := 19) rfl) rfl)⟩ rfl rfl rfl rfl rfl ⟨by decide, by decide, by decide, by decide, by decide⟩ rfl ?_
  refine r_iload_n 61 dX7_follow_60 rfl rfl ?_
  refine r_bipush 63 dX7_follow_61 rfl rfl ?_
  refine r_ishr 64 dX7_follow_63 rfl ⟨by decide, by decide⟩ ?_
  refine r_iconst 65 dX7_follow_64 rfl (InR_of rfl) ?_
  refine r_iand 66 dX7_follow_65 rfl ?_
  refine r_istore_n (ls' := [some (vR (some (14, k0))), some (vR (some (14, k1))), some (vI x2), some (vI (aAnd (aShr x2 13) 3)), none, none, none, none, none]) 67 dX7_follow_66 rfl rfl rfl rfl ?_
  refine r_iload_n 68 dX7_follow_67 rfl rfl ?_
  refine r_bipush 70 dX7_follow_68 rfl rfl ?_
  refine r_ishr 71 dX7_follow_70 rfl ⟨by decide, by decide⟩ ?_
  refine r_bipush 73 dX7_follow_71 rfl rfl ?_
  refine r_iand 74 dX7_follow_73 rfl ?_
  refine r_istore (ls' := [some (vR (some (14, k0))), some (vR (some (14, k1))), some (vI x2), some (vI (aAnd (aShr x2 13) 3)), some (vI (aAnd (aShr x2 9) 15)), none, none, none, none]) 76 dX7_follow_74 rfl rfl rfl rfl ?_
  refine r_iload_n 77 dX7_follow_76 rfl rfl ?_
  refine r_iconst 78 dX7_follow_77 rfl (InR_of rfl) ?_
  refine r_ishr 79 dX7_follow_78 rfl ⟨by decide, by decide⟩ ?_
  refine r_bipush 81 dX7_follow_79 rfl rfl ?_
  refine r_iand 82 dX7_follow_81 rfl ?_
  refine r_istore (ls' := [some (vR (some (14, k0))), some (vR (some (14, k1))), some (vI x2), some (vI (aAnd (aShr x2 13) 3)), some (vI (aAnd (aShr x2 9) 15)), some (vI (aAnd (aShr x2 5) 15)), none, none, none]) 84 dX7_follow_82 rfl rfl rfl rfl ?_
  refine r_iload_n 85 dX7_follow_84 rfl rfl ?_
  refine r_iconst 86 dX7_follow_85 rfl (InR_of rfl) ?_
  refine r_ishr 87 dX7_follow_86 rfl ⟨by decide, by decide⟩ ?_
  refine r_bipush 89 dX7_follow_87 rfl rfl ?_
  refine r_iand 90 dX7_follow_89 rfl ?_
  refine r_istore (ls' := [some (vR (some (14, k0))), some (vR (some (14, k1))), some (vI x2), some (vI (aAnd (aShr x2 13) 3)), some (vI (aAnd (aShr x2 9) 15)), some (vI (aAnd (aShr x2 5) 15)), some (vI (aAnd (aShr x2 1) 15)), none, none]) 92 dX7_follow_90 rfl rfl rfl rfl ?_
  refine r_iload_n 93 dX7_follow_92 rfl rfl ?_
  refine r_iconst 94 dX7_follow_93 rfl (InR_of rfl) ?_
  refine r_iand 95 dX7_follow_94 rfl ?_
  refine r_iconst 96 dX7_follow_95 rfl (InR_of rfl) ?_
  have hJ1 : Ex l G (d + 1) mX7_follow 104 [some (vR (some (14, k0))), some (vR (some (14, k1))), some (vI x2), some (vI (aAnd (aShr x2 13) 3)), some (vI (aAnd (aShr x2 9) 15)), some (vI (aAnd (aShr x2 5) 15)), some (vI (aAnd (aShr x2 1) 15)), none, none] [vI (if ¬ (aAnd x2 1) = 1 then 0 else 1 : Int)] ((cpI (cpI (cpI (cpI M.1 29 k1 29 k0 0 0 10) 30 k1 30 k0 0 0 72) 31 k1 31 k0 0 0 12) 32 k1 32 k0 0 0 8), M.2.1, M.2.2) r M' := by
    refine r_istore (ls' := [some (vR (some (14, k0))), some (vR (some (14, k1))), some (vI x2), some (vI (aAnd (aShr x2 13) 3)), some (vI (aAnd (aShr x2 9) 15)), some (vI (aAnd (aShr x2 5) 15)), some (vI (aAnd (aShr x2 1) 15)), some (vI (if ¬ (aAnd x2 1) = 1 then 0 else 1 : Int)), none]) 106 dX7_follow_104 rfl rfl rfl rfl ?_
    refine r_iload_n 107 dX7_follow_106 rfl rfl ?_
    refine r_if_ne 110 154 dX7_follow_107 rfl rfl (fun c => ?_) (fun c => ?_)
    · have h := h.1 (c)
      refine r_iload_n 155 dX7_follow_154 rfl rfl ?_
      refine r_iconst 156 dX7_follow_155 rfl (InR_of rfl) ?_
      refine r_icmp_ne 159 213 dX7_follow_156 rfl rfl (fun c => ?_) (fun c => ?_)
      · have h := h.1 (c)
        obtain ⟨⟨o3, o4, o5, o6, o7, o8, o9, o10⟩, h⟩ := h
        refine r_aload_n 214 dX7_follow_213 rfl rfl ?_
        refine g_R 217 dX7_follow_214 rfl rfl rfl fr_7_21 (mR_0 (sh_7_4 hS _)) ?_
        refine r_aload_n 218 dX7_follow_217 rfl rfl ?_
        refine g_R 221 dX7_follow_218 rfl rfl rfl fr_7_18 (mR_0 (sh_7_3 hS _)) ?_
        refine r_iload 223 dX7_follow_221 rfl rfl ?_
        refine a_I 12 224 dX7_follow_223 rfl rfl rfl rfl o3 (mI_0 (cpI_f rfl)) ?_
        refine r_dup2 225 dX7_follow_224 rfl rfl ?_
        refine a_I 8 226 dX7_follow_225 rfl rfl rfl rfl o4 (mI_0 rfl) ?_
        refine r_iconst 227 dX7_follow_226 rfl (InR_of rfl) ?_
        refine r_iload 229 dX7_follow_227 rfl rfl ?_
        refine r_ishl 230 dX7_follow_229 rfl o5 ?_
        refine r_iconst 231 dX7_follow_230 rfl (InR_of rfl) ?_
        refine r_ixor 232 dX7_follow_231 rfl ?_
        refine r_iand 233 dX7_follow_232 rfl ?_
        refine s_I 8 234 dX7_follow_233 rfl rfl (by decide) rfl rfl o6 ?_
        refine r_aload_n 235 dX7_follow_234 rfl rfl ?_
        refine g_R 238 dX7_follow_235 rfl rfl rfl fr_7_18 (mR_0 (sh_7_3 hS _)) ?_
        refine r_iload 240 dX7_follow_238 rfl rfl ?_
        refine r_iload 242 dX7_follow_240 rfl rfl ?_
        refine s_I 12 243 dX7_follow_242 rfl rfl (by decide) rfl rfl o7 ?_
        refine r_aload_n 244 dX7_follow_243 rfl rfl ?_
        refine g_R 247 dX7_follow_244 rfl rfl rfl fr_7_21 (mR_0 (sh_7_4 hS _)) ?_
        refine r_iload 249 dX7_follow_247 rfl rfl ?_
        refine r_dup2 250 dX7_follow_249 rfl rfl ?_
        refine a_I 8 251 dX7_follow_250 rfl rfl rfl rfl o8 (mI_0 (upI_f rfl)) ?_
        refine r_iconst 252 dX7_follow_251 rfl (InR_of rfl) ?_
        refine r_iload 254 dX7_follow_252 rfl rfl ?_
        refine r_ishl 255 dX7_follow_254 rfl o9 ?_
        refine r_ior 256 dX7_follow_255 rfl ?_
        refine s_I 8 257 dX7_follow_256 rfl rfl (by decide) rfl rfl o10 ?_
        exact r_vret dX7_follow_257 rfl h.1 h.2
      · have h := h.2 (c)
        obtain ⟨⟨o11, o12⟩, h⟩ := h
        refine r_iload 161 dX7_follow_159 rfl rfl ?_
        refine r_bipush 163 dX7_follow_161 rfl rfl ?_
        refine r_imul 164 dX7_follow_163 rfl o11 ?_
        refine r_iload 166 dX7_follow_164 rfl rfl ?_
        refine r_iadd 167 dX7_follow_166 rfl o12 ?_
        refine r_istore (ls' := [some (vR (some (14, k0))), some (vR (some (14, k1))), some (vI x2), some (vI (aAnd (aShr x2 13) 3)), some (vI (aAnd (aShr x2 9) 15)), some (vI (aAnd (aShr x2 5) 15)), some (vI (aAnd (aShr x2 1) 15)), some (vI (if ¬ (aAnd x2 1) = 1 then 0 else 1 : Int)), some (vI (((aAnd (aShr x2 5) 15) * 12) + (aAnd (aShr x2 9) 15)))]) 169 dX7_follow_167 rfl rfl rfl rfl ?_
        refine r_aload_n 170 dX7_follow_169 rfl rfl ?_
        refine g_R 173 dX7_follow_170 rfl rfl rfl fr_7_15 (mR_0 (sh_7_2 hS _)) ?_
        refine r_iload 175 dX7_follow_173 rfl rfl ?_
        refine r_iload 177 dX7_follow_175 rfl rfl ?_
        obtain ⟨h0, h⟩ := h
        have hJ13 : Ex l G (d + 1) mX7_follow 209 [some (vR (some (14, k0))), some (vR (some (14, k1))), some (vI x2), some (vI (aAnd (aShr x2 13) 3)), some (vI (aAnd (aShr x2 9) 15)), some (vI (aAnd (aShr x2 5) 15)), some (vI (aAnd (aShr x2 1) 15)), some (vI (if ¬ (aAnd x2 1) = 1 then 0 else 1 : Int)), some (vI (((aAnd (aShr x2 5) 15) * 12) + (aAnd (aShr x2 9) 15)))] [vI (if (if ¬ (aAnd x2 1) = 1 then 0 else 1 : Int) = 0 then (aAnd ((cpI (cpI M.1 29 k1 29 k0 0 0 10) 30 k1 30 k0 0 0 72) 30 k0 (((aAnd (aShr x2 5) 15) * 12) + (aAnd (aShr x2 9) 15)).toNat) (aXor (aShl 1 (aAnd (aShr x2 1) 15)) (-1))) else (aOr ((cpI (cpI M.1 29 k1 29 k0 0 0 10) 30 k1 30 k0 0 0 72) 30 k0 (((aAnd (aShr x2 5) 15) * 12) + (aAnd (aShr x2 9) 15)).toNat) (aShl 1 (aAnd (aShr x2 1) 15))) : Int), vI (((aAnd (aShr x2 5) 15) * 12) + (aAnd (aShr x2 9) 15)), vR (some (30, k0))] ((cpI (cpI (cpI (cpI M.1 29 k1 29 k0 0 0 10) 30 k1 30 k0 0 0 72) 31 k1 31 k0 0 0 12) 32 k1 32 k0 0 0 8), M.2.1, M.2.2) r M' := by
          obtain ⟨o19, h⟩ := h
          refine s_I 72 210 dX7_follow_209 rfl rfl (by decide) rfl rfl o19 ?_
          refine r_goto 257 dX7_follow_210 rfl ?_
          exact r_vret dX7_follow_257 rfl h.1 h.2
        have h := h0
        refine r_if_eq 180 195 dX7_follow_177 rfl rfl (fun c => ?_) (fun c => ?_)
        · have c14 := c
          have h := h.1 c14
          obtain ⟨o15, o16⟩ := h
          refine r_aload_n 196 dX7_follow_195 rfl rfl ?_
          refine g_R 199 dX7_follow_196 rfl rfl rfl fr_7_15 (mR_0 (sh_7_2 hS _)) ?_
          refine r_iload 201 dX7_follow_199 rfl rfl ?_
          refine a_I 72 202 dX7_follow_201 rfl rfl rfl rfl o15 (mI_0 ((cpI_f rfl).trans (cpI_f rfl))) ?_
          refine r_iconst 203 dX7_follow_202 rfl (InR_of rfl) ?_
          refine r_iload 205 dX7_follow_203 rfl rfl ?_
          refine r_ishl 206 dX7_follow_205 rfl o16 ?_
          refine r_iconst 207 dX7_follow_206 rfl (InR_of rfl) ?_
          refine r_ixor 208 dX7_follow_207 rfl ?_
          refine r_iand 209 dX7_follow_208 rfl ?_
          simp only [if_pos c14] at hJ13
          exact hJ13
        · have c14 := c
          have h := h.2 c14
          obtain ⟨o17, o18⟩ := h
          refine r_aload_n 181 dX7_follow_180 rfl rfl ?_
          refine g_R 184 dX7_follow_181 rfl rfl rfl fr_7_15 (mR_0 (sh_7_2 hS _)) ?_
          refine r_iload 186 dX7_follow_184 rfl rfl ?_
          refine a_I 72 187 dX7_follow_186 rfl rfl rfl rfl o17 (mI_0 ((cpI_f rfl).trans (cpI_f rfl))) ?_
          refine r_iconst 188 dX7_follow_187 rfl (InR_of rfl) ?_
          refine r_iload 190 dX7_follow_188 rfl rfl ?_
          refine r_ishl 191 dX7_follow_190 rfl o18 ?_
          refine r_ior 192 dX7_follow_191 rfl ?_
          refine r_goto 209 dX7_follow_192 rfl ?_
          simp only [if_neg c14] at hJ13
          exact hJ13
    · have h := h.2 (c)
      refine r_aload_n 111 dX7_follow_110 rfl rfl ?_
      refine g_R 114 dX7_follow_111 rfl rfl rfl fr_7_9 (mR_0 (sh_7_1 hS _)) ?_
      refine r_iload 116 dX7_follow_114 rfl rfl ?_
      refine r_iload 118 dX7_follow_116 rfl rfl ?_
      obtain ⟨h0, h⟩ := h
      have hJ20 : Ex l G (d + 1) mX7_follow 150 [some (vR (some (14, k0))), some (vR (some (14, k1))), some (vI x2), some (vI (aAnd (aShr x2 13) 3)), some (vI (aAnd (aShr x2 9) 15)), some (vI (aAnd (aShr x2 5) 15)), some (vI (aAnd (aShr x2 1) 15)), some (vI (if ¬ (aAnd x2 1) = 1 then 0 else 1 : Int)), none] [vI (if (if ¬ (aAnd x2 1) = 1 then 0 else 1 : Int) = 0 then (aAnd ((cpI M.1 29 k1 29 k0 0 0 10) 29 k0 (aAnd (aShr x2 5) 15).toNat) (aXor (aShl 1 (aAnd (aShr x2 9) 15)) (-1))) else (aOr ((cpI M.1 29 k1 29 k0 0 0 10) 29 k0 (aAnd (aShr x2 5) 15).toNat) (aShl 1 (aAnd (aShr x2 9) 15))) : Int), vI (aAnd (aShr x2 5) 15), vR (some (29, k0))] ((cpI (cpI (cpI (cpI M.1 29 k1 29 k0 0 0 10) 30 k1 30 k0 0 0 72) 31 k1 31 k0 0 0 12) 32 k1 32 k0 0 0 8), M.2.1, M.2.2) r M' := by
        obtain ⟨o26, h⟩ := h
        refine s_I 10 151 dX7_follow_150 rfl rfl (by decide) rfl rfl o26 ?_
        refine r_goto 257 dX7_follow_151 rfl ?_
        exact r_vret dX7_follow_257 rfl h.1 h.2
      have h := h0
      refine r_if_eq 121 136 dX7_follow_118 rfl rfl (fun c => ?_) (fun c => ?_)
      · have c21 := c
        have h := h.1 c21
        obtain ⟨o22, o23⟩ := h
        refine r_aload_n 137 dX7_follow_136 rfl rfl ?_
        refine g_R 140 dX7_follow_137 rfl rfl rfl fr_7_9 (mR_0 (sh_7_1 hS _)) ?_
        refine r_iload 142 dX7_follow_140 rfl rfl ?_
        refine a_I 10 143 dX7_follow_142 rfl rfl rfl rfl o22 (mI_0 ((cpI_f rfl).trans ((cpI_f rfl).trans (cpI_f rfl)))) ?_
        refine r_iconst 144 dX7_follow_143 rfl (InR_of rfl) ?_
        refine r_iload 146 dX7_follow_144 rfl rfl ?_
        refine r_ishl 147 dX7_follow_146 rfl o23 ?_
        refine r_iconst 148 dX7_follow_147 rfl (InR_of rfl) ?_
        refine r_ixor 149 dX7_follow_148 rfl ?_
        refine r_iand 150 dX7_follow_149 rfl ?_
        simp only [if_pos c21] at hJ20
        exact hJ20
      · have c21 := c
        have h := h.2 c21
        obtain ⟨o24, o25⟩ := h
        refine r_aload_n 122 dX7_follow_121 rfl rfl ?_
        refine g_R 125 dX7_follow_122 rfl rfl rfl fr_7_9 (mR_0 (sh_7_1 hS _)) ?_
        refine r_iload 127 dX7_follow_125 rfl rfl ?_
        refine a_I 10 128 dX7_follow_127 rfl rfl rfl rfl o24 (mI_0 ((cpI_f rfl).trans ((cpI_f rfl).trans (cpI_f rfl)))) ?_
        refine r_iconst 129 dX7_follow_128 rfl (InR_of rfl) ?_
        refine r_iload 131 dX7_follow_129 rfl rfl ?_
        refine r_ishl 132 dX7_follow_131 rfl o25 ?_
        refine r_ior 133 dX7_follow_132 rfl ?_
        refine r_goto 150 dX7_follow_133 rfl ?_
        simp only [if_neg c21] at hJ20
        exact hJ20
  refine r_icmp_ne 99 103 dX7_follow_96 rfl rfl (fun c => ?_) (fun c => ?_)
  · have c2 := c
    refine r_iconst 104 dX7_follow_103 rfl (InR_of rfl) ?_
    simp only [if_pos c2] at hJ1
    exact hJ1
  · have c2 := c
    refine r_iconst 100 dX7_follow_99 rfl (InR_of rfl) ?_
    refine r_goto 104 dX7_follow_100 rfl ?_
    simp only [if_neg c2] at hJ1
    exact hJ1

set_option maxRecDepth 4000 in
theorem xX7_beginWith_0 {l : Launch} {G : Gt} {d : Nat} {M M' : Mem} {r : Option Vl} {k0 : Nat} {k1 : Nat} (hS : Sh M.2.1) (h : 
    ∃ (M1 : Mem), Cl l G d mJ7_fill_53178 [vR (some (29, k0)), vI 0] M none M1 ∧ Sh M1.2.1 ∧ (∃ (M3 : Mem), Cl l G d mJ7_fill_53178 [vR (some (30, k0)), vI 0] M1 none M3 ∧ Sh M3.2.1 ∧ (∃ (M5 : Mem), Cl l G d mJ7_fill_53178 [vR (some (32, k0)), vI 0] M3 none M5 ∧ Ex l G (d + 1) mX7_beginWith 26 [some (vR (some (14, k0))), some (vR (some (4, k1))), some (vI 0)] [] M5 r M'))) : Cl l G (d + 1) mX7_beginWith [vR (some (14, k0)), vR (some (4, k1))] M r M' := by
  show Ex l G (d + 1) mX7_beginWith 0 [some (vR (some (14, k0))), some (vR (some (4, k1))), none] [] M r M'
  refine r_aload_n 1 dX7_beginWith_0 rfl rfl ?_
  refine g_R 4 dX7_beginWith_1 rfl rfl rfl fr_7_9 (sh_7_1 hS _) ?_
  refine r_iconst 5 dX7_beginWith_4 rfl (InR_of rfl) ?_
  obtain ⟨M1, hc2, hS, h⟩ := h
  refine c_0 [vR (some (29, k0)), vI 0] [] 8 dX7_beginWith_5 rfl rfl mo_J7_fill_53178 ml_7_28 rfl rfl hc2 ?_
  refine r_aload_n 9 dX7_beginWith_8 rfl rfl ?_
  refine g_R 12 dX7_beginWith_9 rfl rfl rfl fr_7_15 (sh_7_2 hS _) ?_
  refine r_iconst 13 dX7_beginWith_12 rfl (InR_of rfl) ?_
  obtain ⟨M3, hc4, hS, h⟩ := h
  refine c_0 [vR (some (30, k0)), vI 0] [] 16 dX7_beginWith_13 rfl rfl mo_J7_fill_53178 ml_7_28 rfl rfl hc4 ?_
  refine r_aload_n 17 dX7_beginWith_16 rfl rfl ?_
  refine g_R 20 dX7_beginWith_17 rfl rfl rfl fr_7_21 (sh_7_4 hS _) ?_
  refine r_iconst 21 dX7_beginWith_20 rfl (InR_of rfl) ?_
  obtain ⟨M5, hc6, h⟩ := h
  refine c_0 [vR (some (32, k0)), vI 0] [] 24 dX7_beginWith_21 rfl rfl mo_J7_fill_53178 ml_7_28 rfl rfl hc6 ?_
  refine r_iconst 25 dX7_beginWith_24 rfl (InR_of rfl) ?_
  refine r_istore_n (ls' := [some (vR (some (14, k0))), some (vR (some (4, k1))), some (vI 0)]) 26 dX7_beginWith_25 rfl rfl rfl rfl ?_
  exact h
set_option maxRecDepth 4000 in
theorem xX7_beginWith_26 {l : Launch} {G : Gt} {d : Nat} {M M' : Mem} {r : Option Vl} {k0 : Nat} {k1 : Nat} {x2 : Int} (hS : Sh M.2.1) (h : 
    ((M.1 4 k1 0) ≤ x2 → r = none ∧ M' = M) ∧ (¬ ((M.1 4 k1 0) ≤ x2) → ((0 ≤ x2 ∧ x2 < 12) ∧ (0 ≤ x2 ∧ x2 < 12) ∧ (0 ≤ x2 ∧ x2 < 12) ∧ (0 ≤ (M.1 33 k1 x2.toNat) ∧ (M.1 33 k1 x2.toNat) < 8) ∧ (0 ≤ x2 ∧ x2 < 32) ∧ (0 ≤ (M.1 33 k1 x2.toNat) ∧ (M.1 33 k1 x2.toNat) < 8) ∧ InR (x2 + 1)) ∧ Ex l G (d + 1) mX7_beginWith 26 [some (vR (some (14, k0))), some (vR (some (4, k1))), some (vI (x2 + 1))] [] ((upI (upI M.1 31 k0 x2.toNat (M.1 33 k1 x2.toNat)) 32 k0 (M.1 33 k1 x2.toNat).toNat (aOr (M.1 32 k0 (M.1 33 k1 x2.toNat).toNat) (aShl 1 x2))), M.2.1, M.2.2) r M')) : Ex l G (d + 1) mX7_beginWith 26 [some (vR (some (14, k0))), some (vR (some (4, k1))), some (vI x2)] [] M r M' := by
  refine r_iload_n 27 dX7_beginWith_26 rfl rfl ?_
  refine r_aload_n 28 dX7_beginWith_27 rfl rfl ?_
  refine g_I 31 dX7_beginWith_28 rfl rfl rfl fi_7_34 rfl ?_
  refine r_icmp_ge 34 69 dX7_beginWith_31 rfl rfl (fun c => ?_) (fun c => ?_)
  · have h := h.1 (c)
    exact r_vret dX7_beginWith_69 rfl h.1 h.2
  · have h := h.2 (c)
    obtain ⟨⟨o1, o2, o3, o4, o5, o6, o7⟩, h⟩ := h
    refine r_aload_n 35 dX7_beginWith_34 rfl rfl ?_
    refine g_R 38 dX7_beginWith_35 rfl rfl rfl fr_7_18 (sh_7_3 hS _) ?_
    refine r_iload_n 39 dX7_beginWith_38 rfl rfl ?_
    refine r_aload_n 40 dX7_beginWith_39 rfl rfl ?_
    refine g_R 43 dX7_beginWith_40 rfl rfl rfl fr_7_39 (sh_8_1 hS _) ?_
    refine r_iload_n 44 dX7_beginWith_43 rfl rfl ?_
    refine a_I 12 45 dX7_beginWith_44 rfl rfl rfl rfl o1 rfl ?_
    refine s_I 12 46 dX7_beginWith_45 rfl rfl (by decide) rfl rfl o2 ?_
    refine r_aload_n 47 dX7_beginWith_46 rfl rfl ?_
    refine g_R 50 dX7_beginWith_47 rfl rfl rfl fr_7_21 (mR_0 (sh_7_4 hS _)) ?_
    refine r_aload_n 51 dX7_beginWith_50 rfl rfl ?_
    refine g_R 54 dX7_beginWith_51 rfl rfl rfl fr_7_18 (mR_0 (sh_7_3 hS _)) ?_
    refine r_iload_n 55 dX7_beginWith_54 rfl rfl ?_
    refine a_I 12 56 dX7_beginWith_55 rfl rfl rfl rfl o3 (mI_0 (upI_s)) ?_
    refine r_dup2 57 dX7_beginWith_56 rfl rfl ?_
    refine a_I 8 58 dX7_beginWith_57 rfl rfl rfl rfl o4 (mI_0 (upI_f rfl)) ?_
    refine r_iconst 59 dX7_beginWith_58 rfl (InR_of rfl) ?_
    refine r_iload_n 60 dX7_beginWith_59 rfl rfl ?_
    refine r_ishl 61 dX7_beginWith_60 rfl o5 ?_
    refine r_ior 62 dX7_beginWith_61 rfl ?_
    refine s_I 8 63 dX7_beginWith_62 rfl rfl (by decide) rfl rfl o6 ?_
    refine r_iinc (ls' := [some (vR (some (14, k0))), some (vR (some (4, k1))), some (vI (x2 + 1))]) 66 dX7_beginWith_63 rfl rfl rfl rfl o7 rfl ?_
    refine r_goto 26 dX7_beginWith_66 rfl ?_
    exact h

set_option maxRecDepth 4000 in
theorem xX10_measure_0 {l : Launch} {G : Gt} {d : Nat} {M M' : Mem} {r : Option Vl} {k1 : Nat} (h : 
    Ex l G (d + 1) mX10_measure 2 [some (vR (some (7, 0))), some (vR (some (34, k1))), some (vI 0), none, none, none, none] [] M r M') : Cl l G (d + 1) mX10_measure [vR (some (7, 0)), vR (some (34, k1))] M r M' := by
  show Ex l G (d + 1) mX10_measure 0 [some (vR (some (7, 0))), some (vR (some (34, k1))), none, none, none, none, none] [] M r M'
  refine r_iconst 1 dX10_measure_0 rfl (InR_of rfl) ?_
  refine r_istore_n (ls' := [some (vR (some (7, 0))), some (vR (some (34, k1))), some (vI 0), none, none, none, none]) 2 dX10_measure_1 rfl rfl rfl rfl ?_
  exact h
set_option maxRecDepth 4000 in
theorem xX10_measure_2 {l : Launch} {G : Gt} {d : Nat} {M M' : Mem} {r : Option Vl} {k1 : Nat} {x2 : Int} (hS : Sh M.2.1) (h : 
    (64 ≤ x2 → Ex l G (d + 1) mX10_measure 37 [some (vR (some (7, 0))), some (vR (some (34, k1))), some (vI 0), none, none, none, none] [] M r M') ∧ (¬ (64 ≤ x2) → ((0 ≤ x2 ∧ x2 < 64)) ∧ (((¬ (M.1 34 k1 x2.toNat) = 0 → ((0 ≤ x2 ∧ x2 < 64)))) ∧ ((0 ≤ x2 ∧ x2 < 64) ∧ InR (x2 + 1)) ∧ Ex l G (d + 1) mX10_measure 2 [some (vR (some (7, 0))), some (vR (some (34, k1))), some (vI (x2 + 1)), none, none, none, none] [] ((upI M.1 45 0 x2.toNat (if ¬ (M.1 34 k1 x2.toNat) = 0 then (M.1 34 k1 x2.toNat) else 1000 : Int)), M.2.1, M.2.2) r M'))) : Ex l G (d + 1) mX10_measure 2 [some (vR (some (7, 0))), some (vR (some (34, k1))), some (vI x2), none, none, none, none] [] M r M' := by
  refine r_iload_n 3 dX10_measure_2 rfl rfl ?_
  refine r_bipush 5 dX10_measure_3 rfl rfl ?_
  refine r_icmp_ge 8 35 dX10_measure_5 rfl rfl (fun c => ?_) (fun c => ?_)
  · have h := h.1 (c)
    refine r_iconst 36 dX10_measure_35 rfl (InR_of rfl) ?_
    refine r_istore_n (ls' := [some (vR (some (7, 0))), some (vR (some (34, k1))), some (vI 0), none, none, none, none]) 37 dX10_measure_36 rfl rfl rfl rfl ?_
    exact h
  · have h := h.2 (c)
    obtain ⟨o1, h⟩ := h
    refine r_aload_n 9 dX10_measure_8 rfl rfl ?_
    refine g_R 12 dX10_measure_9 rfl rfl rfl fr_10_9 (sh_10_0 hS) ?_
    refine r_iload_n 13 dX10_measure_12 rfl rfl ?_
    refine r_aload_n 14 dX10_measure_13 rfl rfl ?_
    refine r_iload_n 15 dX10_measure_14 rfl rfl ?_
    refine a_I 64 16 dX10_measure_15 rfl rfl rfl rfl o1 rfl ?_
    obtain ⟨h0, h⟩ := h
    have hJ2 : Ex l G (d + 1) mX10_measure 28 [some (vR (some (7, 0))), some (vR (some (34, k1))), some (vI x2), none, none, none, none] [vI (if ¬ (M.1 34 k1 x2.toNat) = 0 then (M.1 34 k1 x2.toNat) else 1000 : Int), vI x2, vR (some (45, 0))] M r M' := by
      obtain ⟨⟨o5, o6⟩, h⟩ := h
      refine s_I 64 29 dX10_measure_28 rfl rfl (by decide) rfl rfl o5 ?_
      refine r_iinc (ls' := [some (vR (some (7, 0))), some (vR (some (34, k1))), some (vI (x2 + 1)), none, none, none, none]) 32 dX10_measure_29 rfl rfl rfl rfl o6 rfl ?_
      refine r_goto 2 dX10_measure_32 rfl ?_
      exact h
    have h := h0
    refine r_if_ne 19 25 dX10_measure_16 rfl rfl (fun c => ?_) (fun c => ?_)
    · have c3 := c
      have h := h c3
      have o4 := h
      refine r_aload_n 26 dX10_measure_25 rfl rfl ?_
      refine r_iload_n 27 dX10_measure_26 rfl rfl ?_
      refine a_I 64 28 dX10_measure_27 rfl rfl rfl rfl o4 rfl ?_
      simp only [if_pos c3] at hJ2
      exact hJ2
    · have c3 := c
      refine r_sipush 22 dX10_measure_19 rfl rfl ?_
      refine r_goto 28 dX10_measure_22 rfl ?_
      simp only [if_neg c3] at hJ2
      exact hJ2
set_option maxRecDepth 4000 in
theorem xX10_measure_37 {l : Launch} {G : Gt} {d : Nat} {M M' : Mem} {r : Option Vl} {k1 : Nat} {x2 : Int} (hS : Sh M.2.1) (h : 
    (8 ≤ x2 → Ex l G (d + 1) mX10_measure 63 [some (vR (some (7, 0))), some (vR (some (34, k1))), some (vI 0), none, none, none, none] [] M r M') ∧ (¬ (8 ≤ x2) → (InR (x2 * 8) ∧ InR ((x2 * 8) + x2) ∧ (0 ≤ ((x2 * 8) + x2) ∧ ((x2 * 8) + x2) < 64) ∧ InR (x2 + 1)) ∧ Ex l G (d + 1) mX10_measure 37 [some (vR (some (7, 0))), some (vR (some (34, k1))), some (vI (x2 + 1)), none, none, none, none] [] ((upI M.1 45 0 ((x2 * 8) + x2).toNat 0), M.2.1, M.2.2) r M')) : Ex l G (d + 1) mX10_measure 37 [some (vR (some (7, 0))), some (vR (some (34, k1))), some (vI x2), none, none, none, none] [] M r M' := by
  refine r_iload_n 38 dX10_measure_37 rfl rfl ?_
  refine r_bipush 40 dX10_measure_38 rfl rfl ?_
  refine r_icmp_ge 43 61 dX10_measure_40 rfl rfl (fun c => ?_) (fun c => ?_)
  · have h := h.1 (c)
    refine r_iconst 62 dX10_measure_61 rfl (InR_of rfl) ?_
    refine r_istore_n (ls' := [some (vR (some (7, 0))), some (vR (some (34, k1))), some (vI 0), none, none, none, none]) 63 dX10_measure_62 rfl rfl rfl rfl ?_
    exact h
  · have h := h.2 (c)
    obtain ⟨⟨o1, o2, o3, o4⟩, h⟩ := h
    refine r_aload_n 44 dX10_measure_43 rfl rfl ?_
    refine g_R 47 dX10_measure_44 rfl rfl rfl fr_10_9 (sh_10_0 hS) ?_
    refine r_iload_n 48 dX10_measure_47 rfl rfl ?_
    refine r_bipush 50 dX10_measure_48 rfl rfl ?_
    refine r_imul 51 dX10_measure_50 rfl o1 ?_
    refine r_iload_n 52 dX10_measure_51 rfl rfl ?_
    refine r_iadd 53 dX10_measure_52 rfl o2 ?_
    refine r_iconst 54 dX10_measure_53 rfl (InR_of rfl) ?_
    refine s_I 64 55 dX10_measure_54 rfl rfl (by decide) rfl rfl o3 ?_
    refine r_iinc (ls' := [some (vR (some (7, 0))), some (vR (some (34, k1))), some (vI (x2 + 1)), none, none, none, none]) 58 dX10_measure_55 rfl rfl rfl rfl o4 rfl ?_
    refine r_goto 37 dX10_measure_58 rfl ?_
    exact h
set_option maxRecDepth 4000 in
theorem xX10_measure_63 {l : Launch} {G : Gt} {d : Nat} {M M' : Mem} {r : Option Vl} {k1 : Nat} {x2 : Int} (h : 
    (8 ≤ x2 → Ex l G (d + 1) mX10_measure 161 [some (vR (some (7, 0))), some (vR (some (34, k1))), some (vI 0), none, none, none, none] [] M r M') ∧ (¬ (8 ≤ x2) → Ex l G (d + 1) mX10_measure 71 [some (vR (some (7, 0))), some (vR (some (34, k1))), some (vI x2), some (vI 0), none, none, none] [] M r M')) : Ex l G (d + 1) mX10_measure 63 [some (vR (some (7, 0))), some (vR (some (34, k1))), some (vI x2), none, none, none, none] [] M r M' := by
  refine r_iload_n 64 dX10_measure_63 rfl rfl ?_
  refine r_bipush 66 dX10_measure_64 rfl rfl ?_
  refine r_icmp_ge 69 159 dX10_measure_66 rfl rfl (fun c => ?_) (fun c => ?_)
  · have h := h.1 (c)
    refine r_iconst 160 dX10_measure_159 rfl (InR_of rfl) ?_
    refine r_istore_n (ls' := [some (vR (some (7, 0))), some (vR (some (34, k1))), some (vI 0), none, none, none, none]) 161 dX10_measure_160 rfl rfl rfl rfl ?_
    exact h
  · have h := h.2 (c)
    refine r_iconst 70 dX10_measure_69 rfl (InR_of rfl) ?_
    refine r_istore_n (ls' := [some (vR (some (7, 0))), some (vR (some (34, k1))), some (vI x2), some (vI 0), none, none, none]) 71 dX10_measure_70 rfl rfl rfl rfl ?_
    exact h
set_option maxRecDepth 4000 in
theorem xX10_measure_71 {l : Launch} {G : Gt} {d : Nat} {M M' : Mem} {r : Option Vl} {k1 : Nat} {x2 : Int} {x3 : Int} (h : 
    (8 ≤ x3 → (InR (x2 + 1)) ∧ Ex l G (d + 1) mX10_measure 63 [some (vR (some (7, 0))), some (vR (some (34, k1))), some (vI (x2 + 1)), none, none, none, none] [] M r M') ∧ (¬ (8 ≤ x3) → Ex l G (d + 1) mX10_measure 80 [some (vR (some (7, 0))), some (vR (some (34, k1))), some (vI x2), some (vI x3), some (vI 0), none, none] [] M r M')) : Ex l G (d + 1) mX10_measure 71 [some (vR (some (7, 0))), some (vR (some (34, k1))), some (vI x2), some (vI x3), none, none, none] [] M r M' := by
  refine r_iload_n 72 dX10_measure_71 rfl rfl ?_
  refine r_bipush 74 dX10_measure_72 rfl rfl ?_
  refine r_icmp_ge 77 153 dX10_measure_74 rfl rfl (fun c => ?_) (fun c => ?_)
  · have h := h.1 (c)
    obtain ⟨o1, h⟩ := h
    refine r_iinc (ls' := [some (vR (some (7, 0))), some (vR (some (34, k1))), some (vI (x2 + 1)), some (vI x3), none, none, none]) 156 dX10_measure_153 rfl rfl rfl rfl o1 rfl ?_
    refine r_goto 63 dX10_measure_156 rfl ?_
    exact Ex.weak h ⟨rfl, rfl, rfl, trivial⟩
  · have h := h.2 (c)
    refine r_iconst 78 dX10_measure_77 rfl (InR_of rfl) ?_
    refine r_istore (ls' := [some (vR (some (7, 0))), some (vR (some (34, k1))), some (vI x2), some (vI x3), some (vI 0), none, none]) 80 dX10_measure_78 rfl rfl rfl rfl ?_
    exact h
set_option maxRecDepth 4000 in
theorem xX10_measure_80 {l : Launch} {G : Gt} {d : Nat} {M M' : Mem} {r : Option Vl} {k1 : Nat} {x2 : Int} {x3 : Int} {x4 : Int} (hS : Sh M.2.1) (h : 
    (8 ≤ x4 → (InR (x3 + 1)) ∧ Ex l G (d + 1) mX10_measure 71 [some (vR (some (7, 0))), some (vR (some (34, k1))), some (vI x2), some (vI (x3 + 1)), none, none, none] [] M r M') ∧ (¬ (8 ≤ x4) → (InR (x3 * 8) ∧ InR ((x3 * 8) + x4) ∧ InR (x3 * 8) ∧ InR ((x3 * 8) + x2) ∧ (0 ≤ ((x3 * 8) + x2) ∧ ((x3 * 8) + x2) < 64) ∧ InR (x2 * 8) ∧ InR ((x2 * 8) + x4) ∧ (0 ≤ ((x2 * 8) + x4) ∧ ((x2 * 8) + x4) < 64) ∧ InR ((M.1 45 0 ((x3 * 8) + x2).toNat) + (M.1 45 0 ((x2 * 8) + x4).toNat)) ∧ (0 ≤ ((x3 * 8) + x4) ∧ ((x3 * 8) + x4) < 64)) ∧ (∃ (r14 : Int) (M12 : Mem), Cl l G d mJ9_min_7cf53 [vI (M.1 45 0 ((x3 * 8) + x4).toNat), vI ((M.1 45 0 ((x3 * 8) + x2).toNat) + (M.1 45 0 ((x2 * 8) + x4).toNat))] M (some (vI r14)) M12 ∧ ((0 ≤ ((x3 * 8) + x4) ∧ ((x3 * 8) + x4) < 64) ∧ InR (x4 + 1)) ∧ Ex l G (d + 1) mX10_measure 80 [some (vR (some (7, 0))), some (vR (some (34, k1))), some (vI x2), some (vI x3), some (vI (x4 + 1)), none, none] [] ((upI M12.1 45 0 ((x3 * 8) + x4).toNat r14), M12.2.1, M12.2.2) r M'))) : Ex l G (d + 1) mX10_measure 80 [some (vR (some (7, 0))), some (vR (some (34, k1))), some (vI x2), some (vI x3), some (vI x4), none, none] [] M r M' := by
  refine r_iload 82 dX10_measure_80 rfl rfl ?_
  refine r_bipush 84 dX10_measure_82 rfl rfl ?_
  refine r_icmp_ge 87 147 dX10_measure_84 rfl rfl (fun c => ?_) (fun c => ?_)
  · have h := h.1 (c)
    obtain ⟨o1, h⟩ := h
    refine r_iinc (ls' := [some (vR (some (7, 0))), some (vR (some (34, k1))), some (vI x2), some (vI (x3 + 1)), some (vI x4), none, none]) 150 dX10_measure_147 rfl rfl rfl rfl o1 rfl ?_
    refine r_goto 71 dX10_measure_150 rfl ?_
    exact Ex.weak h ⟨rfl, rfl, rfl, rfl, trivial⟩
  · have h := h.2 (c)
    obtain ⟨⟨o2, o3, o4, o5, o6, o7, o8, o9, o10, o11⟩, h⟩ := h
    refine r_iload_n 88 dX10_measure_87 rfl rfl ?_
    refine r_bipush 90 dX10_measure_88 rfl rfl ?_
    refine r_imul 91 dX10_measure_90 rfl o2 ?_
    refine r_iload 93 dX10_measure_91 rfl rfl ?_
    refine r_iadd 94 dX10_measure_93 rfl o3 ?_
    refine r_istore (ls' := [some (vR (some (7, 0))), some (vR (some (34, k1))), some (vI x2), some (vI x3), some (vI x4), some (vI ((x3 * 8) + x4)), none]) 96 dX10_measure_94 rfl rfl rfl rfl ?_
    refine r_aload_n 97 dX10_measure_96 rfl rfl ?_
    refine g_R 100 dX10_measure_97 rfl rfl rfl fr_10_9 (sh_10_0 hS) ?_
    refine r_iload_n 101 dX10_measure_100 rfl rfl ?_
    refine r_bipush 103 dX10_measure_101 rfl rfl ?_
    refine r_imul 104 dX10_measure_103 rfl o4 ?_
    refine r_iload_n 105 dX10_measure_104 rfl rfl ?_
    refine r_iadd 106 dX10_measure_105 rfl o5 ?_
    refine a_I 64 107 dX10_measure_106 rfl rfl rfl rfl o6 rfl ?_
    refine r_aload_n 108 dX10_measure_107 rfl rfl ?_
    refine g_R 111 dX10_measure_108 rfl rfl rfl fr_10_9 (sh_10_0 hS) ?_
    refine r_iload_n 112 dX10_measure_111 rfl rfl ?_
    refine r_bipush 114 dX10_measure_112 rfl rfl ?_
    refine r_imul 115 dX10_measure_114 rfl o7 ?_
    refine r_iload 117 dX10_measure_115 rfl rfl ?_
    refine r_iadd 118 dX10_measure_117 rfl o8 ?_
    refine a_I 64 119 dX10_measure_118 rfl rfl rfl rfl o9 rfl ?_
    refine r_iadd 120 dX10_measure_119 rfl o10 ?_
    refine r_istore (ls' := [some (vR (some (7, 0))), some (vR (some (34, k1))), some (vI x2), some (vI x3), some (vI x4), some (vI ((x3 * 8) + x4)), some (vI ((M.1 45 0 ((x3 * 8) + x2).toNat) + (M.1 45 0 ((x2 * 8) + x4).toNat)))]) 122 dX10_measure_120 rfl rfl rfl rfl ?_
    refine r_aload_n 123 dX10_measure_122 rfl rfl ?_
    refine g_R 126 dX10_measure_123 rfl rfl rfl fr_10_9 (sh_10_0 hS) ?_
    refine r_iload 128 dX10_measure_126 rfl rfl ?_
    refine r_aload_n 129 dX10_measure_128 rfl rfl ?_
    refine g_R 132 dX10_measure_129 rfl rfl rfl fr_10_9 (sh_10_0 hS) ?_
    refine r_iload 134 dX10_measure_132 rfl rfl ?_
    refine a_I 64 135 dX10_measure_134 rfl rfl rfl rfl o11 rfl ?_
    refine r_iload 137 dX10_measure_135 rfl rfl ?_
    obtain ⟨r14, M12, hc13, h⟩ := h
    refine c_1 [vI (M.1 45 0 ((x3 * 8) + x4).toNat), vI ((M.1 45 0 ((x3 * 8) + x2).toNat) + (M.1 45 0 ((x2 * 8) + x4).toNat))] [vI ((x3 * 8) + x4), vR (some (45, 0))] 140 dX10_measure_137 rfl rfl mo_J9_min_7cf53 ml_10_24 rfl rfl hc13 ?_
    obtain ⟨⟨o15, o16⟩, h⟩ := h
    refine s_I 64 141 dX10_measure_140 rfl rfl (by decide) rfl rfl o15 ?_
    refine r_iinc (ls' := [some (vR (some (7, 0))), some (vR (some (34, k1))), some (vI x2), some (vI x3), some (vI (x4 + 1)), some (vI ((x3 * 8) + x4)), some (vI ((M.1 45 0 ((x3 * 8) + x2).toNat) + (M.1 45 0 ((x2 * 8) + x4).toNat)))]) 144 dX10_measure_141 rfl rfl rfl rfl o16 rfl ?_
    refine r_goto 80 dX10_measure_144 rfl ?_
    exact Ex.weak h ⟨rfl, rfl, rfl, rfl, rfl, trivial⟩
set_option maxRecDepth 4000 in
theorem xX10_measure_161 {l : Launch} {G : Gt} {d : Nat} {M M' : Mem} {r : Option Vl} {k1 : Nat} {x2 : Int} (hS : Sh M.2.1) (h : 
    (64 ≤ x2 → r = none ∧ M' = M) ∧ (¬ (64 ≤ x2) → (0 ≤ x2 ∧ 0 ≤ x2) ∧ (∃ (r5 : Int) (M3 : Mem), Cl l G d mX10_nextOf [vR (some (7, 0)), vI (x2 / 8), vI (x2 % 8), vR (some (34, k1))] M (some (vI r5)) M3 ∧ ((0 ≤ x2 ∧ x2 < 64) ∧ InR (x2 + 1)) ∧ Ex l G (d + 1) mX10_measure 161 [some (vR (some (7, 0))), some (vR (some (34, k1))), some (vI (x2 + 1)), none, none, none, none] [] ((upI M3.1 46 0 x2.toNat r5), M3.2.1, M3.2.2) r M'))) : Ex l G (d + 1) mX10_measure 161 [some (vR (some (7, 0))), some (vR (some (34, k1))), some (vI x2), none, none, none, none] [] M r M' := by
  refine r_iload_n 162 dX10_measure_161 rfl rfl ?_
  refine r_bipush 164 dX10_measure_162 rfl rfl ?_
  refine r_icmp_ge 167 192 dX10_measure_164 rfl rfl (fun c => ?_) (fun c => ?_)
  · have h := h.1 (c)
    exact r_vret dX10_measure_192 rfl h.1 h.2
  · have h := h.2 (c)
    obtain ⟨⟨o1, o2⟩, h⟩ := h
    refine r_aload_n 168 dX10_measure_167 rfl rfl ?_
    refine g_R 171 dX10_measure_168 rfl rfl rfl fr_10_15 (sh_10_1 hS) ?_
    refine r_iload_n 172 dX10_measure_171 rfl rfl ?_
    refine r_aload_n 173 dX10_measure_172 rfl rfl ?_
    refine r_iload_n 174 dX10_measure_173 rfl rfl ?_
    refine r_bipush 176 dX10_measure_174 rfl rfl ?_
    refine r_idiv 177 dX10_measure_176 rfl ⟨o1, by decide⟩ ?_
    refine r_iload_n 178 dX10_measure_177 rfl rfl ?_
    refine r_bipush 180 dX10_measure_178 rfl rfl ?_
    refine r_irem 181 dX10_measure_180 rfl ⟨o2, by decide⟩ ?_
    refine r_aload_n 182 dX10_measure_181 rfl rfl ?_
    obtain ⟨r5, M3, hc4, h⟩ := h
    refine v_1 (ci := 10) (C := (RX10, TX10, 2)) [vI (x2 / 8), vI (x2 % 8), vR (some (34, k1))] [vI x2, vR (some (46, 0))] 185 dX10_measure_182 rfl rfl rfl rfl rfl mo_X10_nextOf ml_10_30 rfl rfl hc4 ?_
    obtain ⟨⟨o6, o7⟩, h⟩ := h
    refine s_I 64 186 dX10_measure_185 rfl rfl (by decide) rfl rfl o6 ?_
    refine r_iinc (ls' := [some (vR (some (7, 0))), some (vR (some (34, k1))), some (vI (x2 + 1)), none, none, none, none]) 189 dX10_measure_186 rfl rfl rfl rfl o7 rfl ?_
    refine r_goto 161 dX10_measure_189 rfl ?_
    exact h

set_option maxRecDepth 4000 in
theorem xX10_nextOf_0 {l : Launch} {G : Gt} {d : Nat} {M M' : Mem} {r : Option Vl} {x1 : Int} {x2 : Int} {k3 : Nat} (hS : Sh M.2.1) (h : 
    (InR (x1 * 8) ∧ InR ((x1 * 8) + x2) ∧ (0 ≤ ((x1 * 8) + x2) ∧ ((x1 * 8) + x2) < 64)) ∧ ((x1 = x2 → r = some (vI (-1)) ∧ M' = M) ∧ (¬ (x1 = x2) → ((M.1 45 0 ((x1 * 8) + x2).toNat) < 1000 → Ex l G d mX10_nextOf 31 [some (vR (some (7, 0))), some (vI x1), some (vI x2), some (vR (some (34, k3))), some (vI (M.1 45 0 ((x1 * 8) + x2).toNat)), some (vI 0), none] [] M r M') ∧ (¬ ((M.1 45 0 ((x1 * 8) + x2).toNat) < 1000) → r = some (vI (-1)) ∧ M' = M)))) : Cl l G d mX10_nextOf [vR (some (7, 0)), vI x1, vI x2, vR (some (34, k3))] M r M' := by
  show Ex l G d mX10_nextOf 0 [some (vR (some (7, 0))), some (vI x1), some (vI x2), some (vR (some (34, k3))), none, none, none] [] M r M'
  obtain ⟨⟨o1, o2, o3⟩, h⟩ := h
  refine r_aload_n 1 dX10_nextOf_0 rfl rfl ?_
  refine g_R 4 dX10_nextOf_1 rfl rfl rfl fr_10_9 (sh_10_0 hS) ?_
  refine r_iload_n 5 dX10_nextOf_4 rfl rfl ?_
  refine r_bipush 7 dX10_nextOf_5 rfl rfl ?_
  refine r_imul 8 dX10_nextOf_7 rfl o1 ?_
  refine r_iload_n 9 dX10_nextOf_8 rfl rfl ?_
  refine r_iadd 10 dX10_nextOf_9 rfl o2 ?_
  refine a_I 64 11 dX10_nextOf_10 rfl rfl rfl rfl o3 rfl ?_
  refine r_istore (ls' := [some (vR (some (7, 0))), some (vI x1), some (vI x2), some (vR (some (34, k3))), some (vI (M.1 45 0 ((x1 * 8) + x2).toNat)), none, none]) 13 dX10_nextOf_11 rfl rfl rfl rfl ?_
  refine r_iload_n 14 dX10_nextOf_13 rfl rfl ?_
  refine r_iload_n 15 dX10_nextOf_14 rfl rfl ?_
  refine r_icmp_eq 18 26 dX10_nextOf_15 rfl rfl (fun c => ?_) (fun c => ?_)
  · have h := h.1 (c)
    refine r_iconst 27 dX10_nextOf_26 rfl (InR_of rfl) ?_
    exact r_iret dX10_nextOf_27 rfl (.inl rfl) h.1 h.2
  · have h := h.2 (c)
    refine r_iload 20 dX10_nextOf_18 rfl rfl ?_
    refine r_sipush 23 dX10_nextOf_20 rfl rfl ?_
    refine r_icmp_lt 26 28 dX10_nextOf_23 rfl rfl (fun c => ?_) (fun c => ?_)
    · have h := h.1 (c)
      refine r_iconst 29 dX10_nextOf_28 rfl (InR_of rfl) ?_
      refine r_istore (ls' := [some (vR (some (7, 0))), some (vI x1), some (vI x2), some (vR (some (34, k3))), some (vI (M.1 45 0 ((x1 * 8) + x2).toNat)), some (vI 0), none]) 31 dX10_nextOf_29 rfl rfl rfl rfl ?_
      exact h
    · have h := h.2 (c)
      refine r_iconst 27 dX10_nextOf_26 rfl (InR_of rfl) ?_
      exact r_iret dX10_nextOf_27 rfl (.inl rfl) h.1 h.2
set_option maxRecDepth 4000 in
theorem xX10_nextOf_31 {l : Launch} {G : Gt} {d : Nat} {M M' : Mem} {r : Option Vl} {x1 : Int} {x2 : Int} {k3 : Nat} {x4 : Int} {x5 : Int} (hS : Sh M.2.1) (h : 
    (8 ≤ x5 → r = some (vI (-1)) ∧ M' = M) ∧ (¬ (8 ≤ x5) → (InR (x1 * 8) ∧ InR ((x1 * 8) + x5) ∧ (0 ≤ ((x1 * 8) + x5) ∧ ((x1 * 8) + x5) < 64)) ∧ (((M.1 34 k3 ((x1 * 8) + x5).toNat) = 0 → (InR (x5 + 1)) ∧ Ex l G d mX10_nextOf 31 [some (vR (some (7, 0))), some (vI x1), some (vI x2), some (vR (some (34, k3))), some (vI x4), some (vI (x5 + 1)), none] [] M r M') ∧ (¬ ((M.1 34 k3 ((x1 * 8) + x5).toNat) = 0) → (InR (x5 * 8) ∧ InR ((x5 * 8) + x2) ∧ (0 ≤ ((x5 * 8) + x2) ∧ ((x5 * 8) + x2) < 64) ∧ InR ((M.1 34 k3 ((x1 * 8) + x5).toNat) + (M.1 45 0 ((x5 * 8) + x2).toNat))) ∧ ((¬ ((M.1 34 k3 ((x1 * 8) + x5).toNat) + (M.1 45 0 ((x5 * 8) + x2).toNat)) = x4 → (InR (x5 + 1)) ∧ Ex l G d mX10_nextOf 31 [some (vR (some (7, 0))), some (vI x1), some (vI x2), some (vR (some (34, k3))), some (vI x4), some (vI (x5 + 1)), none] [] M r M') ∧ (¬ (¬ ((M.1 34 k3 ((x1 * 8) + x5).toNat) + (M.1 45 0 ((x5 * 8) + x2).toNat)) = x4) → r = some (vI x5) ∧ M' = M)))))) : Ex l G d mX10_nextOf 31 [some (vR (some (7, 0))), some (vI x1), some (vI x2), some (vR (some (34, k3))), some (vI x4), some (vI x5), none] [] M r M' := by
  refine r_iload 33 dX10_nextOf_31 rfl rfl ?_
  refine r_bipush 35 dX10_nextOf_33 rfl rfl ?_
  refine r_icmp_ge 38 83 dX10_nextOf_35 rfl rfl (fun c => ?_) (fun c => ?_)
  · have h := h.1 (c)
    refine r_iconst 84 dX10_nextOf_83 rfl (InR_of rfl) ?_
    exact r_iret dX10_nextOf_84 rfl (.inl rfl) h.1 h.2
  · have h := h.2 (c)
    obtain ⟨⟨o1, o2, o3⟩, h⟩ := h
    refine r_aload_n 39 dX10_nextOf_38 rfl rfl ?_
    refine r_iload_n 40 dX10_nextOf_39 rfl rfl ?_
    refine r_bipush 42 dX10_nextOf_40 rfl rfl ?_
    refine r_imul 43 dX10_nextOf_42 rfl o1 ?_
    refine r_iload 45 dX10_nextOf_43 rfl rfl ?_
    refine r_iadd 46 dX10_nextOf_45 rfl o2 ?_
    refine a_I 64 47 dX10_nextOf_46 rfl rfl rfl rfl o3 rfl ?_
    refine r_istore (ls' := [some (vR (some (7, 0))), some (vI x1), some (vI x2), some (vR (some (34, k3))), some (vI x4), some (vI x5), some (vI (M.1 34 k3 ((x1 * 8) + x5).toNat))]) 49 dX10_nextOf_47 rfl rfl rfl rfl ?_
    refine r_iload 51 dX10_nextOf_49 rfl rfl ?_
    refine r_if_eq 54 77 dX10_nextOf_51 rfl rfl (fun c => ?_) (fun c => ?_)
    · have h := h.1 (c)
      obtain ⟨o4, h⟩ := h
      refine r_iinc (ls' := [some (vR (some (7, 0))), some (vI x1), some (vI x2), some (vR (some (34, k3))), some (vI x4), some (vI (x5 + 1)), some (vI (M.1 34 k3 ((x1 * 8) + x5).toNat))]) 80 dX10_nextOf_77 rfl rfl rfl rfl o4 rfl ?_
      refine r_goto 31 dX10_nextOf_80 rfl ?_
      exact Ex.weak h ⟨rfl, rfl, rfl, rfl, rfl, rfl, trivial⟩
    · have h := h.2 (c)
      obtain ⟨⟨o5, o6, o7, o8⟩, h⟩ := h
      refine r_iload 56 dX10_nextOf_54 rfl rfl ?_
      refine r_aload_n 57 dX10_nextOf_56 rfl rfl ?_
      refine g_R 60 dX10_nextOf_57 rfl rfl rfl fr_10_9 (sh_10_0 hS) ?_
      refine r_iload 62 dX10_nextOf_60 rfl rfl ?_
      refine r_bipush 64 dX10_nextOf_62 rfl rfl ?_
      refine r_imul 65 dX10_nextOf_64 rfl o5 ?_
      refine r_iload_n 66 dX10_nextOf_65 rfl rfl ?_
      refine r_iadd 67 dX10_nextOf_66 rfl o6 ?_
      refine a_I 64 68 dX10_nextOf_67 rfl rfl rfl rfl o7 rfl ?_
      refine r_iadd 69 dX10_nextOf_68 rfl o8 ?_
      refine r_iload 71 dX10_nextOf_69 rfl rfl ?_
      refine r_icmp_ne 74 77 dX10_nextOf_71 rfl rfl (fun c => ?_) (fun c => ?_)
      · have h := h.1 (c)
        obtain ⟨o9, h⟩ := h
        refine r_iinc (ls' := [some (vR (some (7, 0))), some (vI x1), some (vI x2), some (vR (some (34, k3))), some (vI x4), some (vI (x5 + 1)), some (vI (M.1 34 k3 ((x1 * 8) + x5).toNat))]) 80 dX10_nextOf_77 rfl rfl rfl rfl o9 rfl ?_
        refine r_goto 31 dX10_nextOf_80 rfl ?_
        exact Ex.weak h ⟨rfl, rfl, rfl, rfl, rfl, rfl, trivial⟩
      · have h := h.2 (c)
        refine r_iload 76 dX10_nextOf_74 rfl rfl ?_
        exact r_iret dX10_nextOf_76 rfl (.inl rfl) h.1 h.2

set_option maxRecDepth 4000 in
theorem xX0_nearestNew_0 {l : Launch} {G : Gt} {d : Nat} {M M' : Mem} {r : Option Vl} {k1 : Nat} (h : 
    Ex l G (d + 1) mX0_nearestNew 8 [some (vR (some (9, 0))), some (vR (some (5, k1))), some (vI (-1)), some (vI 10), some (vI 0), none] [] M r M') : Cl l G (d + 1) mX0_nearestNew [vR (some (9, 0)), vR (some (5, k1))] M r M' := by
  show Ex l G (d + 1) mX0_nearestNew 0 [some (vR (some (9, 0))), some (vR (some (5, k1))), none, none, none, none] [] M r M'
  refine r_iconst 1 dX0_nearestNew_0 rfl (InR_of rfl) ?_
  refine r_istore_n (ls' := [some (vR (some (9, 0))), some (vR (some (5, k1))), some (vI (-1)), none, none, none]) 2 dX0_nearestNew_1 rfl rfl rfl rfl ?_
  refine r_bipush 4 dX0_nearestNew_2 rfl rfl ?_
  refine r_istore_n (ls' := [some (vR (some (9, 0))), some (vR (some (5, k1))), some (vI (-1)), some (vI 10), none, none]) 5 dX0_nearestNew_4 rfl rfl rfl rfl ?_
  refine r_iconst 6 dX0_nearestNew_5 rfl (InR_of rfl) ?_
  refine r_istore (ls' := [some (vR (some (9, 0))), some (vR (some (5, k1))), some (vI (-1)), some (vI 10), some (vI 0), none]) 8 dX0_nearestNew_6 rfl rfl rfl rfl ?_
  exact h
set_option maxRecDepth 4000 in
theorem xX0_nearestNew_8 {l : Launch} {G : Gt} {d : Nat} {M M' : Mem} {r : Option Vl} {k1 : Nat} {x2 : Int} {x3 : Int} {x4 : Int} (hS : Sh M.2.1) (h : 
    (8 ≤ x4 → r = some (vI x2) ∧ M' = M) ∧ (¬ (8 ≤ x4) → (InR ((M.1 5 k1 6) * 8) ∧ InR (((M.1 5 k1 6) * 8) + x4) ∧ (0 ≤ (((M.1 5 k1 6) * 8) + x4) ∧ (((M.1 5 k1 6) * 8) + x4) < 64)) ∧ (((M.1 34 0 (((M.1 5 k1 6) * 8) + x4).toNat) = 0 → (InR (x4 + 1)) ∧ Ex l G (d + 1) mX0_nearestNew 8 [some (vR (some (9, 0))), some (vR (some (5, k1))), some (vI x2), some (vI x3), some (vI (x4 + 1)), none] [] M r M') ∧ (¬ ((M.1 34 0 (((M.1 5 k1 6) * 8) + x4).toNat) = 0) → (x3 ≤ (M.1 34 0 (((M.1 5 k1 6) * 8) + x4).toNat) → (InR (x4 + 1)) ∧ Ex l G (d + 1) mX0_nearestNew 8 [some (vR (some (9, 0))), some (vR (some (5, k1))), some (vI x2), some (vI x3), some (vI (x4 + 1)), none] [] M r M') ∧ (¬ (x3 ≤ (M.1 34 0 (((M.1 5 k1 6) * 8) + x4).toNat)) → ∃ (r8 : Int) (M6 : Mem), Cl l G d mX11_hasBit [vI (M.1 5 k1 9), vI x4] M (some (vI r8)) M6 ∧ (InR (x4 + 1)) ∧ Ex l G (d + 1) mX0_nearestNew 8 [some (vR (some (9, 0))), some (vR (some (5, k1))), some (vI (if ¬ r8 = 0 then x2 else x4 : Int)), some (vI (if ¬ r8 = 0 then x3 else (M.1 34 0 (((M.1 5 k1 6) * 8) + x4).toNat) : Int)), some (vI (x4 + 1)), none] [] M6 r M'))))) : Ex l G (d + 1) mX0_nearestNew 8 [some (vR (some (9, 0))), some (vR (some (5, k1))), some (vI x2), some (vI x3), some (vI x4), none] [] M r M' := by
  refine r_iload 10 dX0_nearestNew_8 rfl rfl ?_
  refine r_bipush 12 dX0_nearestNew_10 rfl rfl ?_
  refine r_icmp_ge 15 70 dX0_nearestNew_12 rfl rfl (fun c => ?_) (fun c => ?_)
  · have h := h.1 (c)
    refine r_iload_n 71 dX0_nearestNew_70 rfl rfl ?_
    exact r_iret dX0_nearestNew_71 rfl (.inl rfl) h.1 h.2
  · have h := h.2 (c)
    obtain ⟨⟨o1, o2, o3⟩, h⟩ := h
    refine r_aload_n 16 dX0_nearestNew_15 rfl rfl ?_
    refine g_R 19 dX0_nearestNew_16 rfl rfl rfl fr_0_15 (sh_0_0 hS) ?_
    refine g_R 22 dX0_nearestNew_19 rfl rfl rfl fr_0_134 (sh_8_3 hS _) ?_
    refine r_aload_n 23 dX0_nearestNew_22 rfl rfl ?_
    refine g_I 26 dX0_nearestNew_23 rfl rfl rfl fi_0_116 rfl ?_
    refine r_bipush 28 dX0_nearestNew_26 rfl rfl ?_
    refine r_imul 29 dX0_nearestNew_28 rfl o1 ?_
    refine r_iload 31 dX0_nearestNew_29 rfl rfl ?_
    refine r_iadd 32 dX0_nearestNew_31 rfl o2 ?_
    refine a_I 64 33 dX0_nearestNew_32 rfl rfl rfl rfl o3 rfl ?_
    refine r_istore (ls' := [some (vR (some (9, 0))), some (vR (some (5, k1))), some (vI x2), some (vI x3), some (vI x4), some (vI (M.1 34 0 (((M.1 5 k1 6) * 8) + x4).toNat))]) 35 dX0_nearestNew_33 rfl rfl rfl rfl ?_
    refine r_iload 37 dX0_nearestNew_35 rfl rfl ?_
    refine r_if_eq 40 64 dX0_nearestNew_37 rfl rfl (fun c => ?_) (fun c => ?_)
    · have h := h.1 (c)
      obtain ⟨o4, h⟩ := h
      refine r_iinc (ls' := [some (vR (some (9, 0))), some (vR (some (5, k1))), some (vI x2), some (vI x3), some (vI (x4 + 1)), some (vI (M.1 34 0 (((M.1 5 k1 6) * 8) + x4).toNat))]) 67 dX0_nearestNew_64 rfl rfl rfl rfl o4 rfl ?_
      refine r_goto 8 dX0_nearestNew_67 rfl ?_
      exact Ex.weak h ⟨rfl, rfl, rfl, rfl, rfl, trivial⟩
    · have h := h.2 (c)
      refine r_iload 42 dX0_nearestNew_40 rfl rfl ?_
      refine r_iload_n 43 dX0_nearestNew_42 rfl rfl ?_
      refine r_icmp_ge 46 64 dX0_nearestNew_43 rfl rfl (fun c => ?_) (fun c => ?_)
      · have h := h.1 (c)
        obtain ⟨o5, h⟩ := h
        refine r_iinc (ls' := [some (vR (some (9, 0))), some (vR (some (5, k1))), some (vI x2), some (vI x3), some (vI (x4 + 1)), some (vI (M.1 34 0 (((M.1 5 k1 6) * 8) + x4).toNat))]) 67 dX0_nearestNew_64 rfl rfl rfl rfl o5 rfl ?_
        refine r_goto 8 dX0_nearestNew_67 rfl ?_
        exact Ex.weak h ⟨rfl, rfl, rfl, rfl, rfl, trivial⟩
      · have h := h.2 (c)
        refine r_aload_n 47 dX0_nearestNew_46 rfl rfl ?_
        refine g_I 50 dX0_nearestNew_47 rfl rfl rfl fi_0_137 rfl ?_
        refine r_iload 52 dX0_nearestNew_50 rfl rfl ?_
        obtain ⟨r8, M6, hc7, h⟩ := h
        refine n_1 [vI (M.1 5 k1 9), vI x4] [] 55 dX0_nearestNew_52 rfl rfl mo_X11_hasBit ml_0_66 rfl rfl hc7 ?_
        have hJ9 : Ex l G (d + 1) mX0_nearestNew 64 [some (vR (some (9, 0))), some (vR (some (5, k1))), some (vI (if ¬ r8 = 0 then x2 else x4 : Int)), some (vI (if ¬ r8 = 0 then x3 else (M.1 34 0 (((M.1 5 k1 6) * 8) + x4).toNat) : Int)), some (vI x4), some (vI (M.1 34 0 (((M.1 5 k1 6) * 8) + x4).toNat))] [] M6 r M' := by
          obtain ⟨o11, h⟩ := h
          refine r_iinc (ls' := [some (vR (some (9, 0))), some (vR (some (5, k1))), some (vI (if ¬ r8 = 0 then x2 else x4 : Int)), some (vI (if ¬ r8 = 0 then x3 else (M.1 34 0 (((M.1 5 k1 6) * 8) + x4).toNat) : Int)), some (vI (x4 + 1)), some (vI (M.1 34 0 (((M.1 5 k1 6) * 8) + x4).toNat))]) 67 dX0_nearestNew_64 rfl rfl rfl rfl o11 rfl ?_
          refine r_goto 8 dX0_nearestNew_67 rfl ?_
          exact Ex.weak h ⟨rfl, rfl, rfl, rfl, rfl, trivial⟩
        refine r_if_ne 58 64 dX0_nearestNew_55 rfl rfl (fun c => ?_) (fun c => ?_)
        · have c10 := c
          simp only [if_pos c10] at hJ9
          exact hJ9
        · have c10 := c
          refine r_iload 60 dX0_nearestNew_58 rfl rfl ?_
          refine r_istore_n (ls' := [some (vR (some (9, 0))), some (vR (some (5, k1))), some (vI x4), some (vI x3), some (vI x4), some (vI (M.1 34 0 (((M.1 5 k1 6) * 8) + x4).toNat))]) 61 dX0_nearestNew_60 rfl rfl rfl rfl ?_
          refine r_iload 63 dX0_nearestNew_61 rfl rfl ?_
          refine r_istore_n (ls' := [some (vR (some (9, 0))), some (vR (some (5, k1))), some (vI x4), some (vI (M.1 34 0 (((M.1 5 k1 6) * 8) + x4).toNat)), some (vI x4), some (vI (M.1 34 0 (((M.1 5 k1 6) * 8) + x4).toNat))]) 64 dX0_nearestNew_63 rfl rfl rfl rfl ?_
          simp only [if_neg c10] at hJ9
          exact hJ9

set_option maxRecDepth 4000 in
theorem xX0_goTo_0 {l : Launch} {G : Gt} {d : Nat} {M M' : Mem} {r : Option Vl} {k1 : Nat} {x2 : Int} (hS : Sh M.2.1) (h : 
    (InR ((M.1 5 k1 6) * 8) ∧ InR (((M.1 5 k1 6) * 8) + x2) ∧ (0 ≤ (((M.1 5 k1 6) * 8) + x2) ∧ (((M.1 5 k1 6) * 8) + x2) < 64) ∧ InR ((M.1 5 k1 7) + (M.1 34 0 (((M.1 5 k1 6) * 8) + x2).toNat)) ∧ (0 ≤ x2 ∧ x2 < 32) ∧ InR ((M.1 5 k1 10) + 1)) ∧ r = none ∧ M' = ((upI (upI (upI (upI M.1 5 k1 7 ((M.1 5 k1 7) + (M.1 34 0 (((M.1 5 k1 6) * 8) + x2).toNat))) 5 k1 6 x2) 5 k1 9 (aOr (M.1 5 k1 9) (aShl 1 x2))) 5 k1 10 ((M.1 5 k1 10) + 1)), M.2.1, M.2.2)) : Cl l G d mX0_goTo [vR (some (9, 0)), vR (some (5, k1)), vI x2] M r M' := by
  show Ex l G d mX0_goTo 0 [some (vR (some (9, 0))), some (vR (some (5, k1))), some (vI x2)] [] M r M'
  obtain ⟨⟨o1, o2, o3, o4, o5, o6⟩, h⟩ := h
  refine r_aload_n 1 dX0_goTo_0 rfl rfl ?_
  refine r_dup 2 dX0_goTo_1 rfl rfl ?_
  refine g_I 5 dX0_goTo_2 rfl rfl rfl fi_0_113 rfl ?_
  refine r_aload_n 6 dX0_goTo_5 rfl rfl ?_
  refine g_R 9 dX0_goTo_6 rfl rfl rfl fr_0_15 (sh_0_0 hS) ?_
  refine g_R 12 dX0_goTo_9 rfl rfl rfl fr_0_134 (sh_8_3 hS _) ?_
  refine r_aload_n 13 dX0_goTo_12 rfl rfl ?_
  refine g_I 16 dX0_goTo_13 rfl rfl rfl fi_0_116 rfl ?_
  refine r_bipush 18 dX0_goTo_16 rfl rfl ?_
  refine r_imul 19 dX0_goTo_18 rfl o1 ?_
  refine r_iload_n 20 dX0_goTo_19 rfl rfl ?_
  refine r_iadd 21 dX0_goTo_20 rfl o2 ?_
  refine a_I 64 22 dX0_goTo_21 rfl rfl rfl rfl o3 rfl ?_
  refine r_iadd 23 dX0_goTo_22 rfl o4 ?_
  refine p_I 26 dX0_goTo_23 rfl rfl rfl rfl pf_0_113 (.inl rfl) rfl ?_
  refine r_aload_n 27 dX0_goTo_26 rfl rfl ?_
  refine r_iload_n 28 dX0_goTo_27 rfl rfl ?_
  refine p_I 31 dX0_goTo_28 rfl rfl rfl rfl pf_0_116 (.inl rfl) rfl ?_
  refine r_aload_n 32 dX0_goTo_31 rfl rfl ?_
  refine r_dup 33 dX0_goTo_32 rfl rfl ?_
  refine g_I 36 dX0_goTo_33 rfl rfl rfl fi_0_137 (mI_0 ((upI_i (by decide)).trans (upI_i (by decide)))) ?_
  refine r_iconst 37 dX0_goTo_36 rfl (InR_of rfl) ?_
  refine r_iload_n 38 dX0_goTo_37 rfl rfl ?_
  refine r_ishl 39 dX0_goTo_38 rfl o5 ?_
  refine r_ior 40 dX0_goTo_39 rfl ?_
  refine p_I 43 dX0_goTo_40 rfl rfl rfl rfl pf_0_137 (.inl rfl) rfl ?_
  refine r_aload_n 44 dX0_goTo_43 rfl rfl ?_
  refine r_dup 45 dX0_goTo_44 rfl rfl ?_
  refine g_I 48 dX0_goTo_45 rfl rfl rfl fi_0_140 (mI_0 ((upI_i (by decide)).trans ((upI_i (by decide)).trans (upI_i (by decide))))) ?_
  refine r_iconst 49 dX0_goTo_48 rfl (InR_of rfl) ?_
  refine r_iadd 50 dX0_goTo_49 rfl o6 ?_
  refine p_I 53 dX0_goTo_50 rfl rfl rfl rfl pf_0_140 (.inl rfl) rfl ?_
  exact r_vret dX0_goTo_53 rfl h.1 h.2

set_option maxRecDepth 4000 in
theorem xX6_on_0 {l : Launch} {G : Gt} {d : Nat} {M M' : Mem} {r : Option Vl} {x1 : Int} (h : 
    Ex l G (d + 1) mX6_on 5 [some (vR (some (6, 0))), some (vI x1), some (vI 0), some (vI 32), none] [] M r M') : Cl l G (d + 1) mX6_on [vR (some (6, 0)), vI x1] M r M' := by
  show Ex l G (d + 1) mX6_on 0 [some (vR (some (6, 0))), some (vI x1), none, none, none] [] M r M'
  refine r_iconst 1 dX6_on_0 rfl (InR_of rfl) ?_
  refine r_istore_n (ls' := [some (vR (some (6, 0))), some (vI x1), some (vI 0), none, none]) 2 dX6_on_1 rfl rfl rfl rfl ?_
  refine r_bipush 4 dX6_on_2 rfl rfl ?_
  refine r_istore_n (ls' := [some (vR (some (6, 0))), some (vI x1), some (vI 0), some (vI 32), none]) 5 dX6_on_4 rfl rfl rfl rfl ?_
  exact h
set_option maxRecDepth 4000 in
theorem xX6_on_5 {l : Launch} {G : Gt} {d : Nat} {M M' : Mem} {r : Option Vl} {x1 : Int} {x2 : Int} {x3 : Int} (hS : Sh M.2.1) (h : 
    (x3 ≤ 0 → (InR ((M.1 6 0 2) + 1)) ∧ Ex l G (d + 1) mX6_on 62 [some (vR (some (6, 0))), some (vI x1), some (vI x2), some (vI ((M.1 6 0 2) + 1)), none] [] M r M') ∧ (¬ (x3 ≤ 0) → (InR (x2 + x3)) ∧ (((M.1 4 0 4) < (x2 + x3) → (0 ≤ x3) ∧ Ex l G (d + 1) mX6_on 5 [some (vR (some (6, 0))), some (vI x1), some (vI x2), some (vI (x3 / 2)), none] [] M r M') ∧ (¬ ((M.1 4 0 4) < (x2 + x3)) → (InR ((x2 + x3) - 1) ∧ (0 ≤ ((x2 + x3) - 1) ∧ ((x2 + x3) - 1) < 60)) ∧ (∃ (r8 : Int) (M6 : Mem), Cl l G d mX8_dayOfChange [vI (M.1 35 0 ((x2 + x3) - 1).toNat)] M (some (vI r8)) M6 ∧ (0 ≤ x3) ∧ Ex l G (d + 1) mX6_on 5 [some (vR (some (6, 0))), some (vI x1), some (vI (if x1 < r8 then x2 else (x2 + x3) : Int)), some (vI (x3 / 2)), none] [] M6 r M'))))) : Ex l G (d + 1) mX6_on 5 [some (vR (some (6, 0))), some (vI x1), some (vI x2), some (vI x3), none] [] M r M' := by
  refine r_iload_n 6 dX6_on_5 rfl rfl ?_
  refine r_if_le 9 55 dX6_on_6 rfl rfl (fun c => ?_) (fun c => ?_)
  · have h := h.1 (c)
    obtain ⟨o1, h⟩ := h
    refine r_aload_n 56 dX6_on_55 rfl rfl ?_
    refine g_I 59 dX6_on_56 rfl rfl rfl fi_6_17 rfl ?_
    refine r_iconst 60 dX6_on_59 rfl (InR_of rfl) ?_
    refine r_iadd 61 dX6_on_60 rfl o1 ?_
    refine r_istore_n (ls' := [some (vR (some (6, 0))), some (vI x1), some (vI x2), some (vI ((M.1 6 0 2) + 1)), none]) 62 dX6_on_61 rfl rfl rfl rfl ?_
    exact h
  · have h := h.2 (c)
    obtain ⟨o2, h⟩ := h
    refine r_iload_n 10 dX6_on_9 rfl rfl ?_
    refine r_iload_n 11 dX6_on_10 rfl rfl ?_
    refine r_iadd 12 dX6_on_11 rfl o2 ?_
    refine r_istore (ls' := [some (vR (some (6, 0))), some (vI x1), some (vI x2), some (vI x3), some (vI (x2 + x3))]) 14 dX6_on_12 rfl rfl rfl rfl ?_
    refine r_iload 16 dX6_on_14 rfl rfl ?_
    refine r_aload_n 17 dX6_on_16 rfl rfl ?_
    refine g_R 20 dX6_on_17 rfl rfl rfl fr_6_21 (sh_6_0 hS) ?_
    refine g_I 23 dX6_on_20 rfl rfl rfl fi_6_31 rfl ?_
    refine r_icmp_gt 26 48 dX6_on_23 rfl rfl (fun c => ?_) (fun c => ?_)
    · have h := h.1 (c)
      obtain ⟨o3, h⟩ := h
      refine r_iload_n 49 dX6_on_48 rfl rfl ?_
      refine r_iconst 50 dX6_on_49 rfl (InR_of rfl) ?_
      refine r_idiv 51 dX6_on_50 rfl ⟨o3, by decide⟩ ?_
      refine r_istore_n (ls' := [some (vR (some (6, 0))), some (vI x1), some (vI x2), some (vI (x3 / 2)), some (vI (x2 + x3))]) 52 dX6_on_51 rfl rfl rfl rfl ?_
      refine r_goto 5 dX6_on_52 rfl ?_
      exact Ex.weak h ⟨rfl, rfl, rfl, rfl, trivial⟩
    · have h := h.2 (c)
      obtain ⟨⟨o4, o5⟩, h⟩ := h
      refine r_aload_n 27 dX6_on_26 rfl rfl ?_
      refine g_R 30 dX6_on_27 rfl rfl rfl fr_6_21 (sh_6_0 hS) ?_
      refine g_R 33 dX6_on_30 rfl rfl rfl fr_6_36 (sh_8_5 hS _) ?_
      refine r_iload 35 dX6_on_33 rfl rfl ?_
      refine r_iconst 36 dX6_on_35 rfl (InR_of rfl) ?_
      refine r_isub 37 dX6_on_36 rfl o4 ?_
      refine a_I 60 38 dX6_on_37 rfl rfl rfl rfl o5 rfl ?_
      obtain ⟨r8, M6, hc7, h⟩ := h
      refine c_1 [vI (M.1 35 0 ((x2 + x3) - 1).toNat)] [] 41 dX6_on_38 rfl rfl mo_X8_dayOfChange ml_6_40 rfl rfl hc7 ?_
      refine r_iload_n 42 dX6_on_41 rfl rfl ?_
      have hJ9 : Ex l G (d + 1) mX6_on 48 [some (vR (some (6, 0))), some (vI x1), some (vI (if x1 < r8 then x2 else (x2 + x3) : Int)), some (vI x3), some (vI (x2 + x3))] [] M6 r M' := by
        obtain ⟨o11, h⟩ := h
        refine r_iload_n 49 dX6_on_48 rfl rfl ?_
        refine r_iconst 50 dX6_on_49 rfl (InR_of rfl) ?_
        refine r_idiv 51 dX6_on_50 rfl ⟨o11, by decide⟩ ?_
        refine r_istore_n (ls' := [some (vR (some (6, 0))), some (vI x1), some (vI (if x1 < r8 then x2 else (x2 + x3) : Int)), some (vI (x3 / 2)), some (vI (x2 + x3))]) 52 dX6_on_51 rfl rfl rfl rfl ?_
        refine r_goto 5 dX6_on_52 rfl ?_
        exact Ex.weak h ⟨rfl, rfl, rfl, rfl, trivial⟩
      refine r_icmp_gt 45 48 dX6_on_42 rfl rfl (fun c => ?_) (fun c => ?_)
      · have c10 := c
        simp only [if_pos c10] at hJ9
        exact hJ9
      · have c10 := c
        refine r_iload 47 dX6_on_45 rfl rfl ?_
        refine r_istore_n (ls' := [some (vR (some (6, 0))), some (vI x1), some (vI (x2 + x3)), some (vI x3), some (vI (x2 + x3))]) 48 dX6_on_47 rfl rfl rfl rfl ?_
        simp only [if_neg c10] at hJ9
        exact hJ9
set_option maxRecDepth 4000 in
theorem xX6_on_62 {l : Launch} {G : Gt} {d : Nat} {M M' : Mem} {r : Option Vl} {x1 : Int} {x2 : Int} {x3 : Int} (hS : Sh M.2.1) (h : 
    (x2 < x3 → ((0 ≤ x2 ∧ x2 < 61)) ∧ r = some (vR (M.2.1 28 0 x2.toNat)) ∧ M' = M) ∧ (¬ (x2 < x3) → ((0 ≤ x3 ∧ x3 < 61)) ∧ ((¬ ((M.2.1 28 0 x3.toNat) = none) → (¬ x3 = 0 → ((0 ≤ x3 ∧ x3 < 61) ∧ InR (x3 - 1) ∧ (0 ≤ (x3 - 1) ∧ (x3 - 1) < 61) ∧ InR (x3 - 1) ∧ (0 ≤ (x3 - 1) ∧ (x3 - 1) < 60)) ∧ (∃ k8 : Nat, (M.2.1 28 0 x3.toNat) = some (14, k8) ∧ (∃ (M10 : Mem), Cl l G d mX7_follow [vR (some (14, k8)), vR (M.2.1 28 0 (x3 - 1).toNat), vI (M.1 35 0 (x3 - 1).toNat)] M none M10 ∧ (InR (x3 + 1)) ∧ Ex l G (d + 1) mX6_on 62 [some (vR (some (6, 0))), some (vI x1), some (vI x2), some (vI (x3 + 1)), none] [] ((upI M10.1 6 0 2 x3), M10.2.1, M10.2.2) r M'))) ∧ (¬ (¬ x3 = 0) → ∃ k13 : Nat, (M.2.1 28 0 0) = some (14, k13) ∧ (∃ (M15 : Mem), Cl l G d mX7_beginWith [vR (some (14, k13)), vR (some (4, 0))] M none M15 ∧ (InR (x3 + 1)) ∧ Ex l G (d + 1) mX6_on 62 [some (vR (some (6, 0))), some (vI x1), some (vI x2), some (vI (x3 + 1)), none] [] ((upI M15.1 6 0 2 x3), M15.2.1, M15.2.2) r M'))) ∧ ((M.2.1 28 0 x3.toNat) = none → ∃ (M18 : Mem), Cl l G d mX7_init [vR (some (14, cCnt M.2.2 14)), vI x3] (newM M 14 0 5) none M18 ∧ Sh M18.2.1 ∧ (((0 ≤ x3 ∧ x3 < 61)) ∧ ((¬ x3 = 0 → ((0 ≤ x3 ∧ x3 < 61) ∧ InR (x3 - 1) ∧ (0 ≤ (x3 - 1) ∧ (x3 - 1) < 61) ∧ InR (x3 - 1) ∧ (0 ≤ (x3 - 1) ∧ (x3 - 1) < 60)) ∧ (∃ (M26 : Mem), Cl l G d mX7_follow [vR (some (14, cCnt M.2.2 14)), vR ((upR M18.2.1 28 0 x3.toNat (some (14, cCnt M.2.2 14))) 28 0 (x3 - 1).toNat), vI (M18.1 35 0 (x3 - 1).toNat)] (M18.1, (upR M18.2.1 28 0 x3.toNat (some (14, cCnt M.2.2 14))), M18.2.2) none M26 ∧ (InR (x3 + 1)) ∧ Ex l G (d + 1) mX6_on 62 [some (vR (some (6, 0))), some (vI x1), some (vI x2), some (vI (x3 + 1)), none] [] ((upI M26.1 6 0 2 x3), M26.2.1, M26.2.2) r M')) ∧ (¬ (¬ x3 = 0) → ∃ k29 : Nat, ((upR M18.2.1 28 0 x3.toNat (some (14, cCnt M.2.2 14))) 28 0 0) = some (14, k29) ∧ (∃ (M31 : Mem), Cl l G d mX7_beginWith [vR (some (14, k29)), vR (some (4, 0))] (M18.1, (upR M18.2.1 28 0 x3.toNat (some (14, cCnt M.2.2 14))), M18.2.2) none M31 ∧ (InR (x3 + 1)) ∧ Ex l G (d + 1) mX6_on 62 [some (vR (some (6, 0))), some (vI x1), some (vI x2), some (vI (x3 + 1)), none] [] ((upI M31.1 6 0 2 x3), M31.2.1, M31.2.2) r M')))))))) : Ex l G (d + 1) mX6_on 62 [some (vR (some (6, 0))), some (vI x1), some (vI x2), some (vI x3), none] [] M r M' := by
  refine r_iload_n 63 dX6_on_62 rfl rfl ?_
  refine r_iload_n 64 dX6_on_63 rfl rfl ?_
  refine r_icmp_gt 67 149 dX6_on_64 rfl rfl (fun c => ?_) (fun c => ?_)
  · have h := h.1 (c)
    obtain ⟨o1, h⟩ := h
    refine r_aload_n 150 dX6_on_149 rfl rfl ?_
    refine g_R 153 dX6_on_150 rfl rfl rfl fr_6_11 (sh_6_1 hS) ?_
    refine r_iload_n 154 dX6_on_153 rfl rfl ?_
    refine a_R (ci := 7) 61 155 dX6_on_154 rfl rfl rfl rfl rfl o1 rfl ?_
    exact r_aret dX6_on_155 rfl rfl h.1 h.2
  · have h := h.2 (c)
    obtain ⟨o2, h⟩ := h
    refine r_aload_n 68 dX6_on_67 rfl rfl ?_
    refine g_R 71 dX6_on_68 rfl rfl rfl fr_6_11 (sh_6_1 hS) ?_
    refine r_iload_n 72 dX6_on_71 rfl rfl ?_
    refine a_R (ci := 7) 61 73 dX6_on_72 rfl rfl rfl rfl rfl o2 rfl ?_
    refine r_ifnonnull 76 90 dX6_on_73 rfl rfl (fun c => ?_) (fun c => ?_)
    · have h := h.1 (c)
      refine r_iload_n 91 dX6_on_90 rfl rfl ?_
      refine r_if_ne 94 110 dX6_on_91 rfl rfl (fun c => ?_) (fun c => ?_)
      · have h := h.1 (c)
        obtain ⟨⟨o3, o4, o5, o6, o7⟩, h⟩ := h
        refine r_aload_n 111 dX6_on_110 rfl rfl ?_
        refine g_R 114 dX6_on_111 rfl rfl rfl fr_6_11 (sh_6_1 hS) ?_
        refine r_iload_n 115 dX6_on_114 rfl rfl ?_
        refine a_R (ci := 7) 61 116 dX6_on_115 rfl rfl rfl rfl rfl o3 rfl ?_
        refine r_aload_n 117 dX6_on_116 rfl rfl ?_
        refine g_R 120 dX6_on_117 rfl rfl rfl fr_6_11 (sh_6_1 hS) ?_
        refine r_iload_n 121 dX6_on_120 rfl rfl ?_
        refine r_iconst 122 dX6_on_121 rfl (InR_of rfl) ?_
        refine r_isub 123 dX6_on_122 rfl o4 ?_
        refine a_R (ci := 7) 61 124 dX6_on_123 rfl rfl rfl rfl rfl o5 rfl ?_
        refine r_aload_n 125 dX6_on_124 rfl rfl ?_
        refine g_R 128 dX6_on_125 rfl rfl rfl fr_6_21 (sh_6_0 hS) ?_
        refine g_R 131 dX6_on_128 rfl rfl rfl fr_6_36 (sh_8_5 hS _) ?_
        refine r_iload_n 132 dX6_on_131 rfl rfl ?_
        refine r_iconst 133 dX6_on_132 rfl (InR_of rfl) ?_
        refine r_isub 134 dX6_on_133 rfl o6 ?_
        refine a_I 60 135 dX6_on_134 rfl rfl rfl rfl o7 rfl ?_
        obtain ⟨k8, e9, h⟩ := h
        obtain ⟨M10, hc11, h⟩ := h
        refine v_0 (ci := 7) (C := (RX7, TX7, 5)) [vR (M.2.1 28 0 (x3 - 1).toNat), vI (M.1 35 0 (x3 - 1).toNat)] [] 138 dX6_on_135 rfl e9 (by rw [e9]) rfl rfl mo_X7_follow ml_6_51 rfl rfl hc11 ?_
        obtain ⟨o12, h⟩ := h
        refine r_aload_n 139 dX6_on_138 rfl rfl ?_
        refine r_iload_n 140 dX6_on_139 rfl rfl ?_
        refine p_I 143 dX6_on_140 rfl rfl rfl rfl pf_6_17 (.inl rfl) rfl ?_
        refine r_iinc (ls' := [some (vR (some (6, 0))), some (vI x1), some (vI x2), some (vI (x3 + 1)), none]) 146 dX6_on_143 rfl rfl rfl rfl o12 rfl ?_
        refine r_goto 62 dX6_on_146 rfl ?_
        exact h
      · have h := h.2 (c)
        refine r_aload_n 95 dX6_on_94 rfl rfl ?_
        refine g_R 98 dX6_on_95 rfl rfl rfl fr_6_11 (sh_6_1 hS) ?_
        refine r_iconst 99 dX6_on_98 rfl (InR_of rfl) ?_
        refine a_R (ci := 7) 61 100 dX6_on_99 rfl rfl rfl rfl rfl ⟨by decide, by decide⟩ rfl ?_
        refine r_aload_n 101 dX6_on_100 rfl rfl ?_
        refine g_R 104 dX6_on_101 rfl rfl rfl fr_6_21 (sh_6_0 hS) ?_
        obtain ⟨k13, e14, h⟩ := h
        obtain ⟨M15, hc16, h⟩ := h
        refine v_0 (ci := 7) (C := (RX7, TX7, 5)) [vR (some (4, 0))] [] 107 dX6_on_104 rfl e14 (by rw [e14]) rfl rfl mo_X7_beginWith ml_6_47 rfl rfl hc16 ?_
        obtain ⟨o17, h⟩ := h
        refine r_goto 138 dX6_on_107 rfl ?_
        refine r_aload_n 139 dX6_on_138 rfl rfl ?_
        refine r_iload_n 140 dX6_on_139 rfl rfl ?_
        refine p_I 143 dX6_on_140 rfl rfl rfl rfl pf_6_17 (.inl rfl) rfl ?_
        refine r_iinc (ls' := [some (vR (some (6, 0))), some (vI x1), some (vI x2), some (vI (x3 + 1)), none]) 146 dX6_on_143 rfl rfl rfl rfl o17 rfl ?_
        refine r_goto 62 dX6_on_146 rfl ?_
        exact h
    · have h := h.2 (c)
      refine r_aload_n 77 dX6_on_76 rfl rfl ?_
      refine g_R 80 dX6_on_77 rfl rfl rfl fr_6_11 (sh_6_1 hS) ?_
      refine r_iload_n 81 dX6_on_80 rfl rfl ?_
      refine r_new (f := 14) 84 dX6_on_81 rfl rfl rfl rfl (inT1 (List.mem_of_getElem? (i := 173) rfl) rfl) (inT3 (List.mem_of_getElem? (i := 198) rfl) rfl) wi_7 ?_
      refine r_dup 85 dX6_on_84 rfl rfl ?_
      refine r_iload_n 86 dX6_on_85 rfl rfl ?_
      obtain ⟨M18, hc19, hS, h⟩ := h
      refine r_callI [vI x3] [vR (some (14, cCnt M.2.2 14)), vI x3, vR (some (28, 0))] 89 dX6_on_86 rfl rfl rfl mo_X7_init ⟨rfl, rfl⟩ ml_6_44 rfl rfl hc19 ?_
      obtain ⟨o20, h⟩ := h
      refine s_R (ci := 7) 61 90 dX6_on_89 rfl rfl rfl rfl rfl rfl rfl rfl o20 ?_
      refine r_iload_n 91 dX6_on_90 rfl rfl ?_
      refine r_if_ne 94 110 dX6_on_91 rfl rfl (fun c => ?_) (fun c => ?_)
      · have h := h.1 (c)
        obtain ⟨⟨o21, o22, o23, o24, o25⟩, h⟩ := h
        refine r_aload_n 111 dX6_on_110 rfl rfl ?_
        refine g_R 114 dX6_on_111 rfl rfl rfl fr_6_11 (mR_0 ((upR_f rfl).trans (sh_6_1 hS))) ?_
        refine r_iload_n 115 dX6_on_114 rfl rfl ?_
        refine a_R (ci := 7) 61 116 dX6_on_115 rfl rfl rfl rfl rfl o21 (mR_0 (upR_s)) ?_
        refine r_aload_n 117 dX6_on_116 rfl rfl ?_
        refine g_R 120 dX6_on_117 rfl rfl rfl fr_6_11 (mR_0 ((upR_f rfl).trans (sh_6_1 hS))) ?_
        refine r_iload_n 121 dX6_on_120 rfl rfl ?_
        refine r_iconst 122 dX6_on_121 rfl (InR_of rfl) ?_
        refine r_isub 123 dX6_on_122 rfl o22 ?_
        refine a_R (ci := 7) 61 124 dX6_on_123 rfl rfl rfl rfl rfl o23 (mR_0 rfl) ?_
        refine r_aload_n 125 dX6_on_124 rfl rfl ?_
        refine g_R 128 dX6_on_125 rfl rfl rfl fr_6_21 (mR_0 ((upR_f rfl).trans (sh_6_0 hS))) ?_
        refine g_R 131 dX6_on_128 rfl rfl rfl fr_6_36 (mR_0 ((upR_f rfl).trans (sh_8_5 hS _))) ?_
        refine r_iload_n 132 dX6_on_131 rfl rfl ?_
        refine r_iconst 133 dX6_on_132 rfl (InR_of rfl) ?_
        refine r_isub 134 dX6_on_133 rfl o24 ?_
        refine a_I 60 135 dX6_on_134 rfl rfl rfl rfl o25 (mI_0 rfl) ?_
        obtain ⟨M26, hc27, h⟩ := h
        refine v_0 (ci := 7) (C := (RX7, TX7, 5)) [vR ((upR M18.2.1 28 0 x3.toNat (some (14, cCnt M.2.2 14))) 28 0 (x3 - 1).toNat), vI (M18.1 35 0 (x3 - 1).toNat)] [] 138 dX6_on_135 rfl rfl rfl rfl rfl mo_X7_follow ml_6_51 rfl rfl hc27 ?_
        obtain ⟨o28, h⟩ := h
        refine r_aload_n 139 dX6_on_138 rfl rfl ?_
        refine r_iload_n 140 dX6_on_139 rfl rfl ?_
        refine p_I 143 dX6_on_140 rfl rfl rfl rfl pf_6_17 (.inl rfl) rfl ?_
        refine r_iinc (ls' := [some (vR (some (6, 0))), some (vI x1), some (vI x2), some (vI (x3 + 1)), none]) 146 dX6_on_143 rfl rfl rfl rfl o28 rfl ?_
        refine r_goto 62 dX6_on_146 rfl ?_
        exact h
      · have h := h.2 (c)
        refine r_aload_n 95 dX6_on_94 rfl rfl ?_
        refine g_R 98 dX6_on_95 rfl rfl rfl fr_6_11 (mR_0 ((upR_f rfl).trans (sh_6_1 hS))) ?_
        refine r_iconst 99 dX6_on_98 rfl (InR_of rfl) ?_
        refine a_R (ci := 7) 61 100 dX6_on_99 rfl rfl rfl rfl rfl ⟨by decide, by decide⟩ (mR_0 rfl) ?_
        refine r_aload_n 101 dX6_on_100 rfl rfl ?_
        refine g_R 104 dX6_on_101 rfl rfl rfl fr_6_21 (mR_0 ((upR_f rfl).trans (sh_6_0 hS))) ?_
        obtain ⟨k29, e30, h⟩ := h
        obtain ⟨M31, hc32, h⟩ := h
        refine v_0 (ci := 7) (C := (RX7, TX7, 5)) [vR (some (4, 0))] [] 107 dX6_on_104 rfl e30 (by rw [e30]) rfl rfl mo_X7_beginWith ml_6_47 rfl rfl hc32 ?_
        obtain ⟨o33, h⟩ := h
        refine r_goto 138 dX6_on_107 rfl ?_
        refine r_aload_n 139 dX6_on_138 rfl rfl ?_
        refine r_iload_n 140 dX6_on_139 rfl rfl ?_
        refine p_I 143 dX6_on_140 rfl rfl rfl rfl pf_6_17 (.inl rfl) rfl ?_
        refine r_iinc (ls' := [some (vR (some (6, 0))), some (vI x1), some (vI x2), some (vI (x3 + 1)), none]) 146 dX6_on_143 rfl rfl rfl rfl o33 rfl ?_
        refine r_goto 62 dX6_on_146 rfl ?_
        exact h

