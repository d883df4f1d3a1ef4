/-! the answers that are kept -/
set_option maxRecDepth 4000 in
theorem xX3_fit_0 {l : Launch} {G : Gt} {d : Nat} {M M' : Mem} {r : Option Vl} {k1 : Nat} {x2 : Int} {k3 : Nat} {x4 : Int} (hS : Sh M.2.1) (h : 
    (InR ((aOr (aShl (aOr (aShl (aOr (aShl (M.1 13 k1 0) 4) x2) 6) (M.1 14 k3 0)) 12) x4) + 1) ∧ (0 ≤ (aUshr (aMul ((aOr (aShl (aOr (aShl (aOr (aShl (M.1 13 k1 0) 4) x2) 6) (M.1 14 k3 0)) 12) x4) + 1) (-1640531535)) 22) ∧ (aUshr (aMul ((aOr (aShl (aOr (aShl (aOr (aShl (M.1 13 k1 0) 4) x2) 6) (M.1 14 k3 0)) 12) x4) + 1) (-1640531535)) 22) < 1024)) ∧ (((M.1 24 0 (aUshr (aMul ((aOr (aShl (aOr (aShl (aOr (aShl (M.1 13 k1 0) 4) x2) 6) (M.1 14 k3 0)) 12) x4) + 1) (-1640531535)) 22).toNat) = ((aOr (aShl (aOr (aShl (aOr (aShl (M.1 13 k1 0) 4) x2) 6) (M.1 14 k3 0)) 12) x4) + 1) → ((0 ≤ (aUshr (aMul ((aOr (aShl (aOr (aShl (aOr (aShl (M.1 13 k1 0) 4) x2) 6) (M.1 14 k3 0)) 12) x4) + 1) (-1640531535)) 22) ∧ (aUshr (aMul ((aOr (aShl (aOr (aShl (aOr (aShl (M.1 13 k1 0) 4) x2) 6) (M.1 14 k3 0)) 12) x4) + 1) (-1640531535)) 22) < 1024)) ∧ (((M.1 13 k1 2) = 0 → r = some (vI (M.1 25 0 (aUshr (aMul ((aOr (aShl (aOr (aShl (aOr (aShl (M.1 13 k1 0) 4) x2) 6) (M.1 14 k3 0)) 12) x4) + 1) (-1640531535)) 22).toNat)) ∧ M' = M) ∧ (¬ ((M.1 13 k1 2) = 0) → ∃ (r_6 : Int) (M_4 : Mem), Cl l G d mJ6_bitCount_0f7a4 [vI (M.1 25 0 (aUshr (aMul ((aOr (aShl (aOr (aShl (aOr (aShl (M.1 13 k1 0) 4) x2) 6) (M.1 14 k3 0)) 12) x4) + 1) (-1640531535)) 22).toNat)] M (some (vI r_6)) M_4 ∧ r = some (vI (if r_6 ≤ 1 then (M.1 25 0 (aUshr (aMul ((aOr (aShl (aOr (aShl (aOr (aShl (M.1 13 k1 0) 4) x2) 6) (M.1 14 k3 0)) 12) x4) + 1) (-1640531535)) 22).toNat) else 0 : Int)) ∧ M' = M_4))) ∧ (¬ ((M.1 24 0 (aUshr (aMul ((aOr (aShl (aOr (aShl (aOr (aShl (M.1 13 k1 0) 4) x2) 6) (M.1 14 k3 0)) 12) x4) + 1) (-1640531535)) 22).toNat) = ((aOr (aShl (aOr (aShl (aOr (aShl (M.1 13 k1 0) 4) x2) 6) (M.1 14 k3 0)) 12) x4) + 1)) → ∃ (r_11 : Int) (M_9 : Mem), Cl l G d mX3_evaluate [vR (some (8, 0)), vR (some (13, k1)), vI x2, vR (some (14, k3)), vI x4] M (some (vI r_11)) M_9 ∧ Sh M_9.2.1 ∧ (((0 ≤ (aUshr (aMul ((aOr (aShl (aOr (aShl (aOr (aShl (M.1 13 k1 0) 4) x2) 6) (M.1 14 k3 0)) 12) x4) + 1) (-1640531535)) 22) ∧ (aUshr (aMul ((aOr (aShl (aOr (aShl (aOr (aShl (M.1 13 k1 0) 4) x2) 6) (M.1 14 k3 0)) 12) x4) + 1) (-1640531535)) 22) < 1024)) ∧ (((M_9.1 13 k1 2) = 0 → r = some (vI r_11) ∧ M' = ((upI (upI (upI M_9.1 25 0 (aUshr (aMul ((aOr (aShl (aOr (aShl (aOr (aShl (M.1 13 k1 0) 4) x2) 6) (M.1 14 k3 0)) 12) x4) + 1) (-1640531535)) 22).toNat r_11) 24 0 (aUshr (aMul ((aOr (aShl (aOr (aShl (aOr (aShl (M.1 13 k1 0) 4) x2) 6) (M.1 14 k3 0)) 12) x4) + 1) (-1640531535)) 22).toNat ((aOr (aShl (aOr (aShl (aOr (aShl (M.1 13 k1 0) 4) x2) 6) (M.1 14 k3 0)) 12) x4) + 1)) 8 0 3 1), M_9.2.1, M_9.2.2)) ∧ (¬ ((M_9.1 13 k1 2) = 0) → ∃ (r_15 : Int) (M_13 : Mem), Cl l G d mJ6_bitCount_0f7a4 [vI r_11] ((upI (upI (upI M_9.1 25 0 (aUshr (aMul ((aOr (aShl (aOr (aShl (aOr (aShl (M.1 13 k1 0) 4) x2) 6) (M.1 14 k3 0)) 12) x4) + 1) (-1640531535)) 22).toNat r_11) 24 0 (aUshr (aMul ((aOr (aShl (aOr (aShl (aOr (aShl (M.1 13 k1 0) 4) x2) 6) (M.1 14 k3 0)) 12) x4) + 1) (-1640531535)) 22).toNat ((aOr (aShl (aOr (aShl (aOr (aShl (M.1 13 k1 0) 4) x2) 6) (M.1 14 k3 0)) 12) x4) + 1)) 8 0 3 1), M_9.2.1, M_9.2.2) (some (vI r_15)) M_13 ∧ r = some (vI (if r_15 ≤ 1 then r_11 else 0 : Int)) ∧ M' = M_13)))))) : Cl l G (d + 1) mX3_fit [vR (some (8, 0)), vR (some (13, k1)), vI x2, vR (some (14, k3)), vI x4] M r M' := by
  show Ex l G (d + 1) mX3_fit 0 [some (vR (some (8, 0))), some (vR (some (13, k1))), some (vI x2), some (vR (some (14, k3))), some (vI x4), none, none, none, none] [] M r M'
  obtain ⟨⟨o_1, o_2⟩, h⟩ := h
  refine r_aload_n 1 dX3_fit_0 rfl rfl ?_
  refine g_I 4 dX3_fit_1 rfl rfl rfl fi_3_31 rfl ?_
  refine r_iconst 5 dX3_fit_4 rfl (InR_of rfl) ?_
  refine r_ishl 6 dX3_fit_5 rfl ⟨by decide, by decide⟩ ?_
  refine r_iload_n 7 dX3_fit_6 rfl rfl ?_
  refine r_ior 8 dX3_fit_7 rfl ?_
  refine r_bipush 10 dX3_fit_8 rfl rfl ?_
  refine r_ishl 11 dX3_fit_10 rfl ⟨by decide, by decide⟩ ?_
  refine r_aload_n 12 dX3_fit_11 rfl rfl ?_
  refine g_I 15 dX3_fit_12 rfl rfl rfl fi_3_37 rfl ?_
  refine r_ior 16 dX3_fit_15 rfl ?_
  refine r_istore (ls' := [some (vR (some (8, 0))), some (vR (some (13, k1))), some (vI x2), some (vR (some (14, k3))), some (vI x4), some (vI (aOr (aShl (aOr (aShl (M.1 13 k1 0) 4) x2) 6) (M.1 14 k3 0))), none, none, none]) 18 dX3_fit_16 rfl rfl rfl rfl ?_
  refine r_iload 20 dX3_fit_18 rfl rfl ?_
  refine r_bipush 22 dX3_fit_20 rfl rfl ?_
  refine r_ishl 23 dX3_fit_22 rfl ⟨by decide, by decide⟩ ?_
  refine r_iload 25 dX3_fit_23 rfl rfl ?_
  refine r_ior 26 dX3_fit_25 rfl ?_
  refine r_iconst 27 dX3_fit_26 rfl (InR_of rfl) ?_
  refine r_iadd 28 dX3_fit_27 rfl o_1 ?_
  refine r_istore (ls' := [some (vR (some (8, 0))), some (vR (some (13, k1))), some (vI x2), some (vR (some (14, k3))), some (vI x4), some (vI (aOr (aShl (aOr (aShl (M.1 13 k1 0) 4) x2) 6) (M.1 14 k3 0))), some (vI ((aOr (aShl (aOr (aShl (aOr (aShl (M.1 13 k1 0) 4) x2) 6) (M.1 14 k3 0)) 12) x4) + 1)), none, none]) 30 dX3_fit_28 rfl rfl rfl rfl ?_
  refine r_iload 32 dX3_fit_30 rfl rfl ?_
  refine r_ldc (n := (-1640531535)) 34 dX3_fit_32 rfl (inT4 (List.mem_of_getElem? (i := 51) rfl) rfl) (by decide +kernel) (InR_of rfl) ?_
  refine r_imulw 35 dX3_fit_34 rfl ?_
  refine r_bipush 37 dX3_fit_35 rfl rfl ?_
  refine r_iushr 38 dX3_fit_37 rfl ⟨by decide, by decide⟩ ?_
  refine r_istore (ls' := [some (vR (some (8, 0))), some (vR (some (13, k1))), some (vI x2), some (vR (some (14, k3))), some (vI x4), some (vI (aOr (aShl (aOr (aShl (M.1 13 k1 0) 4) x2) 6) (M.1 14 k3 0))), some (vI ((aOr (aShl (aOr (aShl (aOr (aShl (M.1 13 k1 0) 4) x2) 6) (M.1 14 k3 0)) 12) x4) + 1)), some (vI (aUshr (aMul ((aOr (aShl (aOr (aShl (aOr (aShl (M.1 13 k1 0) 4) x2) 6) (M.1 14 k3 0)) 12) x4) + 1) (-1640531535)) 22)), none]) 40 dX3_fit_38 rfl rfl rfl rfl ?_
  refine r_aload_n 41 dX3_fit_40 rfl rfl ?_
  refine g_R 44 dX3_fit_41 rfl rfl rfl fr_3_15 (sh_3_1 hS) ?_
  refine r_iload 46 dX3_fit_44 rfl rfl ?_
  refine a_I 1024 47 dX3_fit_46 rfl rfl rfl rfl o_2 rfl ?_
  refine r_iload 49 dX3_fit_47 rfl rfl ?_
  refine r_icmp_eq 52 82 dX3_fit_49 rfl rfl (fun c => ?_) (fun c => ?_)
  · have h := h.1 (c)
    obtain ⟨o_3, h⟩ := h
    refine r_aload_n 83 dX3_fit_82 rfl rfl ?_
    refine g_R 86 dX3_fit_83 rfl rfl rfl fr_3_18 (sh_3_2 hS) ?_
    refine r_iload 88 dX3_fit_86 rfl rfl ?_
    refine a_I 1024 89 dX3_fit_88 rfl rfl rfl rfl o_3 rfl ?_
    refine r_istore (ls' := [some (vR (some (8, 0))), some (vR (some (13, k1))), some (vI x2), some (vR (some (14, k3))), some (vI x4), some (vI (aOr (aShl (aOr (aShl (M.1 13 k1 0) 4) x2) 6) (M.1 14 k3 0))), some (vI ((aOr (aShl (aOr (aShl (aOr (aShl (M.1 13 k1 0) 4) x2) 6) (M.1 14 k3 0)) 12) x4) + 1)), some (vI (aUshr (aMul ((aOr (aShl (aOr (aShl (aOr (aShl (M.1 13 k1 0) 4) x2) 6) (M.1 14 k3 0)) 12) x4) + 1) (-1640531535)) 22)), some (vI (M.1 25 0 (aUshr (aMul ((aOr (aShl (aOr (aShl (aOr (aShl (M.1 13 k1 0) 4) x2) 6) (M.1 14 k3 0)) 12) x4) + 1) (-1640531535)) 22).toNat))]) 91 dX3_fit_89 rfl rfl rfl rfl ?_
    refine r_aload_n 92 dX3_fit_91 rfl rfl ?_
    refine g_I 95 dX3_fit_92 rfl rfl rfl fi_3_47 rfl ?_
    refine r_if_eq 98 111 dX3_fit_95 rfl rfl (fun c => ?_) (fun c => ?_)
    · have h := h.1 (c)
      refine r_iload 113 dX3_fit_111 rfl rfl ?_
      exact r_iret dX3_fit_113 rfl (.inl rfl) h.1 h.2
    · have h := h.2 (c)
      refine r_iload 100 dX3_fit_98 rfl rfl ?_
      obtain ⟨r_6, M_4, hc_5, h⟩ := h
      refine c_1 [vI (M.1 25 0 (aUshr (aMul ((aOr (aShl (aOr (aShl (aOr (aShl (M.1 13 k1 0) 4) x2) 6) (M.1 14 k3 0)) 12) x4) + 1) (-1640531535)) 22).toNat)] [] 103 dX3_fit_100 rfl rfl mo_J6_bitCount_0f7a4 ml_3_50 rfl rfl hc_5 ?_
      refine r_iconst 104 dX3_fit_103 rfl (InR_of rfl) ?_
      have hJ_7 : Ex l G (d + 1) mX3_fit 113 [some (vR (some (8, 0))), some (vR (some (13, k1))), some (vI x2), some (vR (some (14, k3))), some (vI x4), some (vI (aOr (aShl (aOr (aShl (M.1 13 k1 0) 4) x2) 6) (M.1 14 k3 0))), some (vI ((aOr (aShl (aOr (aShl (aOr (aShl (M.1 13 k1 0) 4) x2) 6) (M.1 14 k3 0)) 12) x4) + 1)), some (vI (aUshr (aMul ((aOr (aShl (aOr (aShl (aOr (aShl (M.1 13 k1 0) 4) x2) 6) (M.1 14 k3 0)) 12) x4) + 1) (-1640531535)) 22)), some (vI (M.1 25 0 (aUshr (aMul ((aOr (aShl (aOr (aShl (aOr (aShl (M.1 13 k1 0) 4) x2) 6) (M.1 14 k3 0)) 12) x4) + 1) (-1640531535)) 22).toNat))] [vI (if r_6 ≤ 1 then (M.1 25 0 (aUshr (aMul ((aOr (aShl (aOr (aShl (aOr (aShl (M.1 13 k1 0) 4) x2) 6) (M.1 14 k3 0)) 12) x4) + 1) (-1640531535)) 22).toNat) else 0 : Int)] M_4 r M' := by
        exact r_iret dX3_fit_113 rfl (.inl rfl) h.1 h.2
      refine r_icmp_le 107 111 dX3_fit_104 rfl rfl (fun c => ?_) (fun c => ?_)
      · have c_8 := c
        refine r_iload 113 dX3_fit_111 rfl rfl ?_
        exact (Ex.at hJ_7 rfl (show [vI (M.1 25 0 (aUshr (aMul ((aOr (aShl (aOr (aShl (aOr (aShl (M.1 13 k1 0) 4) x2) 6) (M.1 14 k3 0)) 12) x4) + 1) (-1640531535)) 22).toNat)] = [vI (if r_6 ≤ 1 then (M.1 25 0 (aUshr (aMul ((aOr (aShl (aOr (aShl (aOr (aShl (M.1 13 k1 0) 4) x2) 6) (M.1 14 k3 0)) 12) x4) + 1) (-1640531535)) 22).toNat) else 0 : Int)] by simp only [if_pos c_8]) rfl)
      · have c_8 := c
        refine r_iconst 108 dX3_fit_107 rfl (InR_of rfl) ?_
        refine r_goto 113 dX3_fit_108 rfl ?_
        exact (Ex.at hJ_7 rfl (show [vI 0] = [vI (if r_6 ≤ 1 then (M.1 25 0 (aUshr (aMul ((aOr (aShl (aOr (aShl (aOr (aShl (M.1 13 k1 0) 4) x2) 6) (M.1 14 k3 0)) 12) x4) + 1) (-1640531535)) 22).toNat) else 0 : Int)] by simp only [if_neg c_8]) rfl)
  · have h := h.2 (c)
    refine r_aload_n 53 dX3_fit_52 rfl rfl ?_
    refine g_R 56 dX3_fit_53 rfl rfl rfl fr_3_18 (sh_3_2 hS) ?_
    refine r_iload 58 dX3_fit_56 rfl rfl ?_
    refine r_aload_n 59 dX3_fit_58 rfl rfl ?_
    refine r_aload_n 60 dX3_fit_59 rfl rfl ?_
    refine r_iload_n 61 dX3_fit_60 rfl rfl ?_
    refine r_aload_n 62 dX3_fit_61 rfl rfl ?_
    refine r_iload 64 dX3_fit_62 rfl rfl ?_
    obtain ⟨r_11, M_9, hc_10, hS, h⟩ := h
    refine v_1 (ci := 3) (C := (RX3, TX3, 4)) [vR (some (13, k1)), vI x2, vR (some (14, k3)), vI x4] [vI (aUshr (aMul ((aOr (aShl (aOr (aShl (aOr (aShl (M.1 13 k1 0) 4) x2) 6) (M.1 14 k3 0)) 12) x4) + 1) (-1640531535)) 22), vR (some (25, 0))] 67 dX3_fit_64 rfl rfl rfl rfl rfl mo_X3_evaluate ml_3_43 rfl rfl hc_10 ?_
    obtain ⟨o_12, h⟩ := h
    refine s_I 1024 68 dX3_fit_67 rfl rfl (by decide) rfl rfl o_12 ?_
    refine r_aload_n 69 dX3_fit_68 rfl rfl ?_
    refine g_R 72 dX3_fit_69 rfl rfl rfl fr_3_15 (mR_0 (sh_3_1 hS)) ?_
    refine r_iload 74 dX3_fit_72 rfl rfl ?_
    refine r_iload 76 dX3_fit_74 rfl rfl ?_
    refine s_I 1024 77 dX3_fit_76 rfl rfl (by decide) rfl rfl o_12 ?_
    refine r_aload_n 78 dX3_fit_77 rfl rfl ?_
    refine r_iconst 79 dX3_fit_78 rfl (InR_of rfl) ?_
    refine p_Z 82 dX3_fit_79 rfl rfl rfl rfl pf_3_21 (.inl rfl) rfl (.inr rfl) ?_
    refine r_aload_n 83 dX3_fit_82 rfl rfl ?_
    refine g_R 86 dX3_fit_83 rfl rfl rfl fr_3_18 (mR_0 (sh_3_2 hS)) ?_
    refine r_iload 88 dX3_fit_86 rfl rfl ?_
    refine a_I 1024 89 dX3_fit_88 rfl rfl rfl rfl o_12 (mI_0 ((upI_f rfl).trans ((upI_f rfl).trans (upI_s)))) ?_
    refine r_istore (ls' := [some (vR (some (8, 0))), some (vR (some (13, k1))), some (vI x2), some (vR (some (14, k3))), some (vI x4), some (vI (aOr (aShl (aOr (aShl (M.1 13 k1 0) 4) x2) 6) (M.1 14 k3 0))), some (vI ((aOr (aShl (aOr (aShl (aOr (aShl (M.1 13 k1 0) 4) x2) 6) (M.1 14 k3 0)) 12) x4) + 1)), some (vI (aUshr (aMul ((aOr (aShl (aOr (aShl (aOr (aShl (M.1 13 k1 0) 4) x2) 6) (M.1 14 k3 0)) 12) x4) + 1) (-1640531535)) 22)), some (vI r_11)]) 91 dX3_fit_89 rfl rfl rfl rfl ?_
    refine r_aload_n 92 dX3_fit_91 rfl rfl ?_
    refine g_I 95 dX3_fit_92 rfl rfl rfl fi_3_47 (mI_0 ((upI_f rfl).trans ((upI_f rfl).trans (upI_f rfl)))) ?_
    refine r_if_eq 98 111 dX3_fit_95 rfl rfl (fun c => ?_) (fun c => ?_)
    · have h := h.1 (c)
      refine r_iload 113 dX3_fit_111 rfl rfl ?_
      exact r_iret dX3_fit_113 rfl (.inl rfl) h.1 h.2
    · have h := h.2 (c)
      refine r_iload 100 dX3_fit_98 rfl rfl ?_
      obtain ⟨r_15, M_13, hc_14, h⟩ := h
      refine c_1 [vI r_11] [] 103 dX3_fit_100 rfl rfl mo_J6_bitCount_0f7a4 ml_3_50 rfl rfl hc_14 ?_
      refine r_iconst 104 dX3_fit_103 rfl (InR_of rfl) ?_
      have hJ_16 : Ex l G (d + 1) mX3_fit 113 [some (vR (some (8, 0))), some (vR (some (13, k1))), some (vI x2), some (vR (some (14, k3))), some (vI x4), some (vI (aOr (aShl (aOr (aShl (M.1 13 k1 0) 4) x2) 6) (M.1 14 k3 0))), some (vI ((aOr (aShl (aOr (aShl (aOr (aShl (M.1 13 k1 0) 4) x2) 6) (M.1 14 k3 0)) 12) x4) + 1)), some (vI (aUshr (aMul ((aOr (aShl (aOr (aShl (aOr (aShl (M.1 13 k1 0) 4) x2) 6) (M.1 14 k3 0)) 12) x4) + 1) (-1640531535)) 22)), some (vI r_11)] [vI (if r_15 ≤ 1 then r_11 else 0 : Int)] M_13 r M' := by
        exact r_iret dX3_fit_113 rfl (.inl rfl) h.1 h.2
      refine r_icmp_le 107 111 dX3_fit_104 rfl rfl (fun c => ?_) (fun c => ?_)
      · have c_17 := c
        refine r_iload 113 dX3_fit_111 rfl rfl ?_
        exact (Ex.at hJ_16 rfl (show [vI r_11] = [vI (if r_15 ≤ 1 then r_11 else 0 : Int)] by simp only [if_pos c_17]) rfl)
      · have c_17 := c
        refine r_iconst 108 dX3_fit_107 rfl (InR_of rfl) ?_
        refine r_goto 113 dX3_fit_108 rfl ?_
        exact (Ex.at hJ_16 rfl (show [vI 0] = [vI (if r_15 ≤ 1 then r_11 else 0 : Int)] by simp only [if_neg c_17]) rfl)

theorem keyI_eq {cv s n : Nat} {x : Int} (h1 : cv < 8) (h2 : s < 12) (h3 : n ≤ 60) (h4 : 0 ≤ x ∧ x < 4096) : aOr (aShl (aOr (aShl (aOr (aShl (cv : Int) 4) (s : Int)) 6) (n : Int)) 12) x + 1 = (((cv : Int) * 16 + s) * 64 + n) * 4096 + x + 1 := by
  have e1 : aShl (cv : Int) 4 = (cv : Int) * 2 ^ 4 := aShl_mul (s := 4) (by omega) (by show (cv : Int) * 16 ≤ _; omega)
  have e2 : aOr ((cv : Int) * 2 ^ 4) (s : Int) = (cv : Int) * 2 ^ 4 + s := aOr_add (by omega) (by omega) (by omega) (by omega)
  have e3 : aShl ((cv : Int) * 2 ^ 4 + s) 6 = ((cv : Int) * 2 ^ 4 + s) * 2 ^ 6 := aShl_mul (s := 6) (by omega) (by show ((cv : Int) * 2 ^ 4 + s) * 64 ≤ _; omega)
  have e4 : aOr (((cv : Int) * 2 ^ 4 + s) * 2 ^ 6) (n : Int) = ((cv : Int) * 2 ^ 4 + s) * 2 ^ 6 + n := aOr_add (by omega) (by omega) (by omega) (by omega)
  have e5 : aShl (((cv : Int) * 2 ^ 4 + s) * 2 ^ 6 + n) 12 = (((cv : Int) * 2 ^ 4 + s) * 2 ^ 6 + n) * 2 ^ 12 := aShl_mul (s := 12) (by omega) (by show (((cv : Int) * 2 ^ 4 + s) * 2 ^ 6 + n) * 4096 ≤ _; omega)
  have e6 : aOr ((((cv : Int) * 2 ^ 4 + s) * 2 ^ 6 + n) * 2 ^ 12) x = (((cv : Int) * 2 ^ 4 + s) * 2 ^ 6 + n) * 2 ^ 12 + x := aOr_add (by omega) (by omega) (by omega) (by omega)
  rw [e1, e2, e3, e4, e5, e6]
  omega
theorem ushr22 (a : Int) : ∃ J : Nat, aUshr a 22 = (J : Int) ∧ J < 1024 := by
  have h := u32_lt a
  refine ⟨u32 a / 4194304, ?_, by omega⟩
  unfold aUshr
  rw [s32_nat (show u32 a / 2 ^ (22 : Int).toNat < 2147483648 by show u32 a / 4194304 < _; omega)]
  rfl
theorem bI12_in (f : Nat → Bool) : 0 ≤ bI 12 f ∧ bI 12 f < 4096 := by
  have := bset_lt 12 f
  unfold bI
  omega
def keyI (cv s n : Nat) (x : Int) : Int := (((cv : Int) * 16 + s) * 64 + n) * 4096 + x + 1
def FitC (Q : QT) (nc : Nat) (I : IM) : Prop := (I 8 0 3 = 0 → ∀ j, j < 1024 → I 24 0 j = 0) ∧ ∀ j cv s n seen, j < 1024 → cv < 8 → s < 12 → n ≤ nCh Q → I 24 0 j = keyI cv s n (bI 12 seen) → cv < nc ∧ I 25 0 j = bI 12 (evS Q n s seen cv)
theorem evS_ext {Q : QT} {n s cv : Nat} {seen seen' : Nat → Bool} (h : ∀ i, i < 12 → seen i = seen' i) : bI 12 (evS Q n s seen cv) = bI 12 (evS Q n s seen' cv) := by
  have key : ∀ k i p, p < 12 → ev Q n s seen cv k i p = ev Q n s seen' cv k i p := by
    intro k
    induction k with
    | zero => intros; rfl
    | succ k ih =>
      intro i p hp
      unfold ev
      by_cases e : i = tg Q cv k
      · rw [if_pos e, if_pos e]
        have eA : bI 12 (ev Q n s seen cv k (tg Q cv k)) = bI 12 (ev Q n s seen' cv k (tg Q cv k)) := bI_ext fun q hq => ih _ q hq
        unfold vl
        rw [h p hp, ih _ p hp, ih _ p hp, eA]
      · rw [if_neg e, if_neg e]; exact ih i p hp
  exact bI_ext fun i hi => key _ _ i hi
def frF (I I' : IM) : Prop := ∀ f k i, ¬ ((f = 23 ∨ f = 24 ∨ f = 25) ∧ k = 0) → ¬ (f = 8 ∧ k = 0 ∧ i = 3) → I' f k i = I f k i
section FT
variable {l : Launch} {G : Gt} {d : Nat} {Q : QT} {M : Mem}
theorem KX3_fit {n cv nc k1 k3 s : Nat} {seen : Nat → Bool} (hS : Sh M.2.1) (hw : WFc Q) (hn : n ≤ nCh Q) (hnc : nc ≤ 8) (hcv : cv < nc) (hC : CovC Q M k1 cv) (hL : Snap Q M.1 k3 n) (hv : WFv Q cv) (hs : s < 12) (h0 : M.1 13 k1 0 = (cv : Int)) (h2 : M.1 13 k1 2 = Q 83 cv) (hd : M.1 14 k3 0 = (n : Int)) (hF : FitC Q nc M.1) : ∃ I', Cl l G (d + 1) mX3_fit [vR (some (8, 0)), vR (some (13, k1)), vI (s : Int), vR (some (14, k3)), vI (bI 12 seen)] M (some (vI (fitV Q n s seen cv))) (I', M.2.1, M.2.2) ∧ FitC Q nc I' ∧ frF M.1 I' := by
  have h60 : nCh Q ≤ 60 := by have := hw.2.1; unfold nCh; omega
  have hx := bI12_in seen
  have hkey := keyI_eq (cv := cv) (s := s) (n := n) (by omega) hs (by omega) hx
  obtain ⟨K, hK⟩ : ∃ K, (((cv : Int) * 16 + s) * 64 + n) * 4096 + bI 12 seen + 1 = K := ⟨_, rfl⟩
  rw [hK] at hkey
  obtain ⟨J, hJ, hJ2⟩ := ushr22 (aMul K (-1640531535))
  have hKr : InR K := by rw [← hK]; unfold InR; omega
  by_cases hit : M.1 24 0 J = K
  · have hans := (hF.2 J cv s n seen hJ2 (by omega) hs hn (by rw [hit, ← hK]; rfl)).2
    refine ⟨M.1, xX3_fit_0 hS ?_, hF, fun _ _ _ _ _ => rfl⟩
    simp only [h0, hd, hkey, hJ, Int.toNat_natCast, hans, h2]
    refine ⟨⟨hKr, by omega⟩, fun _ => ⟨by omega, fun c => ⟨by unfold fitV; rw [if_pos c], by trivial⟩, fun c => ⟨(cnt (evS Q n s seen cv) 12 : Int), M, KJ6_bits (by omega), by unfold fitV; rw [if_neg c], by trivial⟩⟩, fun c => absurd hit c⟩
  · obtain ⟨F', hE⟩ := KX3_evaluate (l := l) (G := G) (d := d) (seen := seen) hS hw hn hC hL hv hs
    have q2 : seI M.1 23 0 F' 13 k1 2 = Q 83 cv := by rw [seI_fam (by omega)]; exact h2
    refine ⟨upI (upI (upI (seI M.1 23 0 F') 25 0 J (bI 12 (evS Q n s seen cv))) 24 0 J K) 8 0 3 1, xX3_fit_0 hS ?_, ?_, ?_⟩
    · simp only [h0, hd, hkey, hJ, Int.toNat_natCast]
      refine ⟨⟨hKr, by omega⟩, fun c => absurd c hit, fun _ => ⟨bI 12 (evS Q n s seen cv), (seI M.1 23 0 F', M.2.1, M.2.2), hE, hS, by omega, ?_⟩⟩
      dsimp only
      rw [q2]
      refine ⟨fun c => ⟨by unfold fitV; rw [if_pos c], by trivial⟩, fun c => ⟨(cnt (evS Q n s seen cv) 12 : Int), _, KJ6_bits (by omega), by unfold fitV; rw [if_neg c], by trivial⟩⟩
    · refine ⟨fun c => ?_, fun j cv' s' n' seen' hj hc' hs' hn' e => ?_⟩
      · rw [upI_s] at c; omega
      · rw [upI_o (by omega)] at e ⊢
        rw [upI_c] at e
        rw [upI_o (by omega), upI_c]
        rw [upI_o (by omega), seI_fam (by omega)] at e
        rw [seI_fam (by omega)]
        by_cases ej : j = J
        · rw [if_pos ej] at e ⊢
          have hx' := bI12_in seen'
          unfold keyI at e
          rw [← hK] at e
          have e1 : cv = cv' := by omega
          have e2 : s = s' := by omega
          have e3 : n = n' := by omega
          have e4 : bI 12 seen = bI 12 seen' := by omega
          subst e1 e2 e3
          refine ⟨hcv, evS_ext fun i hi => ?_⟩
          have t1 := tb_bI (n := 12) (by omega) seen i
          have t2 := tb_bI (n := 12) (by omega) seen' i
          rw [e4, t2] at t1
          simpa [hi] using t1.symm
        · rw [if_neg ej] at e ⊢
          exact hF.2 j cv' s' n' seen' hj hc' hs' hn' e
    · intro f k i h1 h3
      rw [show upI (upI (upI (seI M.1 23 0 F') 25 0 J (bI 12 (evS Q n s seen cv))) 24 0 J K) 8 0 3 1 f k i = upI (upI (seI M.1 23 0 F') 25 0 J (bI 12 (evS Q n s seen cv))) 24 0 J K f k i by
        by_cases e : f = 8 ∧ k = 0
        · obtain ⟨rfl, rfl⟩ := e
          rw [upI_i (by omega)]
        · rw [upI_o e]]
      rw [upI_o (by omega), upI_o (by omega)]
      by_cases e : f = 23
      · subst e
        unfold seI
        rw [if_pos rfl, if_neg (by omega)]
      · rw [seI_fam e]
end FT
