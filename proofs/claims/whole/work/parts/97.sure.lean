/-! sure: the reference -/
set_option maxRecDepth 4000 in
theorem xX12_chooses_0 {l : Launch} {G : Gt} {d : Nat} {M M' : Mem} {r : Option Vl} {x1 : Int} {x2 : Int} {x3 : Int} (hS : Sh M.2.1) (h : 
    ((0 ≤ x1 ∧ x1 < 488)) ∧ (((0 ≤ x1 ∧ x1 < 488) ∧ ((if (M.1 86 0 x1.toNat) = 0 then 0 else (if x2 = 0 then 0 else 1 : Int) : Int) = 0 ∨ (if (M.1 86 0 x1.toNat) = 0 then 0 else (if x2 = 0 then 0 else 1 : Int) : Int) = 1)) ∧ (((x3 < 0 → ((0 ≤ x1 ∧ x1 < 488))) ∧ (¬ (x3 < 0) → ((0 ≤ x1 ∧ x1 < 488)) ∧ (¬ ((M.1 85 0 x1.toNat) < 0) → ((0 ≤ x1 ∧ x1 < 488)) ∧ ((M.1 85 0 x1.toNat) ≤ x3 → ((0 ≤ x1 ∧ x1 < 488)))))) ∧ ((0 ≤ x1 ∧ x1 < 488)) ∧ r = none ∧ M' = ((upI (upI M.1 86 0 x1.toNat (if (M.1 86 0 x1.toNat) = 0 then 0 else (if x2 = 0 then 0 else 1 : Int) : Int)) 85 0 x1.toNat (if x3 < 0 then (M.1 85 0 x1.toNat) else (if (M.1 85 0 x1.toNat) < 0 then x3 else (if (M.1 85 0 x1.toNat) ≤ x3 then (M.1 85 0 x1.toNat) else x3 : Int) : Int) : Int)), M.2.1, M.2.2)))) : Cl l G d mX12_chooses [vR (some (3, 0)), vI x1, vI x2, vI x3] M r M' := by
  show Ex l G d mX12_chooses 0 [some (vR (some (3, 0))), some (vI x1), some (vI x2), some (vI x3)] [] M r M'
  obtain ⟨o_1, h⟩ := h
  refine r_aload_n 1 dX12_chooses_0 rfl rfl ?_
  refine g_R 4 dX12_chooses_1 rfl rfl rfl fr_12_126 (sh_12_52 hS) ?_
  refine r_iload_n 5 dX12_chooses_4 rfl rfl ?_
  refine r_aload_n 6 dX12_chooses_5 rfl rfl ?_
  refine g_R 9 dX12_chooses_6 rfl rfl rfl fr_12_126 (sh_12_52 hS) ?_
  refine r_iload_n 10 dX12_chooses_9 rfl rfl ?_
  refine a_Z 488 11 dX12_chooses_10 rfl rfl rfl rfl o_1 rfl ?_
  have hJ_2 : Ex l G d mX12_chooses 23 [some (vR (some (3, 0))), some (vI x1), some (vI x2), some (vI x3)] [vI (if (M.1 86 0 x1.toNat) = 0 then 0 else (if x2 = 0 then 0 else 1 : Int) : Int), vI x1, vR (some (86, 0))] M r M' := by
    obtain ⟨⟨o_5, o_6⟩, h⟩ := h
    refine s_Z 488 24 dX12_chooses_23 rfl rfl (by decide) rfl rfl o_5 o_6 ?_
    refine r_aload_n 25 dX12_chooses_24 rfl rfl ?_
    refine g_R 28 dX12_chooses_25 rfl rfl rfl fr_12_123 (mR_0 (sh_12_51 hS)) ?_
    refine r_iload_n 29 dX12_chooses_28 rfl rfl ?_
    refine r_iload_n 30 dX12_chooses_29 rfl rfl ?_
    obtain ⟨h0, h⟩ := h
    have hJ_7 : Ex l G d mX12_chooses 62 [some (vR (some (3, 0))), some (vI x1), some (vI x2), some (vI x3)] [vI (if x3 < 0 then (M.1 85 0 x1.toNat) else (if (M.1 85 0 x1.toNat) < 0 then x3 else (if (M.1 85 0 x1.toNat) ≤ x3 then (M.1 85 0 x1.toNat) else x3 : Int) : Int) : Int), vI x1, vR (some (85, 0))] ((upI M.1 86 0 x1.toNat (if (M.1 86 0 x1.toNat) = 0 then 0 else (if x2 = 0 then 0 else 1 : Int) : Int)), M.2.1, M.2.2) r M' := by
      obtain ⟨o_15, h⟩ := h
      refine s_I 488 63 dX12_chooses_62 rfl rfl (by decide) rfl rfl o_15 ?_
      exact r_vret dX12_chooses_63 rfl h.1 h.2
    have h := h0
    refine r_if_lt 33 56 dX12_chooses_30 rfl rfl (fun c => ?_) (fun c => ?_)
    · have c_8 := c
      have h := h.1 c_8
      have o_9 := h
      refine r_aload_n 57 dX12_chooses_56 rfl rfl ?_
      refine g_R 60 dX12_chooses_57 rfl rfl rfl fr_12_123 (mR_0 (sh_12_51 hS)) ?_
      refine r_iload_n 61 dX12_chooses_60 rfl rfl ?_
      refine a_I 488 62 dX12_chooses_61 rfl rfl rfl rfl o_9 (mI_0 (upI_f rfl)) ?_
      exact (Ex.at hJ_7 rfl (show [vI (M.1 85 0 x1.toNat), vI x1, vR (some (85, 0))] = [vI (if x3 < 0 then (M.1 85 0 x1.toNat) else (if (M.1 85 0 x1.toNat) < 0 then x3 else (if (M.1 85 0 x1.toNat) ≤ x3 then (M.1 85 0 x1.toNat) else x3 : Int) : Int) : Int), vI x1, vR (some (85, 0))] by simp only [if_pos c_8]) rfl)
    · have c_8 := c
      have h := h.2 c_8
      obtain ⟨o_10, h⟩ := h
      refine r_aload_n 34 dX12_chooses_33 rfl rfl ?_
      refine g_R 37 dX12_chooses_34 rfl rfl rfl fr_12_123 (mR_0 (sh_12_51 hS)) ?_
      refine r_iload_n 38 dX12_chooses_37 rfl rfl ?_
      refine a_I 488 39 dX12_chooses_38 rfl rfl rfl rfl o_10 (mI_0 (upI_f rfl)) ?_
      refine r_if_lt 42 52 dX12_chooses_39 rfl rfl (fun c => ?_) (fun c => ?_)
      · have c_11 := c
        refine r_iload_n 53 dX12_chooses_52 rfl rfl ?_
        refine r_goto 62 dX12_chooses_53 rfl ?_
        exact (Ex.at hJ_7 rfl (show [vI x3, vI x1, vR (some (85, 0))] = [vI (if x3 < 0 then (M.1 85 0 x1.toNat) else (if (M.1 85 0 x1.toNat) < 0 then x3 else (if (M.1 85 0 x1.toNat) ≤ x3 then (M.1 85 0 x1.toNat) else x3 : Int) : Int) : Int), vI x1, vR (some (85, 0))] by simp only [if_neg c_8, if_pos c_11]) rfl)
      · have c_11 := c
        have h := h c_11
        obtain ⟨o_12, h⟩ := h
        refine r_iload_n 43 dX12_chooses_42 rfl rfl ?_
        refine r_aload_n 44 dX12_chooses_43 rfl rfl ?_
        refine g_R 47 dX12_chooses_44 rfl rfl rfl fr_12_123 (mR_0 (sh_12_51 hS)) ?_
        refine r_iload_n 48 dX12_chooses_47 rfl rfl ?_
        refine a_I 488 49 dX12_chooses_48 rfl rfl rfl rfl o_12 (mI_0 (upI_f rfl)) ?_
        refine r_icmp_ge 52 56 dX12_chooses_49 rfl rfl (fun c => ?_) (fun c => ?_)
        · have c_13 := c
          have h := h c_13
          have o_14 := h
          refine r_aload_n 57 dX12_chooses_56 rfl rfl ?_
          refine g_R 60 dX12_chooses_57 rfl rfl rfl fr_12_123 (mR_0 (sh_12_51 hS)) ?_
          refine r_iload_n 61 dX12_chooses_60 rfl rfl ?_
          refine a_I 488 62 dX12_chooses_61 rfl rfl rfl rfl o_14 (mI_0 (upI_f rfl)) ?_
          exact (Ex.at hJ_7 rfl (show [vI (M.1 85 0 x1.toNat), vI x1, vR (some (85, 0))] = [vI (if x3 < 0 then (M.1 85 0 x1.toNat) else (if (M.1 85 0 x1.toNat) < 0 then x3 else (if (M.1 85 0 x1.toNat) ≤ x3 then (M.1 85 0 x1.toNat) else x3 : Int) : Int) : Int), vI x1, vR (some (85, 0))] by simp only [if_neg c_8, if_neg c_11, if_pos c_13]) rfl)
        · have c_13 := c
          refine r_iload_n 53 dX12_chooses_52 rfl rfl ?_
          refine r_goto 62 dX12_chooses_53 rfl ?_
          exact (Ex.at hJ_7 rfl (show [vI x3, vI x1, vR (some (85, 0))] = [vI (if x3 < 0 then (M.1 85 0 x1.toNat) else (if (M.1 85 0 x1.toNat) < 0 then x3 else (if (M.1 85 0 x1.toNat) ≤ x3 then (M.1 85 0 x1.toNat) else x3 : Int) : Int) : Int), vI x1, vR (some (85, 0))] by simp only [if_neg c_8, if_neg c_11, if_neg c_13]) rfl)
  refine r_if_eq 14 22 dX12_chooses_11 rfl rfl (fun c => ?_) (fun c => ?_)
  · have c_3 := c
    refine r_iconst 23 dX12_chooses_22 rfl (InR_of rfl) ?_
    exact (Ex.at hJ_2 rfl (show [vI 0, vI x1, vR (some (86, 0))] = [vI (if (M.1 86 0 x1.toNat) = 0 then 0 else (if x2 = 0 then 0 else 1 : Int) : Int), vI x1, vR (some (86, 0))] by simp only [if_pos c_3]) rfl)
  · have c_3 := c
    refine r_iload_n 15 dX12_chooses_14 rfl rfl ?_
    refine r_if_eq 18 22 dX12_chooses_15 rfl rfl (fun c => ?_) (fun c => ?_)
    · have c_4 := c
      refine r_iconst 23 dX12_chooses_22 rfl (InR_of rfl) ?_
      exact (Ex.at hJ_2 rfl (show [vI 0, vI x1, vR (some (86, 0))] = [vI (if (M.1 86 0 x1.toNat) = 0 then 0 else (if x2 = 0 then 0 else 1 : Int) : Int), vI x1, vR (some (86, 0))] by simp only [if_neg c_3, if_pos c_4]) rfl)
    · have c_4 := c
      refine r_iconst 19 dX12_chooses_18 rfl (InR_of rfl) ?_
      refine r_goto 23 dX12_chooses_19 rfl ?_
      exact (Ex.at hJ_2 rfl (show [vI 1, vI x1, vR (some (86, 0))] = [vI (if (M.1 86 0 x1.toNat) = 0 then 0 else (if x2 = 0 then 0 else 1 : Int) : Int), vI x1, vR (some (86, 0))] by simp only [if_neg c_3, if_neg c_4]) rfl)

set_option maxRecDepth 4000 in
theorem xX12_looks_0 {l : Launch} {G : Gt} {d : Nat} {M M' : Mem} {r : Option Vl} {x1 : Int} {x2 : Int} {x3 : Int} {x4 : Int} {x5 : Int} (h : 
    ((InR (8 * x5) ∧ InR (8 * x5 + x4))) ∧ (∃ (r_4 : Int) (M_2 : Mem), Cl l G d mX12_standing [vR (some (3, 0)), vI 1, vI x4] M (some (vI r_4)) M_2 ∧ Sh M_2.2.1 ∧ ((0 ≤ (8 * x5 + x4) ∧ (8 * x5 + x4) < 488)) ∧ Ex l G (d + 1) mX12_looks 39 [some (vR (some (3, 0))), some (vI x1), some (vI x2), some (vI x3), some (vI x4), some (vI x5), some (vI (8 * x5 + x4)), some (vI r_4), some (vI 0), none, none, none, none, none, none, none] [] ((upI (upI M_2.1 86 0 (8 * x5 + x4).toNat 0) 85 0 (8 * x5 + x4).toNat (-2)), M_2.2.1, M_2.2.2) r M')) : Cl l G (d + 1) mX12_looks [vR (some (3, 0)), vI x1, vI x2, vI x3, vI x4, vI x5] M r M' := by
  show Ex l G (d + 1) mX12_looks 0 [some (vR (some (3, 0))), some (vI x1), some (vI x2), some (vI x3), some (vI x4), some (vI x5), none, none, none, none, none, none, none, none, none, none] [] M r M'
  obtain ⟨o_1, h⟩ := h
  refine r_aload_n 1 dX12_looks_0 rfl rfl ?_
  refine r_iload 3 dX12_looks_1 rfl rfl ?_
  refine r_iload 5 dX12_looks_3 rfl rfl ?_
  refine v_1 (ci := 12) (C := (RX12, TX12, 68)) [vI x5, vI x4] [] 8 dX12_looks_5 rfl rfl rfl rfl rfl mo_X12_at ml_12_369 rfl rfl (KX12_at o_1) ?_
  refine r_istore (ls' := [some (vR (some (3, 0))), some (vI x1), some (vI x2), some (vI x3), some (vI x4), some (vI x5), some (vI (8 * x5 + x4)), none, none, none, none, none, none, none, none, none]) 10 dX12_looks_8 rfl rfl rfl rfl ?_
  refine r_aload_n 11 dX12_looks_10 rfl rfl ?_
  refine r_iconst 12 dX12_looks_11 rfl (InR_of rfl) ?_
  refine r_iload 14 dX12_looks_12 rfl rfl ?_
  obtain ⟨r_4, M_2, hc_3, hS, h⟩ := h
  refine v_1 (ci := 12) (C := (RX12, TX12, 68)) [vI 1, vI x4] [] 17 dX12_looks_14 rfl rfl rfl rfl rfl mo_X12_standing ml_12_195 rfl rfl hc_3 ?_
  obtain ⟨o_5, h⟩ := h
  refine r_istore (ls' := [some (vR (some (3, 0))), some (vI x1), some (vI x2), some (vI x3), some (vI x4), some (vI x5), some (vI (8 * x5 + x4)), some (vI r_4), none, none, none, none, none, none, none, none]) 19 dX12_looks_17 rfl rfl rfl rfl ?_
  refine r_aload_n 20 dX12_looks_19 rfl rfl ?_
  refine g_R 23 dX12_looks_20 rfl rfl rfl fr_12_126 (sh_12_52 hS) ?_
  refine r_iload 25 dX12_looks_23 rfl rfl ?_
  refine r_iconst 26 dX12_looks_25 rfl (InR_of rfl) ?_
  refine s_Z 488 27 dX12_looks_26 rfl rfl (by decide) rfl rfl o_5 (.inl rfl) ?_
  refine r_aload_n 28 dX12_looks_27 rfl rfl ?_
  refine g_R 31 dX12_looks_28 rfl rfl rfl fr_12_123 (mR_0 (sh_12_51 hS)) ?_
  refine r_iload 33 dX12_looks_31 rfl rfl ?_
  refine r_bipush 35 dX12_looks_33 rfl rfl ?_
  refine s_I 488 36 dX12_looks_35 rfl rfl (by decide) rfl rfl o_5 ?_
  refine r_iconst 37 dX12_looks_36 rfl (InR_of rfl) ?_
  refine r_istore (ls' := [some (vR (some (3, 0))), some (vI x1), some (vI x2), some (vI x3), some (vI x4), some (vI x5), some (vI (8 * x5 + x4)), some (vI r_4), some (vI 0), none, none, none, none, none, none, none]) 39 dX12_looks_37 rfl rfl rfl rfl ?_
  exact h
set_option maxRecDepth 4000 in
theorem xX12_looks_39 {l : Launch} {G : Gt} {d : Nat} {M M' : Mem} {r : Option Vl} {x1 : Int} {x2 : Int} {x3 : Int} {x4 : Int} {x5 : Int} {x6 : Int} {x7 : Int} {x8 : Int} (hS : Sh M.2.1) (h : 
    ((M.1 48 0 0) ≤ x8 → r = none ∧ M' = M) ∧ (¬ ((M.1 48 0 0) ≤ x8) → ((0 ≤ x7 ∧ 0 ≤ x8 ∧ x8 < 32)) ∧ ((¬ (tb x7 x8 = true) → (((0 : Int) ≤ 0 ∧ 0 ≤ x8 ∧ x8 < 32)) ∧ (((tb 0 x8 = true → ((0 ≤ x8 ∧ x8 < 32)))) ∧ Ex l G (d + 1) mX12_looks 101 [some (vR (some (3, 0))), some (vI x1), some (vI x2), some (vI x3), some (vI x4), some (vI x5), some (vI x6), some (vI x7), some (vI x8), some (vI (if tb 0 x8 = true then (aShl 1 x8) else 0 : Int)), some (vI 0), some (vI 0), none, none, none, none] [] M r M')) ∧ (tb x7 x8 = true → ∃ (r_8 : Int) (M_6 : Mem), Cl l G d mX12_fitting [vR (some (3, 0)), vI x1, vI x2, vI x8] M (some (vI r_8)) M_6 ∧ (((0 ≤ r_8 ∧ 0 ≤ x8 ∧ x8 < 32)) ∧ (((tb r_8 x8 = true → ((0 ≤ x8 ∧ x8 < 32)))) ∧ Ex l G (d + 1) mX12_looks 101 [some (vR (some (3, 0))), some (vI x1), some (vI x2), some (vI x3), some (vI x4), some (vI x5), some (vI x6), some (vI x7), some (vI x8), some (vI (if tb r_8 x8 = true then (aShl 1 x8) else r_8 : Int)), some (vI 0), some (vI 0), none, none, none, none] [] M_6 r M')))))) : Ex l G (d + 1) mX12_looks 39 [some (vR (some (3, 0))), some (vI x1), some (vI x2), some (vI x3), some (vI x4), some (vI x5), some (vI x6), some (vI x7), some (vI x8), none, none, none, none, none, none, none] [] M r M' := by
  refine r_iload 41 dX12_looks_39 rfl rfl ?_
  refine r_aload_n 42 dX12_looks_41 rfl rfl ?_
  refine g_R 45 dX12_looks_42 rfl rfl rfl fr_12_7 (sh_12_1 hS) ?_
  refine r_iconst 46 dX12_looks_45 rfl (InR_of rfl) ?_
  refine a_I 6 47 dX12_looks_46 rfl rfl rfl rfl ⟨by decide, by decide⟩ rfl ?_
  refine r_icmp_ge 50 357 dX12_looks_47 rfl rfl (fun c => ?_) (fun c => ?_)
  · have h := h.1 (c)
    exact r_vret dX12_looks_357 rfl h.1 h.2
  · have h := h.2 (c)
    obtain ⟨o_1, h⟩ := h
    refine r_iload 52 dX12_looks_50 rfl rfl ?_
    refine r_iload 54 dX12_looks_52 rfl rfl ?_
    refine c_1 [vI x7, vI x8] [] 57 dX12_looks_54 rfl rfl mo_X12_has ml_12_148 rfl rfl (KX12_has o_1) ?_
    refine r_if_eq 60 71 dX12_looks_57 rfl rfl (fun c => ?_) (fun c => ?_)
    · have h := h.1 (b2_0.mp c)
      obtain ⟨o_2, h⟩ := h
      refine r_iconst 72 dX12_looks_71 rfl (InR_of rfl) ?_
      refine r_istore (ls' := [some (vR (some (3, 0))), some (vI x1), some (vI x2), some (vI x3), some (vI x4), some (vI x5), some (vI x6), some (vI x7), some (vI x8), some (vI 0), none, none, none, none, none, none]) 74 dX12_looks_72 rfl rfl rfl rfl ?_
      refine r_iload 76 dX12_looks_74 rfl rfl ?_
      refine r_iload 78 dX12_looks_76 rfl rfl ?_
      refine c_1 [vI 0, vI x8] [] 81 dX12_looks_78 rfl rfl mo_X12_has ml_12_148 rfl rfl (KX12_has o_2) ?_
      obtain ⟨h0, h⟩ := h
      have hJ_3 : Ex l G (d + 1) mX12_looks 93 [some (vR (some (3, 0))), some (vI x1), some (vI x2), some (vI x3), some (vI x4), some (vI x5), some (vI x6), some (vI x7), some (vI x8), some (vI 0), none, none, none, none, none, none] [vI (if tb 0 x8 = true then (aShl 1 x8) else 0 : Int)] M r M' := by
        refine r_istore (ls' := [some (vR (some (3, 0))), some (vI x1), some (vI x2), some (vI x3), some (vI x4), some (vI x5), some (vI x6), some (vI x7), some (vI x8), some (vI (if tb 0 x8 = true then (aShl 1 x8) else 0 : Int)), none, none, none, none, none, none]) 95 dX12_looks_93 rfl rfl rfl rfl ?_
        refine r_iconst 96 dX12_looks_95 rfl (InR_of rfl) ?_
        refine r_istore (ls' := [some (vR (some (3, 0))), some (vI x1), some (vI x2), some (vI x3), some (vI x4), some (vI x5), some (vI x6), some (vI x7), some (vI x8), some (vI (if tb 0 x8 = true then (aShl 1 x8) else 0 : Int)), some (vI 0), none, none, none, none, none]) 98 dX12_looks_96 rfl rfl rfl rfl ?_
        refine r_iconst 99 dX12_looks_98 rfl (InR_of rfl) ?_
        refine r_istore (ls' := [some (vR (some (3, 0))), some (vI x1), some (vI x2), some (vI x3), some (vI x4), some (vI x5), some (vI x6), some (vI x7), some (vI x8), some (vI (if tb 0 x8 = true then (aShl 1 x8) else 0 : Int)), some (vI 0), some (vI 0), none, none, none, none]) 101 dX12_looks_99 rfl rfl rfl rfl ?_
        exact h
      have h := h0
      refine r_if_eq 84 91 dX12_looks_81 rfl rfl (fun c => ?_) (fun c => ?_)
      · have c_4 := b2_0.mp c
        refine r_iload 93 dX12_looks_91 rfl rfl ?_
        exact (Ex.at hJ_3 rfl (show [vI 0] = [vI (if tb 0 x8 = true then (aShl 1 x8) else 0 : Int)] by first | (simp only [if_neg c_4]; done) | contradiction) rfl)
      · have c_4 := b2_1.mp c
        have h := h c_4
        have o_5 := h
        refine r_iconst 85 dX12_looks_84 rfl (InR_of rfl) ?_
        refine r_iload 87 dX12_looks_85 rfl rfl ?_
        refine r_ishl 88 dX12_looks_87 rfl o_5 ?_
        refine r_goto 93 dX12_looks_88 rfl ?_
        exact (Ex.at hJ_3 rfl (show [vI (aShl 1 x8)] = [vI (if tb 0 x8 = true then (aShl 1 x8) else 0 : Int)] by first | (simp only [if_pos c_4]; done) | contradiction) rfl)
    · have h := h.2 (b2_1.mp c)
      refine r_aload_n 61 dX12_looks_60 rfl rfl ?_
      refine r_iload_n 62 dX12_looks_61 rfl rfl ?_
      refine r_iload_n 63 dX12_looks_62 rfl rfl ?_
      refine r_iload 65 dX12_looks_63 rfl rfl ?_
      obtain ⟨r_8, M_6, hc_7, h⟩ := h
      refine v_1 (ci := 12) (C := (RX12, TX12, 68)) [vI x1, vI x2, vI x8] [] 68 dX12_looks_65 rfl rfl rfl rfl rfl mo_X12_fitting ml_12_334 rfl rfl hc_7 ?_
      obtain ⟨o_9, h⟩ := h
      refine r_goto 72 dX12_looks_68 rfl ?_
      refine r_istore (ls' := [some (vR (some (3, 0))), some (vI x1), some (vI x2), some (vI x3), some (vI x4), some (vI x5), some (vI x6), some (vI x7), some (vI x8), some (vI r_8), none, none, none, none, none, none]) 74 dX12_looks_72 rfl rfl rfl rfl ?_
      refine r_iload 76 dX12_looks_74 rfl rfl ?_
      refine r_iload 78 dX12_looks_76 rfl rfl ?_
      refine c_1 [vI r_8, vI x8] [] 81 dX12_looks_78 rfl rfl mo_X12_has ml_12_148 rfl rfl (KX12_has o_9) ?_
      obtain ⟨h0, h⟩ := h
      have hJ_10 : Ex l G (d + 1) mX12_looks 93 [some (vR (some (3, 0))), some (vI x1), some (vI x2), some (vI x3), some (vI x4), some (vI x5), some (vI x6), some (vI x7), some (vI x8), some (vI r_8), none, none, none, none, none, none] [vI (if tb r_8 x8 = true then (aShl 1 x8) else r_8 : Int)] M_6 r M' := by
        refine r_istore (ls' := [some (vR (some (3, 0))), some (vI x1), some (vI x2), some (vI x3), some (vI x4), some (vI x5), some (vI x6), some (vI x7), some (vI x8), some (vI (if tb r_8 x8 = true then (aShl 1 x8) else r_8 : Int)), none, none, none, none, none, none]) 95 dX12_looks_93 rfl rfl rfl rfl ?_
        refine r_iconst 96 dX12_looks_95 rfl (InR_of rfl) ?_
        refine r_istore (ls' := [some (vR (some (3, 0))), some (vI x1), some (vI x2), some (vI x3), some (vI x4), some (vI x5), some (vI x6), some (vI x7), some (vI x8), some (vI (if tb r_8 x8 = true then (aShl 1 x8) else r_8 : Int)), some (vI 0), none, none, none, none, none]) 98 dX12_looks_96 rfl rfl rfl rfl ?_
        refine r_iconst 99 dX12_looks_98 rfl (InR_of rfl) ?_
        refine r_istore (ls' := [some (vR (some (3, 0))), some (vI x1), some (vI x2), some (vI x3), some (vI x4), some (vI x5), some (vI x6), some (vI x7), some (vI x8), some (vI (if tb r_8 x8 = true then (aShl 1 x8) else r_8 : Int)), some (vI 0), some (vI 0), none, none, none, none]) 101 dX12_looks_99 rfl rfl rfl rfl ?_
        exact h
      have h := h0
      refine r_if_eq 84 91 dX12_looks_81 rfl rfl (fun c => ?_) (fun c => ?_)
      · have c_11 := b2_0.mp c
        refine r_iload 93 dX12_looks_91 rfl rfl ?_
        exact (Ex.at hJ_10 rfl (show [vI r_8] = [vI (if tb r_8 x8 = true then (aShl 1 x8) else r_8 : Int)] by first | (simp only [if_neg c_11]; done) | contradiction) rfl)
      · have c_11 := b2_1.mp c
        have h := h c_11
        have o_12 := h
        refine r_iconst 85 dX12_looks_84 rfl (InR_of rfl) ?_
        refine r_iload 87 dX12_looks_85 rfl rfl ?_
        refine r_ishl 88 dX12_looks_87 rfl o_12 ?_
        refine r_goto 93 dX12_looks_88 rfl ?_
        exact (Ex.at hJ_10 rfl (show [vI (aShl 1 x8)] = [vI (if tb r_8 x8 = true then (aShl 1 x8) else r_8 : Int)] by first | (simp only [if_pos c_11]; done) | contradiction) rfl)
set_option maxRecDepth 4000 in
theorem xX12_looks_101 {l : Launch} {G : Gt} {d : Nat} {M M' : Mem} {r : Option Vl} {x1 : Int} {x2 : Int} {x3 : Int} {x4 : Int} {x5 : Int} {x6 : Int} {x7 : Int} {x8 : Int} {x9 : Int} {x10 : Int} {x11 : Int} (hS : Sh M.2.1) (h : 
    ((M.1 48 0 0) ≤ x11 → (x10 = 0 → (InR (x8 + 1)) ∧ Ex l G (d + 1) mX12_looks 39 [some (vR (some (3, 0))), some (vI x1), some (vI x2), some (vI x3), some (vI x4), some (vI x5), some (vI x6), some (vI x7), some (vI (x8 + 1)), none, none, none, none, none, none, none] [] M r M') ∧ (¬ (x10 = 0) → r = none ∧ M' = M)) ∧ (¬ ((M.1 48 0 0) ≤ x11) → ((0 ≤ x7 ∧ 0 ≤ x11 ∧ x11 < 32) ∧ (0 ≤ x9 ∧ 0 ≤ x11 ∧ x11 < 32)) ∧ ((¬ (tb x9 x11 = true) → Ex l G (d + 1) mX12_looks 158 [some (vR (some (3, 0))), some (vI x1), some (vI x2), some (vI x3), some (vI x4), some (vI x5), some (vI x6), some (vI x7), some (vI x8), some (vI x9), some (vI x10), some (vI x11), some (vI (if tb x7 x11 = true then 1 else 0 : Int)), some (vI (-1)), none, none] [] M r M') ∧ (tb x9 x11 = true → (tb x7 x11 = true → Ex l G (d + 1) mX12_looks 158 [some (vR (some (3, 0))), some (vI x1), some (vI x2), some (vI x3), some (vI x4), some (vI x5), some (vI x6), some (vI x7), some (vI x8), some (vI x9), some (vI x10), some (vI x11), some (vI (if tb x7 x11 = true then 1 else 0 : Int)), some (vI (-1)), none, none] [] M r M') ∧ (¬ (tb x7 x11 = true) → (InR (12 + x11) ∧ (0 ≤ (12 + x11) ∧ (12 + x11) < 24)) ∧ (∃ (r_8 : Int) (M_6 : Mem), Cl l G d mX12_nextTo [vR (some (3, 0)), vI x4, vI (M.1 73 0 (12 + x11).toNat)] M (some (vI r_8)) M_6 ∧ Ex l G (d + 1) mX12_looks 158 [some (vR (some (3, 0))), some (vI x1), some (vI x2), some (vI x3), some (vI x4), some (vI x5), some (vI x6), some (vI x7), some (vI x8), some (vI x9), some (vI x10), some (vI x11), some (vI (if tb x7 x11 = true then 1 else 0 : Int)), some (vI r_8), none, none] [] M_6 r M')))))) : Ex l G (d + 1) mX12_looks 101 [some (vR (some (3, 0))), some (vI x1), some (vI x2), some (vI x3), some (vI x4), some (vI x5), some (vI x6), some (vI x7), some (vI x8), some (vI x9), some (vI x10), some (vI x11), none, none, none, none] [] M r M' := by
  refine r_iload 103 dX12_looks_101 rfl rfl ?_
  refine r_aload_n 104 dX12_looks_103 rfl rfl ?_
  refine g_R 107 dX12_looks_104 rfl rfl rfl fr_12_7 (sh_12_1 hS) ?_
  refine r_iconst 108 dX12_looks_107 rfl (InR_of rfl) ?_
  refine a_I 6 109 dX12_looks_108 rfl rfl rfl rfl ⟨by decide, by decide⟩ rfl ?_
  refine r_icmp_ge 112 345 dX12_looks_109 rfl rfl (fun c => ?_) (fun c => ?_)
  · have h := h.1 (c)
    refine r_iload 347 dX12_looks_345 rfl rfl ?_
    refine r_if_eq 350 351 dX12_looks_347 rfl rfl (fun c => ?_) (fun c => ?_)
    · have h := h.1 (c)
      obtain ⟨o_1, h⟩ := h
      refine r_iinc (ls' := [some (vR (some (3, 0))), some (vI x1), some (vI x2), some (vI x3), some (vI x4), some (vI x5), some (vI x6), some (vI x7), some (vI (x8 + 1)), some (vI x9), some (vI x10), some (vI x11), none, none, none, none]) 354 dX12_looks_351 rfl rfl rfl rfl o_1 rfl ?_
      refine r_goto 39 dX12_looks_354 rfl ?_
      exact Ex.weak h ⟨rfl, rfl, rfl, rfl, rfl, rfl, rfl, rfl, rfl, trivial⟩
    · have h := h.2 (c)
      exact r_vret dX12_looks_350 rfl h.1 h.2
  · have h := h.2 (c)
    obtain ⟨⟨o_2, o_3⟩, h⟩ := h
    refine r_iload 114 dX12_looks_112 rfl rfl ?_
    refine r_iload 116 dX12_looks_114 rfl rfl ?_
    refine c_1 [vI x7, vI x11] [] 119 dX12_looks_116 rfl rfl mo_X12_has ml_12_148 rfl rfl (KX12_has o_2) ?_
    refine r_istore (ls' := [some (vR (some (3, 0))), some (vI x1), some (vI x2), some (vI x3), some (vI x4), some (vI x5), some (vI x6), some (vI x7), some (vI x8), some (vI x9), some (vI x10), some (vI x11), some (vI (if tb x7 x11 = true then 1 else 0 : Int)), none, none, none]) 121 dX12_looks_119 rfl rfl rfl rfl ?_
    refine r_iload 123 dX12_looks_121 rfl rfl ?_
    refine r_iload 125 dX12_looks_123 rfl rfl ?_
    refine c_1 [vI x9, vI x11] [] 128 dX12_looks_125 rfl rfl mo_X12_has ml_12_148 rfl rfl (KX12_has o_3) ?_
    refine r_if_eq 131 155 dX12_looks_128 rfl rfl (fun c => ?_) (fun c => ?_)
    · have h := h.1 (b2_0.mp c)
      refine r_iconst 156 dX12_looks_155 rfl (InR_of rfl) ?_
      refine r_istore (ls' := [some (vR (some (3, 0))), some (vI x1), some (vI x2), some (vI x3), some (vI x4), some (vI x5), some (vI x6), some (vI x7), some (vI x8), some (vI x9), some (vI x10), some (vI x11), some (vI (if tb x7 x11 = true then 1 else 0 : Int)), some (vI (-1)), none, none]) 158 dX12_looks_156 rfl rfl rfl rfl ?_
      exact h
    · have h := h.2 (b2_1.mp c)
      refine r_iload 133 dX12_looks_131 rfl rfl ?_
      refine r_if_ne 136 155 dX12_looks_133 rfl rfl (fun c => ?_) (fun c => ?_)
      · have h := h.1 (b2_1.mp c)
        refine r_iconst 156 dX12_looks_155 rfl (InR_of rfl) ?_
        refine r_istore (ls' := [some (vR (some (3, 0))), some (vI x1), some (vI x2), some (vI x3), some (vI x4), some (vI x5), some (vI x6), some (vI x7), some (vI x8), some (vI x9), some (vI x10), some (vI x11), some (vI (if tb x7 x11 = true then 1 else 0 : Int)), some (vI (-1)), none, none]) 158 dX12_looks_156 rfl rfl rfl rfl ?_
        exact h
      · have h := h.2 (b2_0.mp (Decidable.not_not.mp c))
        obtain ⟨⟨o_4, o_5⟩, h⟩ := h
        refine r_aload_n 137 dX12_looks_136 rfl rfl ?_
        refine r_iload 139 dX12_looks_137 rfl rfl ?_
        refine r_aload_n 140 dX12_looks_139 rfl rfl ?_
        refine g_R 143 dX12_looks_140 rfl rfl rfl fr_12_85 (sh_12_26 hS) ?_
        refine r_bipush 145 dX12_looks_143 rfl rfl ?_
        refine r_iload 147 dX12_looks_145 rfl rfl ?_
        refine r_iadd 148 dX12_looks_147 rfl o_4 ?_
        refine a_I 24 149 dX12_looks_148 rfl rfl rfl rfl o_5 rfl ?_
        obtain ⟨r_8, M_6, hc_7, h⟩ := h
        refine v_1 (ci := 12) (C := (RX12, TX12, 68)) [vI x4, vI (M.1 73 0 (12 + x11).toNat)] [] 152 dX12_looks_149 rfl rfl rfl rfl rfl mo_X12_nextTo ml_12_349 rfl rfl hc_7 ?_
        refine r_goto 156 dX12_looks_152 rfl ?_
        refine r_istore (ls' := [some (vR (some (3, 0))), some (vI x1), some (vI x2), some (vI x3), some (vI x4), some (vI x5), some (vI x6), some (vI x7), some (vI x8), some (vI x9), some (vI x10), some (vI x11), some (vI (if tb x7 x11 = true then 1 else 0 : Int)), some (vI r_8), none, none]) 158 dX12_looks_156 rfl rfl rfl rfl ?_
        exact h
set_option maxRecDepth 4000 in
theorem xX12_looks_158 {l : Launch} {G : Gt} {d : Nat} {M M' : Mem} {r : Option Vl} {x1 : Int} {x2 : Int} {x3 : Int} {x4 : Int} {x5 : Int} {x6 : Int} {x7 : Int} {x8 : Int} {x9 : Int} {x10 : Int} {x11 : Int} {x12 : Int} {x13 : Int} (hS : Sh M.2.1) (h : 
    ((0 ≤ x9 ∧ 0 ≤ x11 ∧ x11 < 32)) ∧ ((¬ (tb x9 x11 = true) → Ex l G (d + 1) mX12_looks 339 [some (vR (some (3, 0))), some (vI x1), some (vI x2), some (vI x3), some (vI x4), some (vI x5), some (vI x6), some (vI x7), some (vI x8), some (vI x9), some (vI x10), some (vI x11), some (vI x12), some (vI x13), none, none] [] M r M') ∧ (tb x9 x11 = true → (¬ (x12 = 0) → ((¬ (x10 = 0) → ((0 ≤ x6 ∧ x6 < 488)))) ∧ (((0 ≤ x6 ∧ x6 < 488) ∧ ((if x10 = 0 then 1 else (M.1 86 0 x6.toNat) : Int) = 0 ∨ (if x10 = 0 then 1 else (M.1 86 0 x6.toNat) : Int) = 1)) ∧ Ex l G (d + 1) mX12_looks 205 [some (vR (some (3, 0))), some (vI x1), some (vI x2), some (vI x3), some (vI x4), some (vI x5), some (vI x6), some (vI x7), some (vI x8), some (vI x9), some (vI 1), some (vI x11), some (vI x12), some (vI x13), none, none] [] ((upI M.1 86 0 x6.toNat (if x10 = 0 then 1 else (M.1 86 0 x6.toNat) : Int)), M.2.1, M.2.2) r M')) ∧ (x12 = 0 → (x13 = (-1) → Ex l G (d + 1) mX12_looks 339 [some (vR (some (3, 0))), some (vI x1), some (vI x2), some (vI x3), some (vI x4), some (vI x5), some (vI x6), some (vI x7), some (vI x8), some (vI x9), some (vI x10), some (vI x11), some (vI x12), some (vI x13), none, none] [] M r M') ∧ (¬ (x13 = (-1)) → ((¬ (x10 = 0) → ((0 ≤ x6 ∧ x6 < 488)))) ∧ (((0 ≤ x6 ∧ x6 < 488) ∧ ((if x10 = 0 then 1 else (M.1 86 0 x6.toNat) : Int) = 0 ∨ (if x10 = 0 then 1 else (M.1 86 0 x6.toNat) : Int) = 1)) ∧ Ex l G (d + 1) mX12_looks 205 [some (vR (some (3, 0))), some (vI x1), some (vI x2), some (vI x3), some (vI x4), some (vI x5), some (vI x6), some (vI x7), some (vI x8), some (vI x9), some (vI 1), some (vI x11), some (vI x12), some (vI x13), none, none] [] ((upI M.1 86 0 x6.toNat (if x10 = 0 then 1 else (M.1 86 0 x6.toNat) : Int)), M.2.1, M.2.2) r M')))))) : Ex l G (d + 1) mX12_looks 158 [some (vR (some (3, 0))), some (vI x1), some (vI x2), some (vI x3), some (vI x4), some (vI x5), some (vI x6), some (vI x7), some (vI x8), some (vI x9), some (vI x10), some (vI x11), some (vI x12), some (vI x13), none, none] [] M r M' := by
  obtain ⟨o_1, h⟩ := h
  refine r_iload 160 dX12_looks_158 rfl rfl ?_
  refine r_iload 162 dX12_looks_160 rfl rfl ?_
  refine c_1 [vI x9, vI x11] [] 165 dX12_looks_162 rfl rfl mo_X12_has ml_12_148 rfl rfl (KX12_has o_1) ?_
  refine r_if_eq 168 339 dX12_looks_165 rfl rfl (fun c => ?_) (fun c => ?_)
  · have h := h.1 (b2_0.mp c)
    exact h
  · have h := h.2 (b2_1.mp c)
    refine r_iload 170 dX12_looks_168 rfl rfl ?_
    refine r_if_ne 173 179 dX12_looks_170 rfl rfl (fun c => ?_) (fun c => ?_)
    · have h := h.1 (c)
      refine r_aload_n 180 dX12_looks_179 rfl rfl ?_
      refine g_R 183 dX12_looks_180 rfl rfl rfl fr_12_126 (sh_12_52 hS) ?_
      refine r_iload 185 dX12_looks_183 rfl rfl ?_
      refine r_iload 187 dX12_looks_185 rfl rfl ?_
      obtain ⟨h0, h⟩ := h
      have hJ_2 : Ex l G (d + 1) mX12_looks 201 [some (vR (some (3, 0))), some (vI x1), some (vI x2), some (vI x3), some (vI x4), some (vI x5), some (vI x6), some (vI x7), some (vI x8), some (vI x9), some (vI x10), some (vI x11), some (vI x12), some (vI x13), none, none] [vI (if x10 = 0 then 1 else (M.1 86 0 x6.toNat) : Int), vI x6, vR (some (86, 0))] M r M' := by
        obtain ⟨⟨o_5, o_6⟩, h⟩ := h
        refine s_Z 488 202 dX12_looks_201 rfl rfl (by decide) rfl rfl o_5 o_6 ?_
        refine r_iconst 203 dX12_looks_202 rfl (InR_of rfl) ?_
        refine r_istore (ls' := [some (vR (some (3, 0))), some (vI x1), some (vI x2), some (vI x3), some (vI x4), some (vI x5), some (vI x6), some (vI x7), some (vI x8), some (vI x9), some (vI 1), some (vI x11), some (vI x12), some (vI x13), none, none]) 205 dX12_looks_203 rfl rfl rfl rfl ?_
        exact h
      have h := h0
      refine r_if_eq 190 200 dX12_looks_187 rfl rfl (fun c => ?_) (fun c => ?_)
      · have c_3 := c
        refine r_iconst 201 dX12_looks_200 rfl (InR_of rfl) ?_
        exact (Ex.at hJ_2 rfl (show [vI 1, vI x6, vR (some (86, 0))] = [vI (if x10 = 0 then 1 else (M.1 86 0 x6.toNat) : Int), vI x6, vR (some (86, 0))] by first | (simp only [if_pos c_3]; done) | contradiction) rfl)
      · have c_3 := c
        have h := h c_3
        have o_4 := h
        refine r_aload_n 191 dX12_looks_190 rfl rfl ?_
        refine g_R 194 dX12_looks_191 rfl rfl rfl fr_12_126 (sh_12_52 hS) ?_
        refine r_iload 196 dX12_looks_194 rfl rfl ?_
        refine a_Z 488 197 dX12_looks_196 rfl rfl rfl rfl o_4 rfl ?_
        refine r_goto 201 dX12_looks_197 rfl ?_
        exact (Ex.at hJ_2 rfl (show [vI (M.1 86 0 x6.toNat), vI x6, vR (some (86, 0))] = [vI (if x10 = 0 then 1 else (M.1 86 0 x6.toNat) : Int), vI x6, vR (some (86, 0))] by first | (simp only [if_neg c_3]; done) | contradiction) rfl)
    · have h := h.2 (Decidable.not_not.mp c)
      refine r_iload 175 dX12_looks_173 rfl rfl ?_
      refine r_iconst 176 dX12_looks_175 rfl (InR_of rfl) ?_
      refine r_icmp_eq 179 339 dX12_looks_176 rfl rfl (fun c => ?_) (fun c => ?_)
      · have h := h.1 (c)
        exact h
      · have h := h.2 (c)
        refine r_aload_n 180 dX12_looks_179 rfl rfl ?_
        refine g_R 183 dX12_looks_180 rfl rfl rfl fr_12_126 (sh_12_52 hS) ?_
        refine r_iload 185 dX12_looks_183 rfl rfl ?_
        refine r_iload 187 dX12_looks_185 rfl rfl ?_
        obtain ⟨h0, h⟩ := h
        have hJ_7 : Ex l G (d + 1) mX12_looks 201 [some (vR (some (3, 0))), some (vI x1), some (vI x2), some (vI x3), some (vI x4), some (vI x5), some (vI x6), some (vI x7), some (vI x8), some (vI x9), some (vI x10), some (vI x11), some (vI x12), some (vI x13), none, none] [vI (if x10 = 0 then 1 else (M.1 86 0 x6.toNat) : Int), vI x6, vR (some (86, 0))] M r M' := by
          obtain ⟨⟨o_10, o_11⟩, h⟩ := h
          refine s_Z 488 202 dX12_looks_201 rfl rfl (by decide) rfl rfl o_10 o_11 ?_
          refine r_iconst 203 dX12_looks_202 rfl (InR_of rfl) ?_
          refine r_istore (ls' := [some (vR (some (3, 0))), some (vI x1), some (vI x2), some (vI x3), some (vI x4), some (vI x5), some (vI x6), some (vI x7), some (vI x8), some (vI x9), some (vI 1), some (vI x11), some (vI x12), some (vI x13), none, none]) 205 dX12_looks_203 rfl rfl rfl rfl ?_
          exact h
        have h := h0
        refine r_if_eq 190 200 dX12_looks_187 rfl rfl (fun c => ?_) (fun c => ?_)
        · have c_8 := c
          refine r_iconst 201 dX12_looks_200 rfl (InR_of rfl) ?_
          exact (Ex.at hJ_7 rfl (show [vI 1, vI x6, vR (some (86, 0))] = [vI (if x10 = 0 then 1 else (M.1 86 0 x6.toNat) : Int), vI x6, vR (some (86, 0))] by first | (simp only [if_pos c_8]; done) | contradiction) rfl)
        · have c_8 := c
          have h := h c_8
          have o_9 := h
          refine r_aload_n 191 dX12_looks_190 rfl rfl ?_
          refine g_R 194 dX12_looks_191 rfl rfl rfl fr_12_126 (sh_12_52 hS) ?_
          refine r_iload 196 dX12_looks_194 rfl rfl ?_
          refine a_Z 488 197 dX12_looks_196 rfl rfl rfl rfl o_9 rfl ?_
          refine r_goto 201 dX12_looks_197 rfl ?_
          exact (Ex.at hJ_7 rfl (show [vI (M.1 86 0 x6.toNat), vI x6, vR (some (86, 0))] = [vI (if x10 = 0 then 1 else (M.1 86 0 x6.toNat) : Int), vI x6, vR (some (86, 0))] by first | (simp only [if_neg c_8]; done) | contradiction) rfl)
set_option maxRecDepth 4000 in
theorem xX12_looks_205 {l : Launch} {G : Gt} {d : Nat} {M M' : Mem} {r : Option Vl} {x1 : Int} {x2 : Int} {x3 : Int} {x4 : Int} {x5 : Int} {x6 : Int} {x7 : Int} {x8 : Int} {x9 : Int} {x10 : Int} {x11 : Int} {x12 : Int} {x13 : Int} (hS : Sh M.2.1) (h : 
    (x12 = 0 → ∃ (r_3 : Int) (M_1 : Mem), Cl l G d mX12_roadOf [vR (some (3, 0)), vI x4, vI x13] M (some (vI r_3)) M_1 ∧ Sh M_1.2.1 ∧ (((0 ≤ r_3 ∧ r_3 < 16) ∧ InR (x5 + (M_1.1 55 0 r_3.toNat))) ∧ (((¬ ((if 60 < (x5 + (M_1.1 55 0 r_3.toNat)) then 0 else 1 : Int) = 0) → ((if 60 < (x5 + (M_1.1 55 0 r_3.toNat)) then 0 else 1 : Int) = 0 → ((InR (8 * 0) ∧ InR (8 * 0 + x13)) ∧ (0 ≤ (8 * 0 + x13) ∧ (8 * 0 + x13) < 488))) ∧ (¬ ((if 60 < (x5 + (M_1.1 55 0 r_3.toNat)) then 0 else 1 : Int) = 0) → ((InR (8 * (x5 + (M_1.1 55 0 r_3.toNat))) ∧ InR (8 * (x5 + (M_1.1 55 0 r_3.toNat)) + x13)) ∧ (0 ≤ (8 * (x5 + (M_1.1 55 0 r_3.toNat)) + x13) ∧ (8 * (x5 + (M_1.1 55 0 r_3.toNat)) + x13) < 488))))) ∧ (((¬ ((if 60 < (x5 + (M_1.1 55 0 r_3.toNat)) then 0 else 1 : Int) = 0) → ((InR (8 * (x5 + (M_1.1 55 0 r_3.toNat))) ∧ InR (8 * (x5 + (M_1.1 55 0 r_3.toNat)) + x13)) ∧ (0 ≤ (8 * (x5 + (M_1.1 55 0 r_3.toNat)) + x13) ∧ (8 * (x5 + (M_1.1 55 0 r_3.toNat)) + x13) < 488)))) ∧ (∃ (M_21 : Mem), Cl l G d mX12_chooses [vR (some (3, 0)), vI x6, vI (if (if 60 < (x5 + (M_1.1 55 0 r_3.toNat)) then 0 else 1 : Int) = 0 then 0 else (if (if 60 < (x5 + (M_1.1 55 0 r_3.toNat)) then 0 else 1 : Int) = 0 then (if (M_1.1 86 0 (8 * 0 + x13).toNat) = 0 then 0 else 1 : Int) else (if (M_1.1 86 0 (8 * (x5 + (M_1.1 55 0 r_3.toNat)) + x13).toNat) = 0 then 0 else 1 : Int) : Int) : Int), vI (if (if 60 < (x5 + (M_1.1 55 0 r_3.toNat)) then 0 else 1 : Int) = 0 then (-2) else (M_1.1 85 0 (8 * (x5 + (M_1.1 55 0 r_3.toNat)) + x13).toNat) : Int)] M_1 none M_21 ∧ Ex l G (d + 1) mX12_looks 339 [some (vR (some (3, 0))), some (vI x1), some (vI x2), some (vI x3), some (vI x4), some (vI x5), some (vI x6), some (vI x7), some (vI x8), some (vI x9), some (vI x10), some (vI x11), some (vI x12), some (vI x13), none, none] [] M_21 r M'))))) ∧ (¬ (x12 = 0) → ∃ (M_27 : Mem), Cl l G d mX12_chooses [vR (some (3, 0)), vI x6, vI (if x11 = x3 then 1 else 0 : Int), vI (if x11 = x3 then x5 else (-2) : Int)] M none M_27 ∧ Ex l G (d + 1) mX12_looks 339 [some (vR (some (3, 0))), some (vI x1), some (vI x2), some (vI x3), some (vI x4), some (vI x5), some (vI x6), some (vI x7), some (vI x8), some (vI x9), some (vI x10), some (vI x11), some (vI x12), some (vI x13), none, none] [] M_27 r M')) : Ex l G (d + 1) mX12_looks 205 [some (vR (some (3, 0))), some (vI x1), some (vI x2), some (vI x3), some (vI x4), some (vI x5), some (vI x6), some (vI x7), some (vI x8), some (vI x9), some (vI x10), some (vI x11), some (vI x12), some (vI x13), none, none] [] M r M' := by
  refine r_iload 207 dX12_looks_205 rfl rfl ?_
  refine r_if_eq 210 243 dX12_looks_207 rfl rfl (fun c => ?_) (fun c => ?_)
  · have h := h.1 (c)
    refine r_iload 245 dX12_looks_243 rfl rfl ?_
    refine r_aload_n 246 dX12_looks_245 rfl rfl ?_
    refine g_R 249 dX12_looks_246 rfl rfl rfl fr_12_31 (sh_12_8 hS) ?_
    refine r_aload_n 250 dX12_looks_249 rfl rfl ?_
    refine r_iload 252 dX12_looks_250 rfl rfl ?_
    refine r_iload 254 dX12_looks_252 rfl rfl ?_
    obtain ⟨r_3, M_1, hc_2, hS, h⟩ := h
    refine v_1 (ci := 12) (C := (RX12, TX12, 68)) [vI x4, vI x13] [vR (some (55, 0)), vI x5] 257 dX12_looks_254 rfl rfl rfl rfl rfl mo_X12_roadOf ml_12_166 rfl rfl hc_2 ?_
    obtain ⟨⟨o_4, o_5⟩, h⟩ := h
    refine a_I 16 258 dX12_looks_257 rfl rfl rfl rfl o_4 rfl ?_
    refine r_iadd 259 dX12_looks_258 rfl o_5 ?_
    refine r_istore (ls' := [some (vR (some (3, 0))), some (vI x1), some (vI x2), some (vI x3), some (vI x4), some (vI x5), some (vI x6), some (vI x7), some (vI x8), some (vI x9), some (vI x10), some (vI x11), some (vI x12), some (vI x13), some (vI (x5 + (M_1.1 55 0 r_3.toNat))), none]) 261 dX12_looks_259 rfl rfl rfl rfl ?_
    refine r_iload 263 dX12_looks_261 rfl rfl ?_
    refine r_bipush 265 dX12_looks_263 rfl rfl ?_
    have hJ_6 : Ex l G (d + 1) mX12_looks 273 [some (vR (some (3, 0))), some (vI x1), some (vI x2), some (vI x3), some (vI x4), some (vI x5), some (vI x6), some (vI x7), some (vI x8), some (vI x9), some (vI x10), some (vI x11), some (vI x12), some (vI x13), some (vI (x5 + (M_1.1 55 0 r_3.toNat))), none] [vI (if 60 < (x5 + (M_1.1 55 0 r_3.toNat)) then 0 else 1 : Int)] M_1 r M' := by
      refine r_istore (ls' := [some (vR (some (3, 0))), some (vI x1), some (vI x2), some (vI x3), some (vI x4), some (vI x5), some (vI x6), some (vI x7), some (vI x8), some (vI x9), some (vI x10), some (vI x11), some (vI x12), some (vI x13), some (vI (x5 + (M_1.1 55 0 r_3.toNat))), some (vI (if 60 < (x5 + (M_1.1 55 0 r_3.toNat)) then 0 else 1 : Int))]) 275 dX12_looks_273 rfl rfl rfl rfl ?_
      refine r_aload_n 276 dX12_looks_275 rfl rfl ?_
      refine r_iload 278 dX12_looks_276 rfl rfl ?_
      refine r_iload 280 dX12_looks_278 rfl rfl ?_
      obtain ⟨h0, h⟩ := h
      have hJ_8 : Ex l G (d + 1) mX12_looks 313 [some (vR (some (3, 0))), some (vI x1), some (vI x2), some (vI x3), some (vI x4), some (vI x5), some (vI x6), some (vI x7), some (vI x8), some (vI x9), some (vI x10), some (vI x11), some (vI x12), some (vI x13), some (vI (x5 + (M_1.1 55 0 r_3.toNat))), some (vI (if 60 < (x5 + (M_1.1 55 0 r_3.toNat)) then 0 else 1 : Int))] [vI (if (if 60 < (x5 + (M_1.1 55 0 r_3.toNat)) then 0 else 1 : Int) = 0 then 0 else (if (if 60 < (x5 + (M_1.1 55 0 r_3.toNat)) then 0 else 1 : Int) = 0 then (if (M_1.1 86 0 (8 * 0 + x13).toNat) = 0 then 0 else 1 : Int) else (if (M_1.1 86 0 (8 * (x5 + (M_1.1 55 0 r_3.toNat)) + x13).toNat) = 0 then 0 else 1 : Int) : Int) : Int), vI x6, vR (some (3, 0))] M_1 r M' := by
        refine r_iload 315 dX12_looks_313 rfl rfl ?_
        obtain ⟨h0, h⟩ := h
        have hJ_17 : Ex l G (d + 1) mX12_looks 336 [some (vR (some (3, 0))), some (vI x1), some (vI x2), some (vI x3), some (vI x4), some (vI x5), some (vI x6), some (vI x7), some (vI x8), some (vI x9), some (vI x10), some (vI x11), some (vI x12), some (vI x13), some (vI (x5 + (M_1.1 55 0 r_3.toNat))), some (vI (if 60 < (x5 + (M_1.1 55 0 r_3.toNat)) then 0 else 1 : Int))] [vI (if (if 60 < (x5 + (M_1.1 55 0 r_3.toNat)) then 0 else 1 : Int) = 0 then (-2) else (M_1.1 85 0 (8 * (x5 + (M_1.1 55 0 r_3.toNat)) + x13).toNat) : Int), vI (if (if 60 < (x5 + (M_1.1 55 0 r_3.toNat)) then 0 else 1 : Int) = 0 then 0 else (if (if 60 < (x5 + (M_1.1 55 0 r_3.toNat)) then 0 else 1 : Int) = 0 then (if (M_1.1 86 0 (8 * 0 + x13).toNat) = 0 then 0 else 1 : Int) else (if (M_1.1 86 0 (8 * (x5 + (M_1.1 55 0 r_3.toNat)) + x13).toNat) = 0 then 0 else 1 : Int) : Int) : Int), vI x6, vR (some (3, 0))] M_1 r M' := by
          obtain ⟨M_21, hc_22, h⟩ := h
          refine v_0 (ci := 12) (C := (RX12, TX12, 68)) [vI x6, vI (if (if 60 < (x5 + (M_1.1 55 0 r_3.toNat)) then 0 else 1 : Int) = 0 then 0 else (if (if 60 < (x5 + (M_1.1 55 0 r_3.toNat)) then 0 else 1 : Int) = 0 then (if (M_1.1 86 0 (8 * 0 + x13).toNat) = 0 then 0 else 1 : Int) else (if (M_1.1 86 0 (8 * (x5 + (M_1.1 55 0 r_3.toNat)) + x13).toNat) = 0 then 0 else 1 : Int) : Int) : Int), vI (if (if 60 < (x5 + (M_1.1 55 0 r_3.toNat)) then 0 else 1 : Int) = 0 then (-2) else (M_1.1 85 0 (8 * (x5 + (M_1.1 55 0 r_3.toNat)) + x13).toNat) : Int)] [] 339 dX12_looks_336 rfl rfl rfl rfl rfl mo_X12_chooses ml_12_371 rfl rfl hc_22 ?_
          exact Ex.weak h ⟨rfl, rfl, rfl, rfl, rfl, rfl, rfl, rfl, rfl, rfl, rfl, rfl, rfl, rfl, trivial⟩
        have h := h0
        refine r_if_eq 318 334 dX12_looks_315 rfl rfl (fun c => ?_) (fun c => ?_)
        · have c_18 := c
          refine r_bipush 336 dX12_looks_334 rfl rfl ?_
          exact (Ex.at hJ_17 rfl (show [vI (-2), vI (if (if 60 < (x5 + (M_1.1 55 0 r_3.toNat)) then 0 else 1 : Int) = 0 then 0 else (if (if 60 < (x5 + (M_1.1 55 0 r_3.toNat)) then 0 else 1 : Int) = 0 then (if (M_1.1 86 0 (8 * 0 + x13).toNat) = 0 then 0 else 1 : Int) else (if (M_1.1 86 0 (8 * (x5 + (M_1.1 55 0 r_3.toNat)) + x13).toNat) = 0 then 0 else 1 : Int) : Int) : Int), vI x6, vR (some (3, 0))] = [vI (if (if 60 < (x5 + (M_1.1 55 0 r_3.toNat)) then 0 else 1 : Int) = 0 then (-2) else (M_1.1 85 0 (8 * (x5 + (M_1.1 55 0 r_3.toNat)) + x13).toNat) : Int), vI (if (if 60 < (x5 + (M_1.1 55 0 r_3.toNat)) then 0 else 1 : Int) = 0 then 0 else (if (if 60 < (x5 + (M_1.1 55 0 r_3.toNat)) then 0 else 1 : Int) = 0 then (if (M_1.1 86 0 (8 * 0 + x13).toNat) = 0 then 0 else 1 : Int) else (if (M_1.1 86 0 (8 * (x5 + (M_1.1 55 0 r_3.toNat)) + x13).toNat) = 0 then 0 else 1 : Int) : Int) : Int), vI x6, vR (some (3, 0))] by first | (simp only [if_pos c_18]; done) | contradiction) rfl)
        · have c_18 := c
          have h := h c_18
          obtain ⟨o_19, o_20⟩ := h
          refine r_aload_n 319 dX12_looks_318 rfl rfl ?_
          refine g_R 322 dX12_looks_319 rfl rfl rfl fr_12_123 (sh_12_51 hS) ?_
          refine r_aload_n 323 dX12_looks_322 rfl rfl ?_
          refine r_iload 325 dX12_looks_323 rfl rfl ?_
          refine r_iload 327 dX12_looks_325 rfl rfl ?_
          refine v_1 (ci := 12) (C := (RX12, TX12, 68)) [vI (x5 + (M_1.1 55 0 r_3.toNat)), vI x13] [vR (some (85, 0)), vI (if (if 60 < (x5 + (M_1.1 55 0 r_3.toNat)) then 0 else 1 : Int) = 0 then 0 else (if (if 60 < (x5 + (M_1.1 55 0 r_3.toNat)) then 0 else 1 : Int) = 0 then (if (M_1.1 86 0 (8 * 0 + x13).toNat) = 0 then 0 else 1 : Int) else (if (M_1.1 86 0 (8 * (x5 + (M_1.1 55 0 r_3.toNat)) + x13).toNat) = 0 then 0 else 1 : Int) : Int) : Int), vI x6, vR (some (3, 0))] 330 dX12_looks_327 rfl rfl rfl rfl rfl mo_X12_at ml_12_369 rfl rfl (KX12_at o_19) ?_
          refine a_I 488 331 dX12_looks_330 rfl rfl rfl rfl o_20 rfl ?_
          refine r_goto 336 dX12_looks_331 rfl ?_
          exact (Ex.at hJ_17 rfl (show [vI (M_1.1 85 0 (8 * (x5 + (M_1.1 55 0 r_3.toNat)) + x13).toNat), vI (if (if 60 < (x5 + (M_1.1 55 0 r_3.toNat)) then 0 else 1 : Int) = 0 then 0 else (if (if 60 < (x5 + (M_1.1 55 0 r_3.toNat)) then 0 else 1 : Int) = 0 then (if (M_1.1 86 0 (8 * 0 + x13).toNat) = 0 then 0 else 1 : Int) else (if (M_1.1 86 0 (8 * (x5 + (M_1.1 55 0 r_3.toNat)) + x13).toNat) = 0 then 0 else 1 : Int) : Int) : Int), vI x6, vR (some (3, 0))] = [vI (if (if 60 < (x5 + (M_1.1 55 0 r_3.toNat)) then 0 else 1 : Int) = 0 then (-2) else (M_1.1 85 0 (8 * (x5 + (M_1.1 55 0 r_3.toNat)) + x13).toNat) : Int), vI (if (if 60 < (x5 + (M_1.1 55 0 r_3.toNat)) then 0 else 1 : Int) = 0 then 0 else (if (if 60 < (x5 + (M_1.1 55 0 r_3.toNat)) then 0 else 1 : Int) = 0 then (if (M_1.1 86 0 (8 * 0 + x13).toNat) = 0 then 0 else 1 : Int) else (if (M_1.1 86 0 (8 * (x5 + (M_1.1 55 0 r_3.toNat)) + x13).toNat) = 0 then 0 else 1 : Int) : Int) : Int), vI x6, vR (some (3, 0))] by first | (simp only [if_neg c_18]; done) | contradiction) rfl)
      have h := h0
      refine r_if_eq 283 312 dX12_looks_280 rfl rfl (fun c => ?_) (fun c => ?_)
      · have c_9 := c
        refine r_iconst 313 dX12_looks_312 rfl (InR_of rfl) ?_
        exact (Ex.at hJ_8 rfl (show [vI 0, vI x6, vR (some (3, 0))] = [vI (if (if 60 < (x5 + (M_1.1 55 0 r_3.toNat)) then 0 else 1 : Int) = 0 then 0 else (if (if 60 < (x5 + (M_1.1 55 0 r_3.toNat)) then 0 else 1 : Int) = 0 then (if (M_1.1 86 0 (8 * 0 + x13).toNat) = 0 then 0 else 1 : Int) else (if (M_1.1 86 0 (8 * (x5 + (M_1.1 55 0 r_3.toNat)) + x13).toNat) = 0 then 0 else 1 : Int) : Int) : Int), vI x6, vR (some (3, 0))] by first | (simp only [if_pos c_9]; done) | contradiction) rfl)
      · have c_9 := c
        have h := h c_9
        refine r_aload_n 284 dX12_looks_283 rfl rfl ?_
        refine g_R 287 dX12_looks_284 rfl rfl rfl fr_12_126 (sh_12_52 hS) ?_
        refine r_aload_n 288 dX12_looks_287 rfl rfl ?_
        refine r_iload 290 dX12_looks_288 rfl rfl ?_
        refine r_if_eq 293 298 dX12_looks_290 rfl rfl (fun c => ?_) (fun c => ?_)
        · have c_10 := c
          have h := h.1 c_10
          obtain ⟨o_11, o_12⟩ := h
          refine r_iconst 299 dX12_looks_298 rfl (InR_of rfl) ?_
          refine r_iload 301 dX12_looks_299 rfl rfl ?_
          refine v_1 (ci := 12) (C := (RX12, TX12, 68)) [vI 0, vI x13] [vR (some (86, 0)), vI x6, vR (some (3, 0))] 304 dX12_looks_301 rfl rfl rfl rfl rfl mo_X12_at ml_12_369 rfl rfl (KX12_at o_11) ?_
          refine a_Z 488 305 dX12_looks_304 rfl rfl rfl rfl o_12 rfl ?_
          refine r_if_eq 308 312 dX12_looks_305 rfl rfl (fun c => ?_) (fun c => ?_)
          · have c_13 := c
            refine r_iconst 313 dX12_looks_312 rfl (InR_of rfl) ?_
            exact (Ex.at hJ_8 rfl (show [vI 0, vI x6, vR (some (3, 0))] = [vI (if (if 60 < (x5 + (M_1.1 55 0 r_3.toNat)) then 0 else 1 : Int) = 0 then 0 else (if (if 60 < (x5 + (M_1.1 55 0 r_3.toNat)) then 0 else 1 : Int) = 0 then (if (M_1.1 86 0 (8 * 0 + x13).toNat) = 0 then 0 else 1 : Int) else (if (M_1.1 86 0 (8 * (x5 + (M_1.1 55 0 r_3.toNat)) + x13).toNat) = 0 then 0 else 1 : Int) : Int) : Int), vI x6, vR (some (3, 0))] by first | (simp only [if_neg c_9, if_pos c_10, if_pos c_13]; done) | contradiction) rfl)
          · have c_13 := c
            refine r_iconst 309 dX12_looks_308 rfl (InR_of rfl) ?_
            refine r_goto 313 dX12_looks_309 rfl ?_
            exact (Ex.at hJ_8 rfl (show [vI 1, vI x6, vR (some (3, 0))] = [vI (if (if 60 < (x5 + (M_1.1 55 0 r_3.toNat)) then 0 else 1 : Int) = 0 then 0 else (if (if 60 < (x5 + (M_1.1 55 0 r_3.toNat)) then 0 else 1 : Int) = 0 then (if (M_1.1 86 0 (8 * 0 + x13).toNat) = 0 then 0 else 1 : Int) else (if (M_1.1 86 0 (8 * (x5 + (M_1.1 55 0 r_3.toNat)) + x13).toNat) = 0 then 0 else 1 : Int) : Int) : Int), vI x6, vR (some (3, 0))] by first | (simp only [if_neg c_9, if_pos c_10, if_neg c_13]; done) | contradiction) rfl)
        · have c_10 := c
          have h := h.2 c_10
          obtain ⟨o_14, o_15⟩ := h
          refine r_iload 295 dX12_looks_293 rfl rfl ?_
          refine r_goto 299 dX12_looks_295 rfl ?_
          refine r_iload 301 dX12_looks_299 rfl rfl ?_
          refine v_1 (ci := 12) (C := (RX12, TX12, 68)) [vI (x5 + (M_1.1 55 0 r_3.toNat)), vI x13] [vR (some (86, 0)), vI x6, vR (some (3, 0))] 304 dX12_looks_301 rfl rfl rfl rfl rfl mo_X12_at ml_12_369 rfl rfl (KX12_at o_14) ?_
          refine a_Z 488 305 dX12_looks_304 rfl rfl rfl rfl o_15 rfl ?_
          refine r_if_eq 308 312 dX12_looks_305 rfl rfl (fun c => ?_) (fun c => ?_)
          · have c_16 := c
            refine r_iconst 313 dX12_looks_312 rfl (InR_of rfl) ?_
            exact (Ex.at hJ_8 rfl (show [vI 0, vI x6, vR (some (3, 0))] = [vI (if (if 60 < (x5 + (M_1.1 55 0 r_3.toNat)) then 0 else 1 : Int) = 0 then 0 else (if (if 60 < (x5 + (M_1.1 55 0 r_3.toNat)) then 0 else 1 : Int) = 0 then (if (M_1.1 86 0 (8 * 0 + x13).toNat) = 0 then 0 else 1 : Int) else (if (M_1.1 86 0 (8 * (x5 + (M_1.1 55 0 r_3.toNat)) + x13).toNat) = 0 then 0 else 1 : Int) : Int) : Int), vI x6, vR (some (3, 0))] by first | (simp only [if_neg c_9, if_neg c_10, if_pos c_16]; done) | contradiction) rfl)
          · have c_16 := c
            refine r_iconst 309 dX12_looks_308 rfl (InR_of rfl) ?_
            refine r_goto 313 dX12_looks_309 rfl ?_
            exact (Ex.at hJ_8 rfl (show [vI 1, vI x6, vR (some (3, 0))] = [vI (if (if 60 < (x5 + (M_1.1 55 0 r_3.toNat)) then 0 else 1 : Int) = 0 then 0 else (if (if 60 < (x5 + (M_1.1 55 0 r_3.toNat)) then 0 else 1 : Int) = 0 then (if (M_1.1 86 0 (8 * 0 + x13).toNat) = 0 then 0 else 1 : Int) else (if (M_1.1 86 0 (8 * (x5 + (M_1.1 55 0 r_3.toNat)) + x13).toNat) = 0 then 0 else 1 : Int) : Int) : Int), vI x6, vR (some (3, 0))] by first | (simp only [if_neg c_9, if_neg c_10, if_neg c_16]; done) | contradiction) rfl)
    refine r_icmp_gt 268 272 dX12_looks_265 rfl rfl (fun c => ?_) (fun c => ?_)
    · have c_7 := c
      refine r_iconst 273 dX12_looks_272 rfl (InR_of rfl) ?_
      exact (Ex.at hJ_6 rfl (show [vI 0] = [vI (if 60 < (x5 + (M_1.1 55 0 r_3.toNat)) then 0 else 1 : Int)] by first | (simp only [if_pos c_7]; done) | contradiction) rfl)
    · have c_7 := c
      refine r_iconst 269 dX12_looks_268 rfl (InR_of rfl) ?_
      refine r_goto 273 dX12_looks_269 rfl ?_
      exact (Ex.at hJ_6 rfl (show [vI 1] = [vI (if 60 < (x5 + (M_1.1 55 0 r_3.toNat)) then 0 else 1 : Int)] by first | (simp only [if_neg c_7]; done) | contradiction) rfl)
  · have h := h.2 (c)
    refine r_aload_n 211 dX12_looks_210 rfl rfl ?_
    refine r_iload 213 dX12_looks_211 rfl rfl ?_
    refine r_iload 215 dX12_looks_213 rfl rfl ?_
    refine r_iload_n 216 dX12_looks_215 rfl rfl ?_
    have hJ_23 : Ex l G (d + 1) mX12_looks 224 [some (vR (some (3, 0))), some (vI x1), some (vI x2), some (vI x3), some (vI x4), some (vI x5), some (vI x6), some (vI x7), some (vI x8), some (vI x9), some (vI x10), some (vI x11), some (vI x12), some (vI x13), none, none] [vI (if x11 = x3 then 1 else 0 : Int), vI x6, vR (some (3, 0))] M r M' := by
      refine r_iload 226 dX12_looks_224 rfl rfl ?_
      refine r_iload_n 227 dX12_looks_226 rfl rfl ?_
      have hJ_25 : Ex l G (d + 1) mX12_looks 237 [some (vR (some (3, 0))), some (vI x1), some (vI x2), some (vI x3), some (vI x4), some (vI x5), some (vI x6), some (vI x7), some (vI x8), some (vI x9), some (vI x10), some (vI x11), some (vI x12), some (vI x13), none, none] [vI (if x11 = x3 then x5 else (-2) : Int), vI (if x11 = x3 then 1 else 0 : Int), vI x6, vR (some (3, 0))] M r M' := by
        obtain ⟨M_27, hc_28, h⟩ := h
        refine v_0 (ci := 12) (C := (RX12, TX12, 68)) [vI x6, vI (if x11 = x3 then 1 else 0 : Int), vI (if x11 = x3 then x5 else (-2) : Int)] [] 240 dX12_looks_237 rfl rfl rfl rfl rfl mo_X12_chooses ml_12_371 rfl rfl hc_28 ?_
        refine r_goto 339 dX12_looks_240 rfl ?_
        exact h
      refine r_icmp_ne 230 235 dX12_looks_227 rfl rfl (fun c => ?_) (fun c => ?_)
      · have c_26 := c
        refine r_bipush 237 dX12_looks_235 rfl rfl ?_
        exact (Ex.at hJ_25 rfl (show [vI (-2), vI (if x11 = x3 then 1 else 0 : Int), vI x6, vR (some (3, 0))] = [vI (if x11 = x3 then x5 else (-2) : Int), vI (if x11 = x3 then 1 else 0 : Int), vI x6, vR (some (3, 0))] by first | (simp only [if_neg c_26]; done) | contradiction) rfl)
      · have c_26 := Decidable.not_not.mp c
        refine r_iload 232 dX12_looks_230 rfl rfl ?_
        refine r_goto 237 dX12_looks_232 rfl ?_
        exact (Ex.at hJ_25 rfl (show [vI x5, vI (if x11 = x3 then 1 else 0 : Int), vI x6, vR (some (3, 0))] = [vI (if x11 = x3 then x5 else (-2) : Int), vI (if x11 = x3 then 1 else 0 : Int), vI x6, vR (some (3, 0))] by first | (simp only [if_pos c_26]; done) | contradiction) rfl)
    refine r_icmp_ne 219 223 dX12_looks_216 rfl rfl (fun c => ?_) (fun c => ?_)
    · have c_24 := c
      refine r_iconst 224 dX12_looks_223 rfl (InR_of rfl) ?_
      exact (Ex.at hJ_23 rfl (show [vI 0, vI x6, vR (some (3, 0))] = [vI (if x11 = x3 then 1 else 0 : Int), vI x6, vR (some (3, 0))] by first | (simp only [if_neg c_24]; done) | contradiction) rfl)
    · have c_24 := Decidable.not_not.mp c
      refine r_iconst 220 dX12_looks_219 rfl (InR_of rfl) ?_
      refine r_goto 224 dX12_looks_220 rfl ?_
      exact (Ex.at hJ_23 rfl (show [vI 1, vI x6, vR (some (3, 0))] = [vI (if x11 = x3 then 1 else 0 : Int), vI x6, vR (some (3, 0))] by first | (simp only [if_pos c_24]; done) | contradiction) rfl)
set_option maxRecDepth 4000 in
theorem xX12_looks_339 {l : Launch} {G : Gt} {d : Nat} {M M' : Mem} {r : Option Vl} {x1 : Int} {x2 : Int} {x3 : Int} {x4 : Int} {x5 : Int} {x6 : Int} {x7 : Int} {x8 : Int} {x9 : Int} {x10 : Int} {x11 : Int} {x12 : Int} {x13 : Int} (h : 
    (InR (x11 + 1)) ∧ Ex l G (d + 1) mX12_looks 101 [some (vR (some (3, 0))), some (vI x1), some (vI x2), some (vI x3), some (vI x4), some (vI x5), some (vI x6), some (vI x7), some (vI x8), some (vI x9), some (vI x10), some (vI (x11 + 1)), none, none, none, none] [] M r M') : Ex l G (d + 1) mX12_looks 339 [some (vR (some (3, 0))), some (vI x1), some (vI x2), some (vI x3), some (vI x4), some (vI x5), some (vI x6), some (vI x7), some (vI x8), some (vI x9), some (vI x10), some (vI x11), some (vI x12), some (vI x13), none, none] [] M r M' := by
  obtain ⟨o_1, h⟩ := h
  refine r_iinc (ls' := [some (vR (some (3, 0))), some (vI x1), some (vI x2), some (vI x3), some (vI x4), some (vI x5), some (vI x6), some (vI x7), some (vI x8), some (vI x9), some (vI x10), some (vI (x11 + 1)), some (vI x12), some (vI x13), none, none]) 342 dX12_looks_339 rfl rfl rfl rfl o_1 rfl ?_
  refine r_goto 101 dX12_looks_342 rfl ?_
  exact Ex.weak h ⟨rfl, rfl, rfl, rfl, rfl, rfl, rfl, rfl, rfl, rfl, rfl, rfl, trivial⟩

set_option maxRecDepth 4000 in
theorem xX12_sure_0 {l : Launch} {G : Gt} {d : Nat} {M M' : Mem} {r : Option Vl} {x1 : Int} {x2 : Int} {x3 : Int} {x4 : Int} {x5 : Int} {x6 : Int} (hS : Sh M.2.1) (h : 
    (InR ((M.1 48 0 0) - 1)) ∧ ((¬ (0 ≤ x1 ∧ x1 < (M.1 48 0 0)) → r = some (vI (-1)) ∧ M' = M) ∧ (0 ≤ x1 ∧ x1 < (M.1 48 0 0) → (InR ((M.1 3 0 33) - 1)) ∧ ((¬ (0 ≤ x2 ∧ x2 < (M.1 3 0 33)) → r = some (vI (-1)) ∧ M' = M) ∧ (0 ≤ x2 ∧ x2 < (M.1 3 0 33) → (InR ((M.1 48 0 0) - 1)) ∧ ((¬ (0 ≤ x3 ∧ x3 < (M.1 48 0 0)) → r = some (vI (-1)) ∧ M' = M) ∧ (0 ≤ x3 ∧ x3 < (M.1 48 0 0) → (x3 = x1 → r = some (vI (-1)) ∧ M' = M) ∧ (¬ (x3 = x1) → (¬ (0 ≤ x4 ∧ x4 < 8) → r = some (vI (-1)) ∧ M' = M) ∧ (0 ≤ x4 ∧ x4 < 8 → (¬ (0 ≤ x5 ∧ x5 ≤ 999) → r = some (vI (-1)) ∧ M' = M) ∧ (0 ≤ x5 ∧ x5 ≤ 999 → (0 ≤ x6 ∧ x6 ≤ 1 → ∃ (M_4 : Mem), Cl l G (d + 1) mX12_lays [vR (some (3, 0)), vI 0, vI x5] M none M_4 ∧ Ex l G (d + 2) mX12_sure 69 [some (vR (some (3, 0))), some (vI x1), some (vI x2), some (vI x3), some (vI x4), some (vI x5), some (vI x6), some (vI 60), none] [] M_4 r M') ∧ (¬ (0 ≤ x6 ∧ x6 ≤ 1) → r = some (vI (-1)) ∧ M' = M))))))))))) : Cl l G (d + 2) mX12_sure [vR (some (3, 0)), vI x1, vI x2, vI x3, vI x4, vI x5, vI x6] M r M' := by
  show Ex l G (d + 2) mX12_sure 0 [some (vR (some (3, 0))), some (vI x1), some (vI x2), some (vI x3), some (vI x4), some (vI x5), some (vI x6), none, none] [] M r M'
  obtain ⟨o_1, h⟩ := h
  refine r_aload_n 1 dX12_sure_0 rfl rfl ?_
  refine r_iload_n 2 dX12_sure_1 rfl rfl ?_
  refine v_1 (ci := 12) (C := (RX12, TX12, 68)) [vI x1] [] 5 dX12_sure_2 rfl rfl rfl rfl rfl mo_X12_isPerson ml_12_175 rfl rfl (KX12_isPerson hS o_1) ?_
  refine r_if_eq 8 56 dX12_sure_5 rfl rfl (fun c => ?_) (fun c => ?_)
  · have h := h.1 (b2_0.mp c)
    refine r_iconst 57 dX12_sure_56 rfl (InR_of rfl) ?_
    exact r_iret dX12_sure_57 rfl (.inl rfl) h.1 h.2
  · have h := h.2 (b2_1.mp c)
    obtain ⟨o_2, h⟩ := h
    refine r_aload_n 9 dX12_sure_8 rfl rfl ?_
    refine r_iload_n 10 dX12_sure_9 rfl rfl ?_
    refine v_1 (ci := 12) (C := (RX12, TX12, 68)) [vI x2] [] 13 dX12_sure_10 rfl rfl rfl rfl rfl mo_X12_isCover ml_12_331 rfl rfl (KX12_isCover o_2) ?_
    refine r_if_eq 16 56 dX12_sure_13 rfl rfl (fun c => ?_) (fun c => ?_)
    · have h := h.1 (b2_0.mp c)
      refine r_iconst 57 dX12_sure_56 rfl (InR_of rfl) ?_
      exact r_iret dX12_sure_57 rfl (.inl rfl) h.1 h.2
    · have h := h.2 (b2_1.mp c)
      obtain ⟨o_3, h⟩ := h
      refine r_aload_n 17 dX12_sure_16 rfl rfl ?_
      refine r_iload_n 18 dX12_sure_17 rfl rfl ?_
      refine v_1 (ci := 12) (C := (RX12, TX12, 68)) [vI x3] [] 21 dX12_sure_18 rfl rfl rfl rfl rfl mo_X12_isPerson ml_12_175 rfl rfl (KX12_isPerson hS o_3) ?_
      refine r_if_eq 24 56 dX12_sure_21 rfl rfl (fun c => ?_) (fun c => ?_)
      · have h := h.1 (b2_0.mp c)
        refine r_iconst 57 dX12_sure_56 rfl (InR_of rfl) ?_
        exact r_iret dX12_sure_57 rfl (.inl rfl) h.1 h.2
      · have h := h.2 (b2_1.mp c)
        refine r_iload_n 25 dX12_sure_24 rfl rfl ?_
        refine r_iload_n 26 dX12_sure_25 rfl rfl ?_
        refine r_icmp_eq 29 56 dX12_sure_26 rfl rfl (fun c => ?_) (fun c => ?_)
        · have h := h.1 (c)
          refine r_iconst 57 dX12_sure_56 rfl (InR_of rfl) ?_
          exact r_iret dX12_sure_57 rfl (.inl rfl) h.1 h.2
        · have h := h.2 (c)
          refine r_iload 31 dX12_sure_29 rfl rfl ?_
          refine c_1 [vI x4] [] 34 dX12_sure_31 rfl rfl mo_X12_isPlace ml_12_160 rfl rfl (KX12_isPlace) ?_
          refine r_if_eq 37 56 dX12_sure_34 rfl rfl (fun c => ?_) (fun c => ?_)
          · have h := h.1 (b2_0.mp c)
            refine r_iconst 57 dX12_sure_56 rfl (InR_of rfl) ?_
            exact r_iret dX12_sure_57 rfl (.inl rfl) h.1 h.2
          · have h := h.2 (b2_1.mp c)
            refine r_iload 39 dX12_sure_37 rfl rfl ?_
            refine c_1 [vI x5] [] 42 dX12_sure_39 rfl rfl mo_X12_isDay ml_12_170 rfl rfl (KX12_isDay) ?_
            refine r_if_eq 45 56 dX12_sure_42 rfl rfl (fun c => ?_) (fun c => ?_)
            · have h := h.1 (b2_0.mp c)
              refine r_iconst 57 dX12_sure_56 rfl (InR_of rfl) ?_
              exact r_iret dX12_sure_57 rfl (.inl rfl) h.1 h.2
            · have h := h.2 (b2_1.mp c)
              refine r_iload 47 dX12_sure_45 rfl rfl ?_
              refine r_i2l 48 dX12_sure_47 rfl ?_
              refine r_lconst (x := 0) 49 dX12_sure_48 rfl (by decide +kernel) (InR_of rfl) ?_
              refine r_lconst (x := 1) 50 dX12_sure_49 rfl (by decide +kernel) (InR_of rfl) ?_
              refine c_1 [vL x6, vL 0, vL 1] [] 53 dX12_sure_50 rfl rfl mo_X12_in ml_12_154 rfl rfl (KX12_in) ?_
              refine r_if_ne 56 58 dX12_sure_53 rfl rfl (fun c => ?_) (fun c => ?_)
              · have h := h.1 (b2_1.mp c)
                refine r_aload_n 59 dX12_sure_58 rfl rfl ?_
                refine r_iconst 60 dX12_sure_59 rfl (InR_of rfl) ?_
                refine r_iload 62 dX12_sure_60 rfl rfl ?_
                obtain ⟨M_4, hc_5, h⟩ := h
                refine v_0 (ci := 12) (C := (RX12, TX12, 68)) [vI 0, vI x5] [] 65 dX12_sure_62 rfl rfl rfl rfl rfl mo_X12_lays ml_12_198 rfl rfl hc_5 ?_
                refine r_bipush 67 dX12_sure_65 rfl rfl ?_
                refine r_istore (ls' := [some (vR (some (3, 0))), some (vI x1), some (vI x2), some (vI x3), some (vI x4), some (vI x5), some (vI x6), some (vI 60), none]) 69 dX12_sure_67 rfl rfl rfl rfl ?_
                exact h
              · have h := h.2 (b2_0.mp (Decidable.not_not.mp c))
                refine r_iconst 57 dX12_sure_56 rfl (InR_of rfl) ?_
                exact r_iret dX12_sure_57 rfl (.inl rfl) h.1 h.2
set_option maxRecDepth 4000 in
theorem xX12_sure_69 {l : Launch} {G : Gt} {d : Nat} {M M' : Mem} {r : Option Vl} {x1 : Int} {x2 : Int} {x3 : Int} {x4 : Int} {x5 : Int} {x6 : Int} {x7 : Int} (hS : Sh M.2.1) (h : 
    (x7 < 0 → ((¬ (x6 = 0) → ((InR (8 * 0) ∧ InR (8 * 0 + x4)) ∧ (0 ≤ (8 * 0 + x4) ∧ (8 * 0 + x4) < 488))) ∧ (x6 = 0 → ((InR (8 * 0) ∧ InR (8 * 0 + x4)) ∧ (0 ≤ (8 * 0 + x4) ∧ (8 * 0 + x4) < 488)))) ∧ r = some (vI (if x6 = 0 then (if (M.1 86 0 (8 * 0 + x4).toNat) = 0 then 0 else 1 : Int) else (M.1 85 0 (8 * 0 + x4).toNat) : Int)) ∧ M' = M) ∧ (¬ (x7 < 0) → (InR (x5 + x7)) ∧ (((¬ (999 < (x5 + x7)) → (InR (x5 + x7)))) ∧ (∃ (M_12 : Mem), Cl l G (d + 1) mX12_lays [vR (some (3, 0)), vI 1, vI (if 999 < (x5 + x7) then 999 else (x5 + x7) : Int)] M none M_12 ∧ Ex l G (d + 2) mX12_sure 104 [some (vR (some (3, 0))), some (vI x1), some (vI x2), some (vI x3), some (vI x4), some (vI x5), some (vI x6), some (vI x7), some (vI 0)] [] M_12 r M')))) : Ex l G (d + 2) mX12_sure 69 [some (vR (some (3, 0))), some (vI x1), some (vI x2), some (vI x3), some (vI x4), some (vI x5), some (vI x6), some (vI x7), none] [] M r M' := by
  refine r_iload 71 dX12_sure_69 rfl rfl ?_
  refine r_if_lt 74 134 dX12_sure_71 rfl rfl (fun c => ?_) (fun c => ?_)
  · have h := h.1 (c)
    refine r_iload 136 dX12_sure_134 rfl rfl ?_
    obtain ⟨h0, h⟩ := h
    have hJ_1 : Ex l G (d + 2) mX12_sure 174 [some (vR (some (3, 0))), some (vI x1), some (vI x2), some (vI x3), some (vI x4), some (vI x5), some (vI x6), some (vI x7), none] [vI (if x6 = 0 then (if (M.1 86 0 (8 * 0 + x4).toNat) = 0 then 0 else 1 : Int) else (M.1 85 0 (8 * 0 + x4).toNat) : Int)] M r M' := by
      exact r_iret dX12_sure_174 rfl (.inl rfl) h.1 h.2
    have h := h0
    refine r_if_ne 139 162 dX12_sure_136 rfl rfl (fun c => ?_) (fun c => ?_)
    · have c_2 := c
      have h := h.1 c_2
      obtain ⟨o_3, o_4⟩ := h
      refine r_aload_n 163 dX12_sure_162 rfl rfl ?_
      refine g_R 166 dX12_sure_163 rfl rfl rfl fr_12_123 (sh_12_51 hS) ?_
      refine r_aload_n 167 dX12_sure_166 rfl rfl ?_
      refine r_iconst 168 dX12_sure_167 rfl (InR_of rfl) ?_
      refine r_iload 170 dX12_sure_168 rfl rfl ?_
      refine v_1 (ci := 12) (C := (RX12, TX12, 68)) [vI 0, vI x4] [vR (some (85, 0))] 173 dX12_sure_170 rfl rfl rfl rfl rfl mo_X12_at ml_12_369 rfl rfl (KX12_at o_3) ?_
      refine a_I 488 174 dX12_sure_173 rfl rfl rfl rfl o_4 rfl ?_
      exact (Ex.at hJ_1 rfl (show [vI (M.1 85 0 (8 * 0 + x4).toNat)] = [vI (if x6 = 0 then (if (M.1 86 0 (8 * 0 + x4).toNat) = 0 then 0 else 1 : Int) else (M.1 85 0 (8 * 0 + x4).toNat) : Int)] by simp only [if_neg c_2]) rfl)
    · have c_2 := Decidable.not_not.mp c
      have h := h.2 c_2
      obtain ⟨o_5, o_6⟩ := h
      refine r_aload_n 140 dX12_sure_139 rfl rfl ?_
      refine g_R 143 dX12_sure_140 rfl rfl rfl fr_12_126 (sh_12_52 hS) ?_
      refine r_aload_n 144 dX12_sure_143 rfl rfl ?_
      refine r_iconst 145 dX12_sure_144 rfl (InR_of rfl) ?_
      refine r_iload 147 dX12_sure_145 rfl rfl ?_
      refine v_1 (ci := 12) (C := (RX12, TX12, 68)) [vI 0, vI x4] [vR (some (86, 0))] 150 dX12_sure_147 rfl rfl rfl rfl rfl mo_X12_at ml_12_369 rfl rfl (KX12_at o_5) ?_
      refine a_Z 488 151 dX12_sure_150 rfl rfl rfl rfl o_6 rfl ?_
      refine r_if_eq 154 158 dX12_sure_151 rfl rfl (fun c => ?_) (fun c => ?_)
      · have c_7 := c
        refine r_iconst 159 dX12_sure_158 rfl (InR_of rfl) ?_
        refine r_goto 174 dX12_sure_159 rfl ?_
        exact (Ex.at hJ_1 rfl (show [vI 0] = [vI (if x6 = 0 then (if (M.1 86 0 (8 * 0 + x4).toNat) = 0 then 0 else 1 : Int) else (M.1 85 0 (8 * 0 + x4).toNat) : Int)] by simp only [if_pos c_2, if_pos c_7]) rfl)
      · have c_7 := c
        refine r_iconst 155 dX12_sure_154 rfl (InR_of rfl) ?_
        refine r_goto 174 dX12_sure_155 rfl ?_
        exact (Ex.at hJ_1 rfl (show [vI 1] = [vI (if x6 = 0 then (if (M.1 86 0 (8 * 0 + x4).toNat) = 0 then 0 else 1 : Int) else (M.1 85 0 (8 * 0 + x4).toNat) : Int)] by simp only [if_pos c_2, if_neg c_7]) rfl)
  · have h := h.2 (c)
    obtain ⟨o_8, h⟩ := h
    refine r_aload_n 75 dX12_sure_74 rfl rfl ?_
    refine r_iconst 76 dX12_sure_75 rfl (InR_of rfl) ?_
    refine r_iload 78 dX12_sure_76 rfl rfl ?_
    refine r_iload 80 dX12_sure_78 rfl rfl ?_
    refine r_iadd 81 dX12_sure_80 rfl o_8 ?_
    refine r_sipush 84 dX12_sure_81 rfl rfl ?_
    obtain ⟨h0, h⟩ := h
    have hJ_9 : Ex l G (d + 2) mX12_sure 98 [some (vR (some (3, 0))), some (vI x1), some (vI x2), some (vI x3), some (vI x4), some (vI x5), some (vI x6), some (vI x7), none] [vI (if 999 < (x5 + x7) then 999 else (x5 + x7) : Int), vI 1, vR (some (3, 0))] M r M' := by
      obtain ⟨M_12, hc_13, h⟩ := h
      refine v_0 (ci := 12) (C := (RX12, TX12, 68)) [vI 1, vI (if 999 < (x5 + x7) then 999 else (x5 + x7) : Int)] [] 101 dX12_sure_98 rfl rfl rfl rfl rfl mo_X12_lays ml_12_198 rfl rfl hc_13 ?_
      refine r_iconst 102 dX12_sure_101 rfl (InR_of rfl) ?_
      refine r_istore (ls' := [some (vR (some (3, 0))), some (vI x1), some (vI x2), some (vI x3), some (vI x4), some (vI x5), some (vI x6), some (vI x7), some (vI 0)]) 104 dX12_sure_102 rfl rfl rfl rfl ?_
      exact h
    have h := h0
    refine r_icmp_gt 87 95 dX12_sure_84 rfl rfl (fun c => ?_) (fun c => ?_)
    · have c_10 := c
      refine r_sipush 98 dX12_sure_95 rfl rfl ?_
      exact (Ex.at hJ_9 rfl (show [vI 999, vI 1, vR (some (3, 0))] = [vI (if 999 < (x5 + x7) then 999 else (x5 + x7) : Int), vI 1, vR (some (3, 0))] by simp only [if_pos c_10]) rfl)
    · have c_10 := c
      have h := h c_10
      have o_11 := h
      refine r_iload 89 dX12_sure_87 rfl rfl ?_
      refine r_iload 91 dX12_sure_89 rfl rfl ?_
      refine r_iadd 92 dX12_sure_91 rfl o_11 ?_
      refine r_goto 98 dX12_sure_92 rfl ?_
      exact (Ex.at hJ_9 rfl (show [vI (x5 + x7), vI 1, vR (some (3, 0))] = [vI (if 999 < (x5 + x7) then 999 else (x5 + x7) : Int), vI 1, vR (some (3, 0))] by simp only [if_neg c_10]) rfl)
set_option maxRecDepth 4000 in
theorem xX12_sure_104 {l : Launch} {G : Gt} {d : Nat} {M M' : Mem} {r : Option Vl} {x1 : Int} {x2 : Int} {x3 : Int} {x4 : Int} {x5 : Int} {x6 : Int} {x7 : Int} {x8 : Int} (h : 
    (8 ≤ x8 → (InR (x7 + (-1))) ∧ Ex l G (d + 2) mX12_sure 69 [some (vR (some (3, 0))), some (vI x1), some (vI x2), some (vI x3), some (vI x4), some (vI x5), some (vI x6), some (vI (x7 + (-1))), none] [] M r M') ∧ (¬ (8 ≤ x8) → ∃ (M_2 : Mem), Cl l G (d + 1) mX12_looks [vR (some (3, 0)), vI x2, vI x1, vI x3, vI x8, vI x7] M none M_2 ∧ (InR (x8 + 1)) ∧ Ex l G (d + 2) mX12_sure 104 [some (vR (some (3, 0))), some (vI x1), some (vI x2), some (vI x3), some (vI x4), some (vI x5), some (vI x6), some (vI x7), some (vI (x8 + 1))] [] M_2 r M')) : Ex l G (d + 2) mX12_sure 104 [some (vR (some (3, 0))), some (vI x1), some (vI x2), some (vI x3), some (vI x4), some (vI x5), some (vI x6), some (vI x7), some (vI x8)] [] M r M' := by
  refine r_iload 106 dX12_sure_104 rfl rfl ?_
  refine r_bipush 108 dX12_sure_106 rfl rfl ?_
  refine r_icmp_ge 111 128 dX12_sure_108 rfl rfl (fun c => ?_) (fun c => ?_)
  · have h := h.1 (c)
    obtain ⟨o_1, h⟩ := h
    refine r_iinc (ls' := [some (vR (some (3, 0))), some (vI x1), some (vI x2), some (vI x3), some (vI x4), some (vI x5), some (vI x6), some (vI (x7 + (-1))), some (vI x8)]) 131 dX12_sure_128 rfl rfl rfl rfl o_1 rfl ?_
    refine r_goto 69 dX12_sure_131 rfl ?_
    exact Ex.weak h ⟨rfl, rfl, rfl, rfl, rfl, rfl, rfl, rfl, trivial⟩
  · have h := h.2 (c)
    refine r_aload_n 112 dX12_sure_111 rfl rfl ?_
    refine r_iload_n 113 dX12_sure_112 rfl rfl ?_
    refine r_iload_n 114 dX12_sure_113 rfl rfl ?_
    refine r_iload_n 115 dX12_sure_114 rfl rfl ?_
    refine r_iload 117 dX12_sure_115 rfl rfl ?_
    refine r_iload 119 dX12_sure_117 rfl rfl ?_
    obtain ⟨M_2, hc_3, h⟩ := h
    refine v_0 (ci := 12) (C := (RX12, TX12, 68)) [vI x2, vI x1, vI x3, vI x8, vI x7] [] 122 dX12_sure_119 rfl rfl rfl rfl rfl mo_X12_looks ml_12_375 rfl rfl hc_3 ?_
    obtain ⟨o_4, h⟩ := h
    refine r_iinc (ls' := [some (vR (some (3, 0))), some (vI x1), some (vI x2), some (vI x3), some (vI x4), some (vI x5), some (vI x6), some (vI x7), some (vI (x8 + 1))]) 125 dX12_sure_122 rfl rfl rfl rfl o_4 rfl ?_
    refine r_goto 104 dX12_sure_125 rfl ?_
    exact h

def fr5 (I I' : IM) : Prop := ∀ f k i, ¬ ((f = 82 ∨ f = 75 ∨ f = 85 ∨ f = 86) ∧ k = 0) → I' f k i = I f k i
theorem fr5.rf {I : IM} : fr5 I I := fun _ _ _ _ => rfl
theorem fr5.tr {I I' I'' : IM} (h : fr5 I I') (h' : fr5 I' I'') : fr5 I I'' := fun f k i hn => (h' f k i hn).trans (h f k i hn)
theorem fr5.m {I I' : IM} (h : fr5 I I') : frM I I' := fun f k i hn => h f k i fun c => hn (by unfold scr; omega)
theorem fr5.se {I : IM} {f : Nat} {g : Nat → Int} (h : f = 82 ∨ f = 75) : fr5 I (seI I f 0 g) := fun f' k i hn => by
  by_cases e : f' = f ∧ k = 0
  · exact absurd (by omega) hn
  · rw [seI_o e]
theorem fr5.up {I : IM} {f i : Nat} {v : Int} (h : f = 85 ∨ f = 86) : fr5 I (upI I f 0 i v) := fun f' k i' hn => by
  by_cases e : f' = f ∧ k = 0
  · exact absurd (by omega) hn
  · rw [upI_o e]
theorem Laid.fr5 {Q : QT} {I I' : IM} {row n : Nat} (h : Laid Q I row n) (hf : fr5 I I') : Laid Q I' row n := by
  refine ⟨fun p hp => ?_, fun p t hp ht => ?_, fun p hp => ?_⟩
  · rw [hf _ _ _ (by omega)]; exact h.1 p hp
  · rw [hf _ _ _ (by omega)]; exact h.2.1 p t hp ht
  · rw [hf _ _ _ (by omega)]; exact h.2.2 p hp
/-- soon and isSure are other at one place alone -/
def oth1 (I I' : IM) (fm : Nat) : Prop := ∀ i, i ≠ fm → I' 85 0 i = I 85 0 i ∧ I' 86 0 i = I 86 0 i
theorem oth1.rf {I : IM} {fm : Nat} : oth1 I I fm := fun _ _ => ⟨rfl, rfl⟩
theorem oth1.tr {I I' I'' : IM} {fm : Nat} (h : oth1 I I' fm) (h' : oth1 I' I'' fm) : oth1 I I'' fm := fun i hi => ⟨(h' i hi).1.trans (h i hi).1, (h' i hi).2.trans (h i hi).2⟩
theorem oth1.se {I : IM} {f fm : Nat} {g : Nat → Int} (h : f = 82 ∨ f = 75) : oth1 I (seI I f 0 g) fm := fun i _ => ⟨by rw [seI_fam (by omega)], by rw [seI_fam (by omega)]⟩
theorem oth1.up {I : IM} {f fm : Nat} {v : Int} (h : f = 85 ∨ f = 86) : oth1 I (upI I f 0 fm v) fm := fun i hi => by
  rcases h with rfl | rfl
  · exact ⟨by rw [upI_i hi], by rw [upI_o (by omega)]⟩
  · exact ⟨by rw [upI_o (by omega)], by rw [upI_i hi]⟩
def SI (I : IM) (a p : Nat) : Int := I 86 0 (8 * a + p)
def TI (I : IM) (a p : Nat) : Int := I 85 0 (8 * a + p)
section SR
variable {l : Launch} {G : Gt} {d : Nat} {Q : QT} {M : Mem}
/-- one choice more -/
def pck (J : IM) (fm : Nat) (any g x3 : Int) : IM := upI (upI (upI J 86 0 fm (if any = 0 then 1 else J 86 0 fm : Int)) 86 0 fm (if (if any = 0 then 1 else J 86 0 fm : Int) = 0 then 0 else (if g = 0 then 0 else 1 : Int) : Int)) 85 0 fm (if x3 < 0 then J 85 0 fm else (if J 85 0 fm < 0 then x3 else (if J 85 0 fm ≤ x3 then J 85 0 fm else x3 : Int) : Int) : Int)
theorem pck_f {J : IM} {fm : Nat} {any g x3 : Int} : fr5 J (pck J fm any g x3) := ((fr5.up (.inr rfl)).tr (fr5.up (.inr rfl))).tr (fr5.up (.inl rfl))
theorem pck_o {J : IM} {fm : Nat} {any g x3 : Int} : oth1 J (pck J fm any g x3) fm := ((oth1.up (.inr rfl)).tr (oth1.up (.inr rfl))).tr (oth1.up (.inl rfl))
theorem pck_86 {J : IM} {fm : Nat} {any g x3 : Int} : pck J fm any g x3 86 0 fm = (if (if any = 0 then 1 else J 86 0 fm : Int) = 0 then 0 else (if g = 0 then 0 else 1 : Int) : Int) := by
  unfold pck
  rw [upI_o (show ¬ (86 = 85 ∧ 0 = 0) by omega), upI_s]
theorem pck_85 {J : IM} {fm : Nat} {any g x3 : Int} : pck J fm any g x3 85 0 fm = (if x3 < 0 then J 85 0 fm else (if J 85 0 fm < 0 then x3 else (if J 85 0 fm ≤ x3 then J 85 0 fm else x3 : Int) : Int) : Int) := by
  unfold pck
  rw [upI_s]
theorem KX12_chooses {J : IM} {R : RM} {C : Ct} {x1 any g x3 : Int} {fm : Nat} (hS : Sh R) (h : 0 ≤ x1 ∧ x1 < 488) (hfm : x1.toNat = fm) : Cl l G d mX12_chooses [vR (some (3, 0)), vI x1, vI g, vI x3] (upI J 86 0 fm (if any = 0 then 1 else J 86 0 fm : Int), R, C) none (pck J fm any g x3, R, C) := by
  refine xX12_chooses_0 (M := (upI J 86 0 fm (if any = 0 then 1 else J 86 0 fm : Int), R, C)) hS ?_
  dsimp only
  rw [hfm]
  have e6 : upI J 86 0 fm (if any = 0 then 1 else J 86 0 fm : Int) 86 0 fm = (if any = 0 then 1 else J 86 0 fm : Int) := upI_s
  have e5 : upI J 86 0 fm (if any = 0 then 1 else J 86 0 fm : Int) 85 0 fm = J 85 0 fm := by rw [upI_o (by omega)]
  simp only [e6, e5]
  exact ⟨h, ⟨h, by (repeat' split) <;> omega⟩, ⟨fun _ => h, fun _ => ⟨h, fun _ => ⟨h, fun _ => h⟩⟩⟩, h, trivial, rfl⟩
theorem look_step {n1 s cv place a k r : Nat} {who any : Int} {st : Nat → Bool} {I : IM} (hS : Sh M.2.1) (hq : WFQ Q) (hH : HoldsM Q M.1) (h1 : n1 ≤ nCh Q) (hL : Laid Q M.1 1 n1) (hpl : place < 8) (ha : a ≤ 60) (hs01 : ∀ v : Nat, v < 8 → rd Q (place : Int) (v : Int) ≤ 9 → 1 ≤ rd Q (place : Int) (v : Int) → (a : Int) + rd Q (place : Int) (v : Int) ≤ 60 → SI M.1 (a + (rd Q (place : Int) (v : Int)).toNat) v = 0 ∨ SI M.1 (a + (rd Q (place : Int) (v : Int)).toNat) v = 1) (hk : k < nPp Q) (hf : fr5 M.1 I) (ho : oth1 M.1 I (8 * a + place)) (hi : LkI Q n1 place a st who (SI M.1) (TI M.1) k any (I 86 0 (8 * a + place)) (I 85 0 (8 * a + place))) :
    ∃ any' I', fr5 M.1 I' ∧ oth1 M.1 I' (8 * a + place) ∧ LkI Q n1 place a st who (SI M.1) (TI M.1) (k + 1) any' (I' 86 0 (8 * a + place)) (I' 85 0 (8 * a + place)) ∧ ∀ res M', Ex l G (d + 3) mX12_looks 101 [some (vR (some (3, 0))), some (vI (cv : Int)), some (vI (s : Int)), some (vI who), some (vI (place : Int)), some (vI (a : Int)), some (vI (8 * (a : Int) + (place : Int))), some (vI (bI 12 (fun p => decide (p < nPp Q ∧ plF Q n1 p = place)))), some (vI (r : Int)), some (vI (bI 12 st)), some (vI any'), some (vI ((k : Int) + 1)), none, none, none, none] [] (I', M.2.1, M.2.2) res M' → Ex l G (d + 3) mX12_looks 101 [some (vR (some (3, 0))), some (vI (cv : Int)), some (vI (s : Int)), some (vI who), some (vI (place : Int)), some (vI (a : Int)), some (vI (8 * (a : Int) + (place : Int))), some (vI (bI 12 (fun p => decide (p < nPp Q ∧ plF Q n1 p = place)))), some (vI (r : Int)), some (vI (bI 12 st)), some (vI any), some (vI (k : Int)), none, none, none, none] [] (I, M.2.1, M.2.2) res M' := by
  have h12 := nPp_le hq.1
  have hHI := hH.fr hf.m
  have e1 : I 48 0 0 = (nPp Q : Int) := mppl_eq (M := (I, M.2.1, M.2.2)) hq.1 hHI
  have hle : ¬ (I 48 0 0 ≤ (k : Int)) := by rw [e1]; omega
  have t9 : tb (bI 12 st) (k : Int) = st k := by rw [tb_bI (by omega)]; simp [show k < 12 by omega]
  have t7 : tb (bI 12 (fun p => decide (p < nPp Q ∧ plF Q n1 p = place))) (k : Int) = decide (plF Q n1 k = (place : Int)) := by rw [tb_bI (by omega)]; simp [hk, show k < 12 by omega]
  have n7 : 0 ≤ bI 12 (fun p => decide (p < nPp Q ∧ plF Q n1 p = place)) := bI_nn
  have n9 : 0 ≤ bI 12 st := bI_nn
  have i1 : InR ((k : Int) + 1) := by unfold InR; omega
  have b7 : (0 ≤ bI 12 (fun p => decide (p < nPp Q ∧ plF Q n1 p = place)) ∧ 0 ≤ (k : Int) ∧ (k : Int) < 32) := by omega
  have b9 : (0 ≤ bI 12 st ∧ 0 ≤ (k : Int) ∧ (k : Int) < 32) := by omega
  have hfm : (8 * (a : Int) + (place : Int)).toNat = 8 * a + place := by omega
  have b6 : 0 ≤ 8 * (a : Int) + (place : Int) ∧ 8 * (a : Int) + (place : Int) < 488 := by omega
  have w86 : (if any = 0 then 1 else I 86 0 (8 * a + place) : Int) = 0 ∨ (if any = 0 then 1 else I 86 0 (8 * a + place) : Int) = 1 := by
    have := hi.2.1
    split <;> omega
  cases es : st k with
  | false =>
    have hs9 : ¬ tb (bI 12 st) (k : Int) = true := by rw [t9, es]; simp
    refine ⟨any, I, hf, ho, hi.skip (fun x => by have := x.1; rw [es] at this; cases this) (fun v _ x => by have := x.1; rw [es] at this; cases this), fun res M' hx => xX12_looks_101 hS ⟨fun c => absurd c hle, fun _ => ⟨⟨b7, b9⟩, fun _ => xX12_looks_158 hS ⟨b9, fun _ => xX12_looks_339 ⟨i1, hx⟩, fun c => absurd c hs9⟩, fun c => absurd c hs9⟩⟩⟩
  | true =>
    have hs9 : tb (bI 12 st) (k : Int) = true := by rw [t9, es]
    by_cases ch : plF Q n1 k = (place : Int)
    · have ht : tb (bI 12 (fun p => decide (p < nPp Q ∧ plF Q n1 p = place))) (k : Int) = true := by rw [t7]; exact decide_eq_true ch
      have hx12 : ¬ (if tb (bI 12 (fun p => decide (p < nPp Q ∧ plF Q n1 p = place))) (k : Int) = true then 1 else 0 : Int) = 0 := by rw [if_pos ht]; omega
      have kc := KX12_chooses (l := l) (G := G) (d := d + 2) (J := I) (R := M.2.1) (C := M.2.2) (any := any) (g := (if (k : Int) = who then 1 else 0 : Int)) (x3 := (if (k : Int) = who then (a : Int) else (-2) : Int)) hS b6 hfm
      refine ⟨1, pck I (8 * a + place) any (if (k : Int) = who then 1 else 0 : Int) (if (k : Int) = who then (a : Int) else (-2) : Int), hf.tr pck_f, ho.tr pck_o, ?_, fun res M' hx => xX12_looks_101 hS ⟨fun c => absurd c hle, fun _ => ⟨⟨b7, b9⟩, fun c => absurd hs9 c, fun _ => ⟨fun _ => xX12_looks_158 (M := (I, M.2.1, M.2.2)) hS ?_, fun c => absurd ht c⟩⟩⟩⟩
      · rw [pck_86, pck_85]
        exact hi.here ⟨es, ch⟩
      · dsimp only
        rw [hfm]
        exact ⟨b9, fun c => absurd hs9 c, fun _ => ⟨fun _ => ⟨fun _ => b6, ⟨b6, w86⟩, xX12_looks_205 (M := (upI I 86 0 (8 * a + place) (if any = 0 then 1 else I 86 0 (8 * a + place) : Int), M.2.1, M.2.2)) hS ⟨fun c => absurd c hx12, fun _ => ⟨_, kc, xX12_looks_339 ⟨i1, hx⟩⟩⟩⟩, fun c => absurd c hx12⟩⟩
    · have ht : ¬ tb (bI 12 (fun p => decide (p < nPp Q ∧ plF Q n1 p = place))) (k : Int) = true := by rw [t7]; simp [ch]
      have hx12 : (if tb (bI 12 (fun p => decide (p < nPp Q ∧ plF Q n1 p = place))) (k : Int) = true then 1 else 0 : Int) = 0 := by rw [if_neg ht]
      have hpk := plF_in hq.1 n1 k h1 (by omega)
      have ep : I 73 0 (12 + (k : Int)).toNat = plF Q n1 k := by
        rw [show (12 + (k : Int)).toNat = 12 * 1 + k by omega]
        exact (hL.fr5 hf).2.2 k (by omega)
      have kn := KX12_nextTo (l := l) (G := G) (d := d + 1) (M := (I, M.2.1, M.2.2)) (a := place) (b := (plF Q n1 k).toNat) hS hq.2.1 hHI.2.2.1 hpl (by omega)
      rw [show (((plF Q n1 k).toNat : Nat) : Int) = plF Q n1 k by omega] at kn
      have hf2 : fr5 M.1 (seI I 75 0 (farT Q (plF Q n1 k).toNat (I 75 0))) := hf.tr (fr5.se (.inr rfl))
      have ho2 : oth1 M.1 (seI I 75 0 (farT Q (plF Q n1 k).toNat (I 75 0))) (8 * a + place) := ho.tr (oth1.se (.inr rfl))
      have g86 : ∀ i, seI I 75 0 (farT Q (plF Q n1 k).toNat (I 75 0)) 86 0 i = I 86 0 i := fun i => by rw [seI_fam (by omega)]
      have g85 : ∀ i, seI I 75 0 (farT Q (plF Q n1 k).toNat (I 75 0)) 85 0 i = I 85 0 i := fun i => by rw [seI_fam (by omega)]
      unfold spM at kn
      dsimp only at kn
      generalize hJ : seI I 75 0 (farT Q (plF Q n1 k).toNat (I 75 0)) = J at kn hf2 ho2 g86 g85
      have b12 : InR (12 + (k : Int)) ∧ (0 ≤ (12 + (k : Int)) ∧ (12 + (k : Int)) < 24) := ⟨by unfold InR; omega, by omega⟩
      rcases nx_or Q place (plF Q n1 k).toNat with en | ⟨v, hv, en, hr0⟩
      · refine ⟨any, J, hf2, ho2, ?_, fun res M' hx => xX12_looks_101 hS ⟨fun c => absurd c hle, fun _ => ⟨⟨b7, b9⟩, fun c => absurd hs9 c, fun _ => ⟨fun c => absurd c ht, fun _ => ⟨b12, nx Q place (plF Q n1 k).toNat, (J, M.2.1, M.2.2), ?_, xX12_looks_158 (M := (J, M.2.1, M.2.2)) hS ⟨b9, fun c => absurd hs9 c, fun _ => ⟨fun c => absurd hx12 c, fun _ => ⟨fun _ => xX12_looks_339 ⟨i1, hx⟩, fun c => absurd en c⟩⟩⟩⟩⟩⟩⟩⟩
        · rw [g86, g85]
          exact hi.skip (fun x => ch x.2) (fun v _ x => by have := x.2.2; omega)
        · dsimp only
          rw [ep]
          exact kn
      · have hrd := rd_in hq.2.1 (place : Int) (v : Int)
        have hG1 : hG Q n1 place st k v := ⟨es, ch, en⟩
        have nm1 : ¬ nx Q place (plF Q n1 k).toNat = -1 := by omega
        obtain ⟨j, hj1, hj2, hj3, hj4⟩ : ∃ j : Nat, j < 16 ∧ roI Q (place : Int) (v : Int) = (j : Int) ∧ rd Q (place : Int) (v : Int) = Q 55 j ∧ 1 ≤ rd Q (place : Int) (v : Int) := by
          rcases ro_or hq.2.1 (place : Int) (v : Int) with ⟨_, x⟩ | x
          · exact absurd x hr0
          · exact x
        have hf3 : fr5 M.1 (upI J 86 0 (8 * a + place) (if any = 0 then 1 else J 86 0 (8 * a + place) : Int)) := hf2.tr (fr5.up (.inr rfl))
        have kr := KX12_roadOf (l := l) (G := G) (d := d + 2) (M := (upI J 86 0 (8 * a + place) (if any = 0 then 1 else J 86 0 (8 * a + place) : Int), M.2.1, M.2.2)) (a := (place : Int)) (b := (v : Int)) hS hq.2.1 (hH.fr hf3.m).2.2.1
        rw [hj2] at kr
        have e55 : upI J 86 0 (8 * a + place) (if any = 0 then 1 else J 86 0 (8 * a + place) : Int) 55 0 (j : Int).toNat = rd Q (place : Int) (v : Int) := by
          rw [Int.toNat_natCast, hj3]
          exact (hH.fr hf3.m).2.2.1 _ j (by omega)
        have eX : ((a : Int) + rd Q (place : Int) (v : Int)) = ((a + (rd Q (place : Int) (v : Int)).toNat : Nat) : Int) := by omega
        have eI : (8 * ((a : Int) + rd Q (place : Int) (v : Int)) + (v : Int)).toNat = 8 * (a + (rd Q (place : Int) (v : Int)).toNat) + v := by omega
        have r86 : upI J 86 0 (8 * a + place) (if any = 0 then 1 else J 86 0 (8 * a + place) : Int) 86 0 (8 * (a + (rd Q (place : Int) (v : Int)).toNat) + v) = SI M.1 (a + (rd Q (place : Int) (v : Int)).toNat) v := by
          rw [upI_i (by omega)]
          exact (ho2 _ (by omega)).2
        have r85 : upI J 86 0 (8 * a + place) (if any = 0 then 1 else J 86 0 (8 * a + place) : Int) 85 0 (8 * (a + (rd Q (place : Int) (v : Int)).toNat) + v) = TI M.1 (a + (rd Q (place : Int) (v : Int)).toNat) v := by
          rw [upI_o (by omega)]
          exact (ho2 _ (by omega)).1
        obtain ⟨W, hW⟩ : ∃ W, W = upI J 86 0 (8 * a + place) (if any = 0 then 1 else J 86 0 (8 * a + place) : Int) := ⟨_, rfl⟩
        rw [← hW] at kr e55 r86 r85
        obtain ⟨g, hg⟩ : ∃ g, g = (if (if 60 < (a : Int) + rd Q (place : Int) (v : Int) then 0 else 1 : Int) = 0 then 0 else (if (if 60 < (a : Int) + rd Q (place : Int) (v : Int) then 0 else 1 : Int) = 0 then (if W 86 0 (8 * 0 + (v : Int)).toNat = 0 then 0 else 1 : Int) else (if SI M.1 (a + (rd Q (place : Int) (v : Int)).toNat) v = 0 then 0 else 1 : Int) : Int) : Int) := ⟨_, rfl⟩
        obtain ⟨x3, hx3⟩ : ∃ x3, x3 = (if (if 60 < (a : Int) + rd Q (place : Int) (v : Int) then 0 else 1 : Int) = 0 then (-2) else TI M.1 (a + (rd Q (place : Int) (v : Int)).toNat) v : Int) := ⟨_, rfl⟩
        have kc := KX12_chooses (l := l) (G := G) (d := d + 2) (J := J) (R := M.2.1) (C := M.2.2) (any := any) (g := g) (x3 := x3) hS b6 hfm
        rw [← hW] at kc
        have hg1 : ¬ g = 0 ↔ (a : Int) + rd Q (place : Int) (v : Int) ≤ 60 ∧ SI M.1 (a + (rd Q (place : Int) (v : Int)).toNat) v = 1 := by
          by_cases c6 : 60 < (a : Int) + rd Q (place : Int) (v : Int)
          · rw [if_pos c6, if_pos rfl] at hg
            exact ⟨fun x => absurd hg x, fun x => by omega⟩
          · rw [if_neg c6, if_neg (by omega), if_neg (by omega)] at hg
            have h01 := hs01 v hv hrd.2 hj4 (by omega)
            rw [hg]
            split
            · rename_i c7; exact ⟨fun x => absurd rfl x, fun x => by omega⟩
            · exact ⟨fun _ => ⟨by omega, by omega⟩, fun _ => by omega⟩
        have hx31 : x3 = if (a : Int) + rd Q (place : Int) (v : Int) ≤ 60 then TI M.1 (a + (rd Q (place : Int) (v : Int)).toNat) v else -2 := by
          rw [hx3]
          by_cases c6 : 60 < (a : Int) + rd Q (place : Int) (v : Int)
          · rw [if_pos c6, if_pos rfl, if_neg (by omega)]
          · rw [if_neg c6, if_neg (by omega), if_pos (by omega)]
        refine ⟨1, pck J (8 * a + place) any g x3, hf2.tr pck_f, ho2.tr pck_o, ?_, fun res M' hx => xX12_looks_101 hS ⟨fun c => absurd c hle, fun _ => ⟨⟨b7, b9⟩, fun c => absurd hs9 c, fun _ => ⟨fun c => absurd c ht, fun _ => ⟨b12, nx Q place (plF Q n1 k).toNat, (J, M.2.1, M.2.2), ?_, xX12_looks_158 (M := (J, M.2.1, M.2.2)) hS ?_⟩⟩⟩⟩⟩
        · rw [pck_86, pck_85, g86, g85]
          exact hi.goes hv hG1 hg1 hx31
        · dsimp only
          rw [ep]
          exact kn
        · dsimp only
          rw [hfm, ← hW, en]
          have w86' : (if any = 0 then 1 else J 86 0 (8 * a + place) : Int) = 0 ∨ (if any = 0 then 1 else J 86 0 (8 * a + place) : Int) = 1 := by rw [g86]; exact w86
          refine ⟨b9, fun c => absurd hs9 c, fun _ => ⟨fun c => absurd hx12 c, fun _ => ⟨fun c => by omega, fun _ => ⟨fun _ => b6, ⟨b6, w86'⟩, xX12_looks_205 (M := (W, M.2.1, M.2.2)) hS ⟨fun _ => ⟨(j : Int), (W, M.2.1, M.2.2), kr, hS, ?_⟩, fun c => absurd hx12 c⟩⟩⟩⟩⟩
          dsimp only
          simp only [e55, eI, r86, r85]
          rw [← hg, ← hx3]
          have hc : ¬ (if 60 < (a : Int) + rd Q (place : Int) (v : Int) then 0 else 1 : Int) = 0 → (a : Int) + rd Q (place : Int) (v : Int) ≤ 60 := fun c => by
            by_cases c6 : 60 < (a : Int) + rd Q (place : Int) (v : Int)
            · rw [if_pos c6] at c; exact absurd rfl c
            · omega
          have hb : ¬ (if 60 < (a : Int) + rd Q (place : Int) (v : Int) then 0 else 1 : Int) = 0 → (InR (8 * ((a : Int) + rd Q (place : Int) (v : Int))) ∧ InR (8 * ((a : Int) + rd Q (place : Int) (v : Int)) + (v : Int))) ∧ 0 ≤ 8 * ((a : Int) + rd Q (place : Int) (v : Int)) + (v : Int) ∧ 8 * ((a : Int) + rd Q (place : Int) (v : Int)) + (v : Int) < 488 := fun c => by
            have := hc c
            exact ⟨⟨by unfold InR; omega, by unfold InR; omega⟩, by omega⟩
          exact ⟨⟨by omega, by unfold InR; omega⟩, fun c => ⟨fun c' => absurd c' c, fun _ => hb c⟩, hb, _, kc, xX12_looks_339 ⟨i1, hx⟩⟩
theorem look_all {n1 s cv place a r : Nat} {who : Int} {st : Nat → Bool} (hS : Sh M.2.1) (hq : WFQ Q) (hH : HoldsM Q M.1) (h1 : n1 ≤ nCh Q) (hL : Laid Q M.1 1 n1) (hpl : place < 8) (ha : a ≤ 60) (hs01 : ∀ v : Nat, v < 8 → rd Q (place : Int) (v : Int) ≤ 9 → 1 ≤ rd Q (place : Int) (v : Int) → (a : Int) + rd Q (place : Int) (v : Int) ≤ 60 → SI M.1 (a + (rd Q (place : Int) (v : Int)).toNat) v = 0 ∨ SI M.1 (a + (rd Q (place : Int) (v : Int)).toNat) v = 1) :
    ∀ n k : Nat, n + k = nPp Q → ∀ any I, fr5 M.1 I → oth1 M.1 I (8 * a + place) → LkI Q n1 place a st who (SI M.1) (TI M.1) k any (I 86 0 (8 * a + place)) (I 85 0 (8 * a + place)) → ∃ any' I', fr5 M.1 I' ∧ oth1 M.1 I' (8 * a + place) ∧ LkI Q n1 place a st who (SI M.1) (TI M.1) (nPp Q) any' (I' 86 0 (8 * a + place)) (I' 85 0 (8 * a + place)) ∧ ∀ res M', Ex l G (d + 3) mX12_looks 101 [some (vR (some (3, 0))), some (vI (cv : Int)), some (vI (s : Int)), some (vI who), some (vI (place : Int)), some (vI (a : Int)), some (vI (8 * (a : Int) + (place : Int))), some (vI (bI 12 (fun p => decide (p < nPp Q ∧ plF Q n1 p = place)))), some (vI (r : Int)), some (vI (bI 12 st)), some (vI any'), some (vI (nPp Q : Int)), none, none, none, none] [] (I', M.2.1, M.2.2) res M' → Ex l G (d + 3) mX12_looks 101 [some (vR (some (3, 0))), some (vI (cv : Int)), some (vI (s : Int)), some (vI who), some (vI (place : Int)), some (vI (a : Int)), some (vI (8 * (a : Int) + (place : Int))), some (vI (bI 12 (fun p => decide (p < nPp Q ∧ plF Q n1 p = place)))), some (vI (r : Int)), some (vI (bI 12 st)), some (vI any), some (vI (k : Int)), none, none, none, none] [] (I, M.2.1, M.2.2) res M' := by
  intro n
  induction n with
  | zero =>
    intro k hk any I hf ho hi
    have ek : k = nPp Q := by omega
    subst ek
    exact ⟨any, I, hf, ho, hi, fun res M' hx => hx⟩
  | succ n ih =>
    intro k hk any I hf ho hi
    obtain ⟨any1, I1, a1, a2, a3, a4⟩ := look_step (l := l) (G := G) (d := d) (s := s) (cv := cv) (r := r) hS hq hH h1 hL hpl ha hs01 (show k < nPp Q by omega) hf ho hi
    obtain ⟨any2, I2, b1, b2, b3, b4⟩ := ih (k + 1) (by omega) any1 I1 a1 a2 a3
    exact ⟨any2, I2, b1, b2, b3, fun res M' hx => a4 res M' (b4 res M' hx)⟩
theorem sT_b {n n1 s cv r : Nat} (hr : r < 12) : (if tb (bI 12 (fitS Q n s (snF Q n1 r) cv)) (r : Int) = true then aShl 1 (r : Int) else bI 12 (fitS Q n s (snF Q n1 r) cv) : Int) = bI 12 (sT Q n n1 s cv r) := by
  rw [tb_bI (by omega)]
  by_cases c : fitS Q n s (snF Q n1 r) cv r = true
  · rw [c, if_pos (by simp [hr]), bI_one (n := 12) (by omega) hr]
    exact bI_ext fun i _ => by unfold sT; rw [if_pos c]
  · rw [if_neg (by simp [c])]
    exact bI_ext fun i _ => by unfold sT; rw [if_neg c]
theorem KX12_looks {n0 n1 n s cv place a : Nat} {who : Int} (hS : Sh M.2.1) (hq : WFQ Q) (hH : HoldsM Q M.1) (h0 : n0 ≤ nCh Q) (h1 : n1 ≤ nCh Q) (hen : n = if Q 84 cv = 0 then n0 else n1) (hL0 : Laid Q M.1 0 n0) (hL : Laid Q M.1 1 n1) (hc : cv < nCv Q) (hs : s < nPp Q) (hpl : place < 8) (ha : a ≤ 60) (hs01 : ∀ v : Nat, v < 8 → rd Q (place : Int) (v : Int) ≤ 9 → 1 ≤ rd Q (place : Int) (v : Int) → (a : Int) + rd Q (place : Int) (v : Int) ≤ 60 → SI M.1 (a + (rd Q (place : Int) (v : Int)).toNat) v = 0 ∨ SI M.1 (a + (rd Q (place : Int) (v : Int)).toNat) v = 1) :
    ∃ I', Cl l G (d + 3) mX12_looks [vR (some (3, 0)), vI (cv : Int), vI (s : Int), vI who, vI (place : Int), vI (a : Int)] M none (I', M.2.1, M.2.2) ∧ fr5 M.1 I' ∧ oth1 M.1 I' (8 * a + place) ∧ (SI I' a place = 0 ∨ SI I' a place = 1) ∧ (SI I' a place = 1 ↔ gdS Q (opF Q n n1 s cv place) (ntF Q n n1 s cv place) who (SI M.1) a place) ∧ miT (elT Q (opF Q n n1 s cv place) (ntF Q n n1 s cv place) who (TI M.1) a place) (TI I' a place) := by
  have h12 := nPp_le hq.1
  have hV := hq.2.2.2.2
  have hn8 : nCv Q ≤ 8 := by have := hV.1; unfold nCv; omega
  have ks := KX12_standing (l := l) (G := G) (d := d + 2) (row := 1) (a := place) hS hq.1 hH.1 hL (by omega)
  have hfm : (8 * (a : Int) + (place : Int)).toNat = 8 * a + place := by omega
  have key : ∀ m r : Nat, m + r = nPp Q → ∀ I, fr5 M.1 I → oth1 M.1 I (8 * a + place) → I 86 0 (8 * a + place) = 0 → I 85 0 (8 * a + place) = -2 → (∀ r', r' < r → plF Q n1 r' = (place : Int) → ¬ anyS Q n1 place (sT Q n n1 s cv r') (nPp Q)) → ∃ I', Ex l G (d + 3) mX12_looks 39 [some (vR (some (3, 0))), some (vI (cv : Int)), some (vI (s : Int)), some (vI who), some (vI (place : Int)), some (vI (a : Int)), some (vI (8 * (a : Int) + (place : Int))), some (vI (bI 12 (fun p => decide (p < nPp Q ∧ plF Q n1 p = place)))), some (vI (r : Int)), none, none, none, none, none, none, none] [] (I, M.2.1, M.2.2) none (I', M.2.1, M.2.2) ∧ fr5 M.1 I' ∧ oth1 M.1 I' (8 * a + place) ∧ (SI I' a place = 0 ∨ SI I' a place = 1) ∧ (SI I' a place = 1 ↔ gdS Q (opF Q n n1 s cv place) (ntF Q n n1 s cv place) who (SI M.1) a place) ∧ miT (elT Q (opF Q n n1 s cv place) (ntF Q n n1 s cv place) who (TI M.1) a place) (TI I' a place) := by
    intro m
    induction m with
    | zero =>
      intro r hr I hf ho i6 i5 hno
      have e1 : I 48 0 0 = (nPp Q : Int) := mppl_eq (M := (I, M.2.1, M.2.2)) hq.1 (hH.fr hf.m)
      obtain ⟨z1, z2⟩ := no_rg (Q := Q) (n1 := n1) (place := place) (a := a) (who := who) (S := SI M.1) (T := TI M.1) (n := n) (s := s) (cv := cv) (fun r' hr' => hno r' (by have := hr'.1; omega) hr'.2.1 hr'.2.2.1)
      have f6 : SI I a place = 0 := i6
      have f5 : TI I a place = -2 := i5
      refine ⟨I, xX12_looks_39 hS ⟨fun _ => ⟨rfl, rfl⟩, fun c => absurd (show I 48 0 0 ≤ (r : Int) by omega) c⟩, hf, ho, .inl f6, ?_, ?_⟩
      · rw [f6]; exact z1
      · rw [f5]; exact z2
    | succ m ih =>
      intro r hr I hf ho i6 i5 hno
      have hHI := hH.fr hf.m
      have e1 : I 48 0 0 = (nPp Q : Int) := mppl_eq (M := (I, M.2.1, M.2.2)) hq.1 hHI
      have hle : ¬ (I 48 0 0 ≤ (r : Int)) := by omega
      have n7 : 0 ≤ bI 12 (fun p => decide (p < nPp Q ∧ plF Q n1 p = place)) := bI_nn
      have b7 : (0 ≤ bI 12 (fun p => decide (p < nPp Q ∧ plF Q n1 p = place)) ∧ 0 ≤ (r : Int) ∧ (r : Int) < 32) := by omega
      have t7 : tb (bI 12 (fun p => decide (p < nPp Q ∧ plF Q n1 p = place))) (r : Int) = decide (plF Q n1 r = (place : Int)) := by rw [tb_bI (by omega)]; simp [show r < nPp Q by omega, show r < 12 by omega]
      have fin : ∀ (st : Nat → Bool) (J : IM), fr5 M.1 J → oth1 M.1 J (8 * a + place) → J 86 0 (8 * a + place) = 0 → J 85 0 (8 * a + place) = -2 → (anyS Q n1 place st (nPp Q) → plF Q n1 r = (place : Int) ∧ st = sT Q n n1 s cv r) → (¬ anyS Q n1 place st (nPp Q) → plF Q n1 r = (place : Int) → ¬ anyS Q n1 place (sT Q n n1 s cv r) (nPp Q)) → ∃ I', Ex l G (d + 3) mX12_looks 101 [some (vR (some (3, 0))), some (vI (cv : Int)), some (vI (s : Int)), some (vI who), some (vI (place : Int)), some (vI (a : Int)), some (vI (8 * (a : Int) + (place : Int))), some (vI (bI 12 (fun p => decide (p < nPp Q ∧ plF Q n1 p = place)))), some (vI (r : Int)), some (vI (bI 12 st)), some (vI 0), some (vI 0), none, none, none, none] [] (J, M.2.1, M.2.2) none (I', M.2.1, M.2.2) ∧ fr5 M.1 I' ∧ oth1 M.1 I' (8 * a + place) ∧ (SI I' a place = 0 ∨ SI I' a place = 1) ∧ (SI I' a place = 1 ↔ gdS Q (opF Q n n1 s cv place) (ntF Q n n1 s cv place) who (SI M.1) a place) ∧ miT (elT Q (opF Q n n1 s cv place) (ntF Q n n1 s cv place) who (TI M.1) a place) (TI I' a place) := by
        intro st J jf jo j6 j5 hyes hnot
        obtain ⟨any, I2, c1, c2, c3, c4⟩ := look_all (l := l) (G := G) (d := d) (s := s) (cv := cv) (r := r) (who := who) (st := st) hS hq hH h1 hL hpl ha hs01 (nPp Q) 0 (by omega) 0 J jf jo (by rw [j6, j5]; exact LkI.zero)
        have e2 : I2 48 0 0 = (nPp Q : Int) := mppl_eq (M := (I2, M.2.1, M.2.2)) hq.1 (hH.fr c1.m)
        rcases c3.1 with ⟨q1, q2⟩ | ⟨q1, q2⟩
        · have k6 : I2 86 0 (8 * a + place) = 0 := by
            rcases c3.2.1 with x | x
            · exact x
            · exact absurd (c3.2.2.1.mp x).1 q2
          have k5 : I2 85 0 (8 * a + place) = -2 := by
            rcases c3.2.2.2 with x | ⟨⟨q, hq, x⟩, _⟩
            · exact x.1
            · exact absurd ⟨q, hq, x.elim (fun y => .inl y.1) fun ⟨v, hv, y, _⟩ => .inr ⟨v, hv, y⟩⟩ q2
          obtain ⟨I', x1, x2⟩ := ih (r + 1) (by omega) I2 c1 c2 k6 k5 (fun r' hr' hp' => by
            by_cases e : r' = r
            · subst e; exact hnot q2 hp'
            · exact hno r' (by omega) hp')
          exact ⟨I', c4 _ _ (xX12_looks_101 hS ⟨fun _ => ⟨fun _ => ⟨by unfold InR; omega, x1⟩, fun c => absurd q1 c⟩, fun c => absurd (show I2 48 0 0 ≤ (nPp Q : Int) by omega) c⟩), x2⟩
        · obtain ⟨y1, y2⟩ := hyes q2
          rw [y2] at c3 q2
          have hfst : fstR Q n n1 s cv place r := ⟨by omega, y1, q2, hno⟩
          obtain ⟨z1, z2, z3⟩ := c3.rg hfst
          exact ⟨I2, c4 _ _ (xX12_looks_101 hS ⟨fun _ => ⟨fun c => by omega, fun _ => ⟨rfl, rfl⟩⟩, fun c => absurd (show I2 48 0 0 ≤ (nPp Q : Int) by omega) c⟩), c1, c2, z1, z2, z3⟩
      by_cases c : plF Q n1 r = (place : Int)
      · have ht : tb (bI 12 (fun p => decide (p < nPp Q ∧ plF Q n1 p = place))) (r : Int) = true := by rw [t7]; exact decide_eq_true c
        obtain ⟨F', hfit⟩ := KX12_fitting (l := l) (G := G) (d := d) (M := (I, M.2.1, M.2.2)) (cv := cv) (s := s) (r := (r : Int)) hS hq.1 hq.2.2.1 h0 h1 hHI.1 hHI.2.1 (hL0.fr5 hf) (hL.fr5 hf) (by omega) (hV.2 cv hc) (by omega) (by omega)
        rw [← hen, fitV_S] at hfit
        obtain ⟨I', x1, x2⟩ := fin (sT Q n n1 s cv r) (seI I 82 0 F') (hf.tr (fr5.se (.inl rfl))) (ho.tr (oth1.se (.inl rfl))) (by rw [seI_fam (by omega)]; exact i6) (by rw [seI_fam (by omega)]; exact i5) (fun _ => ⟨c, rfl⟩) (fun h _ => h)
        have nb : 0 ≤ bI 12 (fitS Q n s (snF Q n1 r) cv) := bI_nn
        refine ⟨I', xX12_looks_39 hS ⟨fun c => absurd c hle, fun _ => ⟨b7, fun c => absurd ht c, fun _ => ⟨_, _, hfit, ⟨nb, by omega, by omega⟩, fun _ => by omega, ?_⟩⟩⟩, x2⟩
        rw [sT_b (by omega)]
        exact x1
      · have ht : ¬ tb (bI 12 (fun p => decide (p < nPp Q ∧ plF Q n1 p = place))) (r : Int) = true := by rw [t7]; simp [c]
        obtain ⟨I', x1, x2⟩ := fin (fun _ => false) I hf ho i6 i5 (fun ⟨q, hq, x⟩ => x.elim (fun y => by cases y.1) fun ⟨v, hv, y⟩ => by cases y.1) (fun _ h => absurd h c)
        refine ⟨I', xX12_looks_39 hS ⟨fun c => absurd c hle, fun _ => ⟨b7, fun _ => ⟨by omega, fun _ => by omega, ?_⟩, fun c => absurd c ht⟩⟩, x2⟩
        rw [tb_zero, if_neg (by simp)]
        rw [bI_false] at x1
        exact x1
  obtain ⟨I', x1, x2⟩ := key (nPp Q) 0 (by omega) (upI (upI M.1 86 0 (8 * a + place) 0) 85 0 (8 * a + place) (-2)) ((fr5.up (.inr rfl)).tr (fr5.up (.inl rfl))) ((oth1.up (.inr rfl)).tr (oth1.up (.inl rfl))) (by rw [upI_o (by omega), upI_s]) (by rw [upI_s]) (fun r' hr' => by omega)
  refine ⟨I', xX12_looks_0 ⟨⟨by unfold InR; omega, by unfold InR; omega⟩, _, M, ks, hS, by omega, ?_⟩, x2⟩
  rw [hfm]
  exact x1
theorem rgT_c {cv s : Nat} {who day : Int} {S S' T T' : Nat → Nat → Int} {a p : Nat} (h : rgT Q cv s who day S T a p) (h1 : S' a p = S a p ∧ T' a p = T a p) (h2 : ∀ v, v < 8 → ntA Q cv s day a p v → (a : Int) + rd Q (p : Int) (v : Int) ≤ 60 → S' (a + (rd Q (p : Int) (v : Int)).toNat) v = S (a + (rd Q (p : Int) (v : Int)).toNat) v ∧ T' (a + (rd Q (p : Int) (v : Int)).toNat) v = T (a + (rd Q (p : Int) (v : Int)).toNat) v) : rgT Q cv s who day S' T' a p := by
  obtain ⟨a1, a2, a3⟩ := h
  refine ⟨by rw [h1.1]; exact a1, ?_, ?_⟩
  · rw [h1.1]
    refine a2.trans ?_
    unfold gdS
    exact ⟨fun ⟨x, y, z⟩ => ⟨x, y, fun v hv hn => ⟨(z v hv hn).1, by rw [(h2 v hv hn (z v hv hn).1).1]; exact (z v hv hn).2⟩⟩, fun ⟨x, y, z⟩ => ⟨x, y, fun v hv hn => ⟨(z v hv hn).1, by rw [← (h2 v hv hn (z v hv hn).1).1]; exact (z v hv hn).2⟩⟩⟩
  · rw [h1.2]
    have e : elT Q (opA Q cv s day a p) (ntA Q cv s day a p) who T' a p = elT Q (opA Q cv s day a p) (ntA Q cv s day a p) who T a p := funext fun x => propext (by
      unfold elT
      exact ⟨fun y => y.elim .inl fun ⟨v, hv, hn, hr, hx, h0⟩ => .inr ⟨v, hv, hn, hr, by rw [← (h2 v hv hn hr).2]; exact hx, h0⟩, fun y => y.elim .inl fun ⟨v, hv, hn, hr, hx, h0⟩ => .inr ⟨v, hv, hn, hr, by rw [(h2 v hv hn hr).2]; exact hx, h0⟩⟩)
    rw [e]
    exact a3
end SR
