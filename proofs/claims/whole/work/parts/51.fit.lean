/-! whom a cover fits: the reference -/
set_option maxRecDepth 4000 in
theorem xX12_seenBy_0 {l : Launch} {G : Gt} {d : Nat} {M M' : Mem} {r : Option Vl} {x1 : Int} (hS : Sh M.2.1) (h : 
    (¬ (x1 = (-1)) → ((0 ≤ x1 ∧ x1 < 32) ∧ (0 ≤ x1 ∧ x1 < 12) ∧ InR (12 + x1) ∧ (0 ≤ (12 + x1) ∧ (12 + x1) < 24)) ∧ (∃ (r_7 : Int) (M_5 : Mem), Cl l G d mX12_standing [vR (some (3, 0)), vI 1, vI (M.1 73 0 (12 + x1).toNat)] M (some (vI r_7)) M_5 ∧ r = some (vI (aOr (aOr (aShl 1 x1) (M.1 50 0 x1.toNat)) r_7)) ∧ M' = M_5)) ∧ (x1 = (-1) → ((0 ≤ (M.1 48 0 0) ∧ (M.1 48 0 0) < 32) ∧ InR ((aShl 1 (M.1 48 0 0)) - 1)) ∧ r = some (vI ((aShl 1 (M.1 48 0 0)) - 1)) ∧ M' = M)) : Cl l G (d + 1) mX12_seenBy [vR (some (3, 0)), vI x1] M r M' := by
  show Ex l G (d + 1) mX12_seenBy 0 [some (vR (some (3, 0))), some (vI x1)] [] M r M'
  refine r_iload_n 1 dX12_seenBy_0 rfl rfl ?_
  refine r_iconst 2 dX12_seenBy_1 rfl (InR_of rfl) ?_
  refine r_icmp_ne 5 16 dX12_seenBy_2 rfl rfl (fun c => ?_) (fun c => ?_)
  · have h := h.1 (c)
    obtain ⟨⟨o_1, o_2, o_3, o_4⟩, h⟩ := h
    refine r_iconst 17 dX12_seenBy_16 rfl (InR_of rfl) ?_
    refine r_iload_n 18 dX12_seenBy_17 rfl rfl ?_
    refine r_ishl 19 dX12_seenBy_18 rfl o_1 ?_
    refine r_aload_n 20 dX12_seenBy_19 rfl rfl ?_
    refine g_R 23 dX12_seenBy_20 rfl rfl rfl fr_12_16 (sh_12_3 hS) ?_
    refine r_iload_n 24 dX12_seenBy_23 rfl rfl ?_
    refine a_I 12 25 dX12_seenBy_24 rfl rfl rfl rfl o_2 rfl ?_
    refine r_ior 26 dX12_seenBy_25 rfl ?_
    refine r_aload_n 27 dX12_seenBy_26 rfl rfl ?_
    refine r_iconst 28 dX12_seenBy_27 rfl (InR_of rfl) ?_
    refine r_aload_n 29 dX12_seenBy_28 rfl rfl ?_
    refine g_R 32 dX12_seenBy_29 rfl rfl rfl fr_12_85 (sh_12_26 hS) ?_
    refine r_bipush 34 dX12_seenBy_32 rfl rfl ?_
    refine r_iload_n 35 dX12_seenBy_34 rfl rfl ?_
    refine r_iadd 36 dX12_seenBy_35 rfl o_3 ?_
    refine a_I 24 37 dX12_seenBy_36 rfl rfl rfl rfl o_4 rfl ?_
    obtain ⟨r_7, M_5, hc_6, h⟩ := h
    refine v_1 (ci := 12) (C := (RX12, TX12, 68)) [vI 1, vI (M.1 73 0 (12 + x1).toNat)] [vI (aOr (aShl 1 x1) (M.1 50 0 x1.toNat))] 40 dX12_seenBy_37 rfl rfl rfl rfl rfl mo_X12_standing ml_12_195 rfl rfl hc_6 ?_
    refine r_ior 41 dX12_seenBy_40 rfl ?_
    exact r_iret dX12_seenBy_41 rfl (.inl rfl) h.1 h.2
  · have h := h.2 (Decidable.not_not.mp c)
    obtain ⟨⟨o_8, o_9⟩, h⟩ := h
    refine r_iconst 6 dX12_seenBy_5 rfl (InR_of rfl) ?_
    refine r_aload_n 7 dX12_seenBy_6 rfl rfl ?_
    refine g_R 10 dX12_seenBy_7 rfl rfl rfl fr_12_7 (sh_12_1 hS) ?_
    refine r_iconst 11 dX12_seenBy_10 rfl (InR_of rfl) ?_
    refine a_I 6 12 dX12_seenBy_11 rfl rfl rfl rfl ⟨by decide, by decide⟩ rfl ?_
    refine r_ishl 13 dX12_seenBy_12 rfl o_8 ?_
    refine r_iconst 14 dX12_seenBy_13 rfl (InR_of rfl) ?_
    refine r_isub 15 dX12_seenBy_14 rfl o_9 ?_
    exact r_iret dX12_seenBy_15 rfl (.inl rfl) h.1 h.2

set_option maxRecDepth 4000 in
theorem xX12_fitting_0 {l : Launch} {G : Gt} {d : Nat} {M M' : Mem} {r : Option Vl} {x1 : Int} {x2 : Int} {x3 : Int} (hS : Sh M.2.1) (h : 
    ((0 ≤ x1 ∧ x1 < 8)) ∧ (∃ (r_6 : Int) (M_4 : Mem), Cl l G d mX12_seenBy [vR (some (3, 0)), vI x3] M (some (vI r_6)) M_4 ∧ (InR (400 * x1)) ∧ Ex l G (d + 1) mX12_fitting 33 [some (vR (some (3, 0))), some (vI x1), some (vI x2), some (vI x3), some (vI (if (M.1 84 0 x1.toNat) = 0 then 0 else 1 : Int)), some (vI r_6), some (vI 0), some (vI (400 * x1)), none] [] M_4 r M')) : Cl l G (d + 1) mX12_fitting [vR (some (3, 0)), vI x1, vI x2, vI x3] M r M' := by
  show Ex l G (d + 1) mX12_fitting 0 [some (vR (some (3, 0))), some (vI x1), some (vI x2), some (vI x3), none, none, none, none, none] [] M r M'
  obtain ⟨o_1, h⟩ := h
  refine r_aload_n 1 dX12_fitting_0 rfl rfl ?_
  refine g_R 4 dX12_fitting_1 rfl rfl rfl fr_12_120 (sh_12_47 hS) ?_
  refine r_iload_n 5 dX12_fitting_4 rfl rfl ?_
  refine a_Z 8 6 dX12_fitting_5 rfl rfl rfl rfl o_1 rfl ?_
  have hJ_2 : Ex l G (d + 1) mX12_fitting 14 [some (vR (some (3, 0))), some (vI x1), some (vI x2), some (vI x3), none, none, none, none, none] [vI (if (M.1 84 0 x1.toNat) = 0 then 0 else 1 : Int)] M r M' := by
    refine r_istore (ls' := [some (vR (some (3, 0))), some (vI x1), some (vI x2), some (vI x3), some (vI (if (M.1 84 0 x1.toNat) = 0 then 0 else 1 : Int)), none, none, none, none]) 16 dX12_fitting_14 rfl rfl rfl rfl ?_
    refine r_aload_n 17 dX12_fitting_16 rfl rfl ?_
    refine r_iload_n 18 dX12_fitting_17 rfl rfl ?_
    obtain ⟨r_6, M_4, hc_5, h⟩ := h
    refine v_1 (ci := 12) (C := (RX12, TX12, 68)) [vI x3] [] 21 dX12_fitting_18 rfl rfl rfl rfl rfl mo_X12_seenBy ml_12_201 rfl rfl hc_5 ?_
    obtain ⟨o_7, h⟩ := h
    refine r_istore (ls' := [some (vR (some (3, 0))), some (vI x1), some (vI x2), some (vI x3), some (vI (if (M.1 84 0 x1.toNat) = 0 then 0 else 1 : Int)), some (vI r_6), none, none, none]) 23 dX12_fitting_21 rfl rfl rfl rfl ?_
    refine r_iconst 24 dX12_fitting_23 rfl (InR_of rfl) ?_
    refine r_istore (ls' := [some (vR (some (3, 0))), some (vI x1), some (vI x2), some (vI x3), some (vI (if (M.1 84 0 x1.toNat) = 0 then 0 else 1 : Int)), some (vI r_6), some (vI 0), none, none]) 26 dX12_fitting_24 rfl rfl rfl rfl ?_
    refine r_sipush 29 dX12_fitting_26 rfl rfl ?_
    refine r_iload_n 30 dX12_fitting_29 rfl rfl ?_
    refine r_imul 31 dX12_fitting_30 rfl o_7 ?_
    refine r_istore (ls' := [some (vR (some (3, 0))), some (vI x1), some (vI x2), some (vI x3), some (vI (if (M.1 84 0 x1.toNat) = 0 then 0 else 1 : Int)), some (vI r_6), some (vI 0), some (vI (400 * x1)), none]) 33 dX12_fitting_31 rfl rfl rfl rfl ?_
    exact h
  refine r_if_eq 9 13 dX12_fitting_6 rfl rfl (fun c => ?_) (fun c => ?_)
  · have c_3 := c
    refine r_iconst 14 dX12_fitting_13 rfl (InR_of rfl) ?_
    exact (Ex.at hJ_2 rfl (show [vI 0] = [vI (if (M.1 84 0 x1.toNat) = 0 then 0 else 1 : Int)] by simp only [if_pos c_3]) rfl)
  · have c_3 := c
    refine r_iconst 10 dX12_fitting_9 rfl (InR_of rfl) ?_
    refine r_goto 14 dX12_fitting_10 rfl ?_
    exact (Ex.at hJ_2 rfl (show [vI 1] = [vI (if (M.1 84 0 x1.toNat) = 0 then 0 else 1 : Int)] by simp only [if_neg c_3]) rfl)
set_option maxRecDepth 4000 in
theorem xX12_fitting_33 {l : Launch} {G : Gt} {d : Nat} {M M' : Mem} {r : Option Vl} {x1 : Int} {x2 : Int} {x3 : Int} {x4 : Int} {x5 : Int} {x6 : Int} {x7 : Int} (hS : Sh M.2.1) (h : 
    (InR (400 * x1) ∧ (0 ≤ x1 ∧ x1 < 8) ∧ InR ((400 * x1) + (M.1 79 0 x1.toNat))) ∧ ((((400 * x1) + (M.1 79 0 x1.toNat)) ≤ x7 → ((0 ≤ x1 ∧ x1 < 8)) ∧ (((M.1 83 0 x1.toNat) = 0 → r = some (vI (M.1 82 0 0)) ∧ M' = M) ∧ (¬ ((M.1 83 0 x1.toNat) = 0) → ∃ (r_7 : Int) (M_5 : Mem), Cl l G d mX12_bits [vI (M.1 82 0 0)] M (some (vI r_7)) M_5 ∧ r = some (vI (if r_7 ≤ 1 then (M.1 82 0 0) else 0 : Int)) ∧ M' = M_5))) ∧ (¬ (((400 * x1) + (M.1 79 0 x1.toNat)) ≤ x7) → ((0 ≤ x7 ∧ x7 < 3200)) ∧ (((M.1 77 0 x7.toNat) < 0 ∨ 5 < (M.1 77 0 x7.toNat) → (InR (x6 + (-1)) ∧ InR ((x6 + (-1)) - 1) ∧ (0 ≤ ((x6 + (-1)) - 1) ∧ ((x6 + (-1)) - 1) < 400) ∧ (0 ≤ (x6 + (-1)) ∧ (x6 + (-1)) < 400) ∧ InR (x7 + 1)) ∧ Ex l G (d + 1) mX12_fitting 33 [some (vR (some (3, 0))), some (vI x1), some (vI x2), some (vI x3), some (vI x4), some (vI x5), some (vI (x6 + (-1))), some (vI (x7 + 1)), none] [] ((upI M.1 82 0 ((x6 + (-1)) - 1).toNat (aOr (M.1 82 0 ((x6 + (-1)) - 1).toNat) (M.1 82 0 (x6 + (-1)).toNat))), M.2.1, M.2.2) r M') ∧ ((M.1 77 0 x7.toNat) = 0 → ∃ (r_18 : Int) (M_16 : Mem), Cl l G d mX12_markedSet [vR (some (3, 0)), vI x4, vI (M.1 78 0 x7.toNat)] M (some (vI r_18)) M_16 ∧ ((0 ≤ x6 ∧ x6 < 400) ∧ InR (x6 + 1) ∧ InR (x7 + 1)) ∧ Ex l G (d + 1) mX12_fitting 33 [some (vR (some (3, 0))), some (vI x1), some (vI x2), some (vI x3), some (vI x4), some (vI x5), some (vI (x6 + 1)), some (vI (x7 + 1)), none] [] ((upI M_16.1 82 0 x6.toNat (aAnd r_18 x5)), M_16.2.1, M_16.2.2) r M') ∧ ((M.1 77 0 x7.toNat) = 1 → ∃ (r_24 : Int) (M_22 : Mem), Cl l G d mX12_standing [vR (some (3, 0)), vI x4, vI (M.1 78 0 x7.toNat)] M (some (vI r_24)) M_22 ∧ ((0 ≤ x6 ∧ x6 < 400) ∧ InR (x6 + 1) ∧ InR (x7 + 1)) ∧ Ex l G (d + 1) mX12_fitting 33 [some (vR (some (3, 0))), some (vI x1), some (vI x2), some (vI x3), some (vI x4), some (vI x5), some (vI (x6 + 1)), some (vI (x7 + 1)), none] [] ((upI M_22.1 82 0 x6.toNat (aAnd r_24 x5)), M_22.2.1, M_22.2.2) r M') ∧ ((M.1 77 0 x7.toNat) = 2 → ((0 ≤ x2 ∧ x2 < 32) ∧ (0 ≤ x6 ∧ x6 < 400) ∧ InR (x6 + 1) ∧ InR (x7 + 1)) ∧ Ex l G (d + 1) mX12_fitting 33 [some (vR (some (3, 0))), some (vI x1), some (vI x2), some (vI x3), some (vI x4), some (vI x5), some (vI (x6 + 1)), some (vI (x7 + 1)), none] [] ((upI M.1 82 0 x6.toNat (aAnd (aShl 1 x2) x5)), M.2.1, M.2.2) r M') ∧ ((M.1 77 0 x7.toNat) = 3 → (InR (x6 - 1) ∧ (0 ≤ (x6 - 1) ∧ (x6 - 1) < 400) ∧ InR (x7 + 1)) ∧ Ex l G (d + 1) mX12_fitting 33 [some (vR (some (3, 0))), some (vI x1), some (vI x2), some (vI x3), some (vI x4), some (vI x5), some (vI x6), some (vI (x7 + 1)), none] [] ((upI M.1 82 0 (x6 - 1).toNat (aAnd x5 (aXor (M.1 82 0 (x6 - 1).toNat) (-1)))), M.2.1, M.2.2) r M') ∧ ((M.1 77 0 x7.toNat) = 4 → (InR (x6 - 1) ∧ (0 ≤ (x6 - 1) ∧ (x6 - 1) < 400)) ∧ (∃ (r_39 : Int) (M_37 : Mem), Cl l G d mX12_tiedSet [vR (some (3, 0)), vI x4, vI (M.1 78 0 x7.toNat), vI (M.1 82 0 (x6 - 1).toNat)] M (some (vI r_39)) M_37 ∧ ((0 ≤ (x6 - 1) ∧ (x6 - 1) < 400) ∧ InR (x7 + 1)) ∧ Ex l G (d + 1) mX12_fitting 33 [some (vR (some (3, 0))), some (vI x1), some (vI x2), some (vI x3), some (vI x4), some (vI x5), some (vI x6), some (vI (x7 + 1)), none] [] ((upI M_37.1 82 0 (x6 - 1).toNat (aAnd r_39 x5)), M_37.2.1, M_37.2.2) r M')) ∧ ((M.1 77 0 x7.toNat) = 5 → (InR (x6 + (-1)) ∧ InR ((x6 + (-1)) - 1) ∧ (0 ≤ ((x6 + (-1)) - 1) ∧ ((x6 + (-1)) - 1) < 400) ∧ (0 ≤ (x6 + (-1)) ∧ (x6 + (-1)) < 400) ∧ InR (x7 + 1)) ∧ Ex l G (d + 1) mX12_fitting 33 [some (vR (some (3, 0))), some (vI x1), some (vI x2), some (vI x3), some (vI x4), some (vI x5), some (vI (x6 + (-1))), some (vI (x7 + 1)), none] [] ((upI M.1 82 0 ((x6 + (-1)) - 1).toNat (aAnd (M.1 82 0 ((x6 + (-1)) - 1).toNat) (M.1 82 0 (x6 + (-1)).toNat))), M.2.1, M.2.2) r M'))))) : Ex l G (d + 1) mX12_fitting 33 [some (vR (some (3, 0))), some (vI x1), some (vI x2), some (vI x3), some (vI x4), some (vI x5), some (vI x6), some (vI x7), none] [] M r M' := by
  obtain ⟨⟨o_1, o_2, o_3⟩, h⟩ := h
  refine r_iload 35 dX12_fitting_33 rfl rfl ?_
  refine r_sipush 38 dX12_fitting_35 rfl rfl ?_
  refine r_iload_n 39 dX12_fitting_38 rfl rfl ?_
  refine r_imul 40 dX12_fitting_39 rfl o_1 ?_
  refine r_aload_n 41 dX12_fitting_40 rfl rfl ?_
  refine g_R 44 dX12_fitting_41 rfl rfl rfl fr_12_104 (sh_12_42 hS) ?_
  refine r_iload_n 45 dX12_fitting_44 rfl rfl ?_
  refine a_I 8 46 dX12_fitting_45 rfl rfl rfl rfl o_2 rfl ?_
  refine r_iadd 47 dX12_fitting_46 rfl o_3 ?_
  refine r_icmp_ge 50 282 dX12_fitting_47 rfl rfl (fun c => ?_) (fun c => ?_)
  · have h := h.1 (c)
    obtain ⟨o_4, h⟩ := h
    refine r_aload_n 283 dX12_fitting_282 rfl rfl ?_
    refine g_R 286 dX12_fitting_283 rfl rfl rfl fr_12_113 (sh_12_45 hS) ?_
    refine r_iconst 287 dX12_fitting_286 rfl (InR_of rfl) ?_
    refine a_I 400 288 dX12_fitting_287 rfl rfl rfl rfl ⟨by decide, by decide⟩ rfl ?_
    refine r_istore (ls' := [some (vR (some (3, 0))), some (vI x1), some (vI x2), some (vI x3), some (vI x4), some (vI x5), some (vI x6), some (vI (M.1 82 0 0)), none]) 290 dX12_fitting_288 rfl rfl rfl rfl ?_
    refine r_aload_n 291 dX12_fitting_290 rfl rfl ?_
    refine g_R 294 dX12_fitting_291 rfl rfl rfl fr_12_116 (sh_12_46 hS) ?_
    refine r_iload_n 295 dX12_fitting_294 rfl rfl ?_
    refine a_Z 8 296 dX12_fitting_295 rfl rfl rfl rfl o_4 rfl ?_
    refine r_if_eq 299 312 dX12_fitting_296 rfl rfl (fun c => ?_) (fun c => ?_)
    · have h := h.1 (c)
      refine r_iload 314 dX12_fitting_312 rfl rfl ?_
      exact r_iret dX12_fitting_314 rfl (.inl rfl) h.1 h.2
    · have h := h.2 (c)
      refine r_iload 301 dX12_fitting_299 rfl rfl ?_
      obtain ⟨r_7, M_5, hc_6, h⟩ := h
      refine c_1 [vI (M.1 82 0 0)] [] 304 dX12_fitting_301 rfl rfl mo_X12_bits ml_12_328 rfl rfl hc_6 ?_
      refine r_iconst 305 dX12_fitting_304 rfl (InR_of rfl) ?_
      have hJ_8 : Ex l G (d + 1) mX12_fitting 314 [some (vR (some (3, 0))), some (vI x1), some (vI x2), some (vI x3), some (vI x4), some (vI x5), some (vI x6), some (vI (M.1 82 0 0)), none] [vI (if r_7 ≤ 1 then (M.1 82 0 0) else 0 : Int)] M_5 r M' := by
        exact r_iret dX12_fitting_314 rfl (.inl rfl) h.1 h.2
      refine r_icmp_le 308 312 dX12_fitting_305 rfl rfl (fun c => ?_) (fun c => ?_)
      · have c_9 := c
        refine r_iload 314 dX12_fitting_312 rfl rfl ?_
        exact (Ex.at hJ_8 rfl (show [vI (M.1 82 0 0)] = [vI (if r_7 ≤ 1 then (M.1 82 0 0) else 0 : Int)] by simp only [if_pos c_9]) rfl)
      · have c_9 := c
        refine r_iconst 309 dX12_fitting_308 rfl (InR_of rfl) ?_
        refine r_goto 314 dX12_fitting_309 rfl ?_
        exact (Ex.at hJ_8 rfl (show [vI 0] = [vI (if r_7 ≤ 1 then (M.1 82 0 0) else 0 : Int)] by simp only [if_neg c_9]) rfl)
  · have h := h.2 (c)
    obtain ⟨o_10, h⟩ := h
    refine r_aload_n 51 dX12_fitting_50 rfl rfl ?_
    refine g_R 54 dX12_fitting_51 rfl rfl rfl fr_12_101 (sh_12_41 hS) ?_
    refine r_iload 56 dX12_fitting_54 rfl rfl ?_
    refine a_I 3200 57 dX12_fitting_56 rfl rfl rfl rfl o_10 rfl ?_
    refine r_istore (ls' := [some (vR (some (3, 0))), some (vI x1), some (vI x2), some (vI x3), some (vI x4), some (vI x5), some (vI x6), some (vI x7), some (vI (M.1 78 0 x7.toNat))]) 59 dX12_fitting_57 rfl rfl rfl rfl ?_
    refine r_aload_n 60 dX12_fitting_59 rfl rfl ?_
    refine g_R 63 dX12_fitting_60 rfl rfl rfl fr_12_98 (sh_12_40 hS) ?_
    refine r_iload 65 dX12_fitting_63 rfl rfl ?_
    refine a_I 3200 66 dX12_fitting_65 rfl rfl rfl rfl o_10 rfl ?_
    by_cases hsw : (M.1 77 0 x7.toNat) < 0 ∨ 5 < (M.1 77 0 x7.toNat)
    · have h := h.1 hsw
      refine r_tswOut 254 dX12_fitting_66 hsw rfl ?_
      obtain ⟨⟨o_11, o_12, o_13, o_14, o_15⟩, h⟩ := h
      refine r_iinc (ls' := [some (vR (some (3, 0))), some (vI x1), some (vI x2), some (vI x3), some (vI x4), some (vI x5), some (vI (x6 + (-1))), some (vI x7), some (vI (M.1 78 0 x7.toNat))]) 257 dX12_fitting_254 rfl rfl rfl rfl o_11 rfl ?_
      refine r_aload_n 258 dX12_fitting_257 rfl rfl ?_
      refine g_R 261 dX12_fitting_258 rfl rfl rfl fr_12_113 (sh_12_45 hS) ?_
      refine r_iload 263 dX12_fitting_261 rfl rfl ?_
      refine r_iconst 264 dX12_fitting_263 rfl (InR_of rfl) ?_
      refine r_isub 265 dX12_fitting_264 rfl o_12 ?_
      refine r_dup2 266 dX12_fitting_265 rfl rfl ?_
      refine a_I 400 267 dX12_fitting_266 rfl rfl rfl rfl o_13 rfl ?_
      refine r_aload_n 268 dX12_fitting_267 rfl rfl ?_
      refine g_R 271 dX12_fitting_268 rfl rfl rfl fr_12_113 (sh_12_45 hS) ?_
      refine r_iload 273 dX12_fitting_271 rfl rfl ?_
      refine a_I 400 274 dX12_fitting_273 rfl rfl rfl rfl o_14 rfl ?_
      refine r_ior 275 dX12_fitting_274 rfl ?_
      refine s_I 400 276 dX12_fitting_275 rfl rfl (by decide) rfl rfl o_13 ?_
      refine r_iinc (ls' := [some (vR (some (3, 0))), some (vI x1), some (vI x2), some (vI x3), some (vI x4), some (vI x5), some (vI (x6 + (-1))), some (vI (x7 + 1)), some (vI (M.1 78 0 x7.toNat))]) 279 dX12_fitting_276 rfl rfl rfl rfl o_15 rfl ?_
      refine r_goto 33 dX12_fitting_279 rfl ?_
      exact Ex.weak h ⟨rfl, rfl, rfl, rfl, rfl, rfl, rfl, rfl, trivial⟩
    · have hsw2 : (M.1 77 0 x7.toNat) = 0 ∨ (M.1 77 0 x7.toNat) = 1 ∨ (M.1 77 0 x7.toNat) = 2 ∨ (M.1 77 0 x7.toNat) = 3 ∨ (M.1 77 0 x7.toNat) = 4 ∨ (M.1 77 0 x7.toNat) = 5 := by omega
      rcases hsw2 with c | c | c | c | c | c
      · have h := h.2.1 c
        refine r_tswIn 104 dX12_fitting_66 0 c rfl rfl rfl ?_
        refine r_aload_n 105 dX12_fitting_104 rfl rfl ?_
        refine g_R 108 dX12_fitting_105 rfl rfl rfl fr_12_113 (sh_12_45 hS) ?_
        refine r_iload 110 dX12_fitting_108 rfl rfl ?_
        refine r_aload_n 111 dX12_fitting_110 rfl rfl ?_
        refine r_iload 113 dX12_fitting_111 rfl rfl ?_
        refine r_iload 115 dX12_fitting_113 rfl rfl ?_
        obtain ⟨r_18, M_16, hc_17, h⟩ := h
        refine v_1 (ci := 12) (C := (RX12, TX12, 68)) [vI x4, vI (M.1 78 0 x7.toNat)] [vI x6, vR (some (82, 0))] 118 dX12_fitting_115 rfl rfl rfl rfl rfl mo_X12_markedSet ml_12_322 rfl rfl hc_17 ?_
        obtain ⟨⟨o_19, o_20, o_21⟩, h⟩ := h
        refine r_iload 120 dX12_fitting_118 rfl rfl ?_
        refine r_iand 121 dX12_fitting_120 rfl ?_
        refine s_I 400 122 dX12_fitting_121 rfl rfl (by decide) rfl rfl o_19 ?_
        refine r_iinc (ls' := [some (vR (some (3, 0))), some (vI x1), some (vI x2), some (vI x3), some (vI x4), some (vI x5), some (vI (x6 + 1)), some (vI x7), some (vI (M.1 78 0 x7.toNat))]) 125 dX12_fitting_122 rfl rfl rfl rfl o_20 rfl ?_
        refine r_goto 276 dX12_fitting_125 rfl ?_
        refine r_iinc (ls' := [some (vR (some (3, 0))), some (vI x1), some (vI x2), some (vI x3), some (vI x4), some (vI x5), some (vI (x6 + 1)), some (vI (x7 + 1)), some (vI (M.1 78 0 x7.toNat))]) 279 dX12_fitting_276 rfl rfl rfl rfl o_21 rfl ?_
        refine r_goto 33 dX12_fitting_279 rfl ?_
        exact Ex.weak h ⟨rfl, rfl, rfl, rfl, rfl, rfl, rfl, rfl, trivial⟩
      · have h := h.2.2.1 c
        refine r_tswIn 128 dX12_fitting_66 1 c rfl rfl rfl ?_
        refine r_aload_n 129 dX12_fitting_128 rfl rfl ?_
        refine g_R 132 dX12_fitting_129 rfl rfl rfl fr_12_113 (sh_12_45 hS) ?_
        refine r_iload 134 dX12_fitting_132 rfl rfl ?_
        refine r_aload_n 135 dX12_fitting_134 rfl rfl ?_
        refine r_iload 137 dX12_fitting_135 rfl rfl ?_
        refine r_iload 139 dX12_fitting_137 rfl rfl ?_
        obtain ⟨r_24, M_22, hc_23, h⟩ := h
        refine v_1 (ci := 12) (C := (RX12, TX12, 68)) [vI x4, vI (M.1 78 0 x7.toNat)] [vI x6, vR (some (82, 0))] 142 dX12_fitting_139 rfl rfl rfl rfl rfl mo_X12_standing ml_12_195 rfl rfl hc_23 ?_
        obtain ⟨⟨o_25, o_26, o_27⟩, h⟩ := h
        refine r_iload 144 dX12_fitting_142 rfl rfl ?_
        refine r_iand 145 dX12_fitting_144 rfl ?_
        refine s_I 400 146 dX12_fitting_145 rfl rfl (by decide) rfl rfl o_25 ?_
        refine r_iinc (ls' := [some (vR (some (3, 0))), some (vI x1), some (vI x2), some (vI x3), some (vI x4), some (vI x5), some (vI (x6 + 1)), some (vI x7), some (vI (M.1 78 0 x7.toNat))]) 149 dX12_fitting_146 rfl rfl rfl rfl o_26 rfl ?_
        refine r_goto 276 dX12_fitting_149 rfl ?_
        refine r_iinc (ls' := [some (vR (some (3, 0))), some (vI x1), some (vI x2), some (vI x3), some (vI x4), some (vI x5), some (vI (x6 + 1)), some (vI (x7 + 1)), some (vI (M.1 78 0 x7.toNat))]) 279 dX12_fitting_276 rfl rfl rfl rfl o_27 rfl ?_
        refine r_goto 33 dX12_fitting_279 rfl ?_
        exact Ex.weak h ⟨rfl, rfl, rfl, rfl, rfl, rfl, rfl, rfl, trivial⟩
      · have h := h.2.2.2.1 c
        refine r_tswIn 152 dX12_fitting_66 2 c rfl rfl rfl ?_
        obtain ⟨⟨o_28, o_29, o_30, o_31⟩, h⟩ := h
        refine r_aload_n 153 dX12_fitting_152 rfl rfl ?_
        refine g_R 156 dX12_fitting_153 rfl rfl rfl fr_12_113 (sh_12_45 hS) ?_
        refine r_iload 158 dX12_fitting_156 rfl rfl ?_
        refine r_iconst 159 dX12_fitting_158 rfl (InR_of rfl) ?_
        refine r_iload_n 160 dX12_fitting_159 rfl rfl ?_
        refine r_ishl 161 dX12_fitting_160 rfl o_28 ?_
        refine r_iload 163 dX12_fitting_161 rfl rfl ?_
        refine r_iand 164 dX12_fitting_163 rfl ?_
        refine s_I 400 165 dX12_fitting_164 rfl rfl (by decide) rfl rfl o_29 ?_
        refine r_iinc (ls' := [some (vR (some (3, 0))), some (vI x1), some (vI x2), some (vI x3), some (vI x4), some (vI x5), some (vI (x6 + 1)), some (vI x7), some (vI (M.1 78 0 x7.toNat))]) 168 dX12_fitting_165 rfl rfl rfl rfl o_30 rfl ?_
        refine r_goto 276 dX12_fitting_168 rfl ?_
        refine r_iinc (ls' := [some (vR (some (3, 0))), some (vI x1), some (vI x2), some (vI x3), some (vI x4), some (vI x5), some (vI (x6 + 1)), some (vI (x7 + 1)), some (vI (M.1 78 0 x7.toNat))]) 279 dX12_fitting_276 rfl rfl rfl rfl o_31 rfl ?_
        refine r_goto 33 dX12_fitting_279 rfl ?_
        exact Ex.weak h ⟨rfl, rfl, rfl, rfl, rfl, rfl, rfl, rfl, trivial⟩
      · have h := h.2.2.2.2.1 c
        refine r_tswIn 171 dX12_fitting_66 3 c rfl rfl rfl ?_
        obtain ⟨⟨o_32, o_33, o_34⟩, h⟩ := h
        refine r_aload_n 172 dX12_fitting_171 rfl rfl ?_
        refine g_R 175 dX12_fitting_172 rfl rfl rfl fr_12_113 (sh_12_45 hS) ?_
        refine r_iload 177 dX12_fitting_175 rfl rfl ?_
        refine r_iconst 178 dX12_fitting_177 rfl (InR_of rfl) ?_
        refine r_isub 179 dX12_fitting_178 rfl o_32 ?_
        refine r_iload 181 dX12_fitting_179 rfl rfl ?_
        refine r_aload_n 182 dX12_fitting_181 rfl rfl ?_
        refine g_R 185 dX12_fitting_182 rfl rfl rfl fr_12_113 (sh_12_45 hS) ?_
        refine r_iload 187 dX12_fitting_185 rfl rfl ?_
        refine r_iconst 188 dX12_fitting_187 rfl (InR_of rfl) ?_
        refine r_isub 189 dX12_fitting_188 rfl o_32 ?_
        refine a_I 400 190 dX12_fitting_189 rfl rfl rfl rfl o_33 rfl ?_
        refine r_iconst 191 dX12_fitting_190 rfl (InR_of rfl) ?_
        refine r_ixor 192 dX12_fitting_191 rfl ?_
        refine r_iand 193 dX12_fitting_192 rfl ?_
        refine s_I 400 194 dX12_fitting_193 rfl rfl (by decide) rfl rfl o_33 ?_
        refine r_goto 276 dX12_fitting_194 rfl ?_
        refine r_iinc (ls' := [some (vR (some (3, 0))), some (vI x1), some (vI x2), some (vI x3), some (vI x4), some (vI x5), some (vI x6), some (vI (x7 + 1)), some (vI (M.1 78 0 x7.toNat))]) 279 dX12_fitting_276 rfl rfl rfl rfl o_34 rfl ?_
        refine r_goto 33 dX12_fitting_279 rfl ?_
        exact Ex.weak h ⟨rfl, rfl, rfl, rfl, rfl, rfl, rfl, rfl, trivial⟩
      · have h := h.2.2.2.2.2.1 c
        refine r_tswIn 197 dX12_fitting_66 4 c rfl rfl rfl ?_
        obtain ⟨⟨o_35, o_36⟩, h⟩ := h
        refine r_aload_n 198 dX12_fitting_197 rfl rfl ?_
        refine g_R 201 dX12_fitting_198 rfl rfl rfl fr_12_113 (sh_12_45 hS) ?_
        refine r_iload 203 dX12_fitting_201 rfl rfl ?_
        refine r_iconst 204 dX12_fitting_203 rfl (InR_of rfl) ?_
        refine r_isub 205 dX12_fitting_204 rfl o_35 ?_
        refine r_aload_n 206 dX12_fitting_205 rfl rfl ?_
        refine r_iload 208 dX12_fitting_206 rfl rfl ?_
        refine r_iload 210 dX12_fitting_208 rfl rfl ?_
        refine r_aload_n 211 dX12_fitting_210 rfl rfl ?_
        refine g_R 214 dX12_fitting_211 rfl rfl rfl fr_12_113 (sh_12_45 hS) ?_
        refine r_iload 216 dX12_fitting_214 rfl rfl ?_
        refine r_iconst 217 dX12_fitting_216 rfl (InR_of rfl) ?_
        refine r_isub 218 dX12_fitting_217 rfl o_35 ?_
        refine a_I 400 219 dX12_fitting_218 rfl rfl rfl rfl o_36 rfl ?_
        obtain ⟨r_39, M_37, hc_38, h⟩ := h
        refine v_1 (ci := 12) (C := (RX12, TX12, 68)) [vI x4, vI (M.1 78 0 x7.toNat), vI (M.1 82 0 (x6 - 1).toNat)] [vI (x6 - 1), vR (some (82, 0))] 222 dX12_fitting_219 rfl rfl rfl rfl rfl mo_X12_tiedSet ml_12_325 rfl rfl hc_38 ?_
        obtain ⟨⟨o_40, o_41⟩, h⟩ := h
        refine r_iload 224 dX12_fitting_222 rfl rfl ?_
        refine r_iand 225 dX12_fitting_224 rfl ?_
        refine s_I 400 226 dX12_fitting_225 rfl rfl (by decide) rfl rfl o_40 ?_
        refine r_goto 276 dX12_fitting_226 rfl ?_
        refine r_iinc (ls' := [some (vR (some (3, 0))), some (vI x1), some (vI x2), some (vI x3), some (vI x4), some (vI x5), some (vI x6), some (vI (x7 + 1)), some (vI (M.1 78 0 x7.toNat))]) 279 dX12_fitting_276 rfl rfl rfl rfl o_41 rfl ?_
        refine r_goto 33 dX12_fitting_279 rfl ?_
        exact Ex.weak h ⟨rfl, rfl, rfl, rfl, rfl, rfl, rfl, rfl, trivial⟩
      · have h := h.2.2.2.2.2.2 c
        refine r_tswIn 229 dX12_fitting_66 5 c rfl rfl rfl ?_
        obtain ⟨⟨o_42, o_43, o_44, o_45, o_46⟩, h⟩ := h
        refine r_iinc (ls' := [some (vR (some (3, 0))), some (vI x1), some (vI x2), some (vI x3), some (vI x4), some (vI x5), some (vI (x6 + (-1))), some (vI x7), some (vI (M.1 78 0 x7.toNat))]) 232 dX12_fitting_229 rfl rfl rfl rfl o_42 rfl ?_
        refine r_aload_n 233 dX12_fitting_232 rfl rfl ?_
        refine g_R 236 dX12_fitting_233 rfl rfl rfl fr_12_113 (sh_12_45 hS) ?_
        refine r_iload 238 dX12_fitting_236 rfl rfl ?_
        refine r_iconst 239 dX12_fitting_238 rfl (InR_of rfl) ?_
        refine r_isub 240 dX12_fitting_239 rfl o_43 ?_
        refine r_dup2 241 dX12_fitting_240 rfl rfl ?_
        refine a_I 400 242 dX12_fitting_241 rfl rfl rfl rfl o_44 rfl ?_
        refine r_aload_n 243 dX12_fitting_242 rfl rfl ?_
        refine g_R 246 dX12_fitting_243 rfl rfl rfl fr_12_113 (sh_12_45 hS) ?_
        refine r_iload 248 dX12_fitting_246 rfl rfl ?_
        refine a_I 400 249 dX12_fitting_248 rfl rfl rfl rfl o_45 rfl ?_
        refine r_iand 250 dX12_fitting_249 rfl ?_
        refine s_I 400 251 dX12_fitting_250 rfl rfl (by decide) rfl rfl o_44 ?_
        refine r_goto 276 dX12_fitting_251 rfl ?_
        refine r_iinc (ls' := [some (vR (some (3, 0))), some (vI x1), some (vI x2), some (vI x3), some (vI x4), some (vI x5), some (vI (x6 + (-1))), some (vI (x7 + 1)), some (vI (M.1 78 0 x7.toNat))]) 279 dX12_fitting_276 rfl rfl rfl rfl o_46 rfl ?_
        refine r_goto 33 dX12_fitting_279 rfl ?_
        exact Ex.weak h ⟨rfl, rfl, rfl, rfl, rfl, rfl, rfl, rfl, trivial⟩

def snF (Q : QT) (n : Nat) (r : Int) : Nat → Bool := fun p => if r = -1 then decide (p < nPp Q) else decide (p = r.toNat) || tb (Q 50 r.toNat) p || decide (p < nPp Q ∧ plF Q n p = plF Q n r.toNat)
def WFk (Q : QT) : Prop := ∀ r, r < 12 → Q 50 r = bI 12 (fun p => tb (Q 50 r) p)
def HoldsV (Q : QT) (I : IM) : Prop := ∀ f i, (f = 50 ∨ f = 77 ∨ f = 78 ∨ f = 79 ∨ f = 83 ∨ f = 84) → I f 0 i = Q f i
def kd (Q : QT) (c k : Nat) : Int := Q 77 (400 * c + k)
def nm (Q : QT) (c k : Nat) : Int := Q 78 (400 * c + k)
def ln (Q : QT) (c : Nat) : Nat := (Q 79 c).toNat
def ht (Q : QT) (c : Nat) : Nat → Nat
  | 0 => 0
  | k + 1 => if kd Q c k = 0 ∨ kd Q c k = 1 ∨ kd Q c k = 2 then ht Q c k + 1 else if kd Q c k = 3 ∨ kd Q c k = 4 then ht Q c k else ht Q c k - 1
def WFv (Q : QT) (c : Nat) : Prop := (1 ≤ Q 79 c ∧ Q 79 c ≤ 400) ∧ (∀ k, k < ln Q c → (0 ≤ kd Q c k ∧ kd Q c k ≤ 6) ∧ (kd Q c k = 0 → 0 ≤ nm Q c k ∧ nm Q c k < 10) ∧ (kd Q c k = 1 → 0 ≤ nm Q c k ∧ nm Q c k < 8) ∧ (kd Q c k = 4 → 0 ≤ nm Q c k ∧ nm Q c k < 6) ∧ (3 ≤ kd Q c k → 1 ≤ ht Q c k) ∧ (5 ≤ kd Q c k → 2 ≤ ht Q c k)) ∧ ht Q c (ln Q c) = 1
theorem ht_le (Q : QT) (c : Nat) : ∀ k, ht Q c k ≤ k := by
  intro k
  induction k with
  | zero => exact Nat.le_refl _
  | succ k ih => unfold ht; split
                 · omega
                 · split <;> omega
def vl (Q : QT) (n s : Nat) (seen : Nat → Bool) (kind num : Int) (A B : Nat → Bool) : Nat → Bool := fun p =>
  if kind = 0 then mkF Q n p num.toNat && seen p
  else if kind = 1 then decide (p < nPp Q ∧ plF Q n p = num) && seen p
  else if kind = 2 then decide (p = s) && seen p
  else if kind = 3 then seen p && !A p
  else if kind = 4 then decide (p < nPp Q ∧ ¬ aAnd (bI 12 (fun q => tiF Q n p num.toNat q)) (bI 12 A) = 0) && seen p
  else if kind = 5 then A p && B p
  else A p || B p
def tg (Q : QT) (c k : Nat) : Nat := ht Q c (k + 1) - 1
def ev (Q : QT) (n s : Nat) (seen : Nat → Bool) (c : Nat) : Nat → Nat → Nat → Bool
  | 0 => fun _ _ => false
  | k + 1 => fun i => if i = tg Q c k then vl Q n s seen (kd Q c k) (nm Q c k) (ev Q n s seen c k (tg Q c k)) (ev Q n s seen c k (tg Q c k + 1)) else ev Q n s seen c k i
def evS (Q : QT) (n s : Nat) (seen : Nat → Bool) (c : Nat) : Nat → Bool := ev Q n s seen c (ln Q c) 0
def fitV (Q : QT) (n s : Nat) (seen : Nat → Bool) (c : Nat) : Int := if Q 83 c = 0 then bI 12 (evS Q n s seen c) else if (cnt (evS Q n s seen c) 12 : Int) ≤ 1 then bI 12 (evS Q n s seen c) else 0
def evI (Q : QT) (n s : Nat) (seen : Nat → Bool) (c k : Nat) (F : Nat → Int) : Prop := ∀ i, i < ht Q c k → F i = bI 12 (ev Q n s seen c k i)
theorem evI_step {Q : QT} {n s : Nat} {seen : Nat → Bool} {c k : Nat} {F : Nat → Int} (h : evI Q n s seen c k F) {t : Nat} (ht' : t = tg Q c k) {v : Int} (hv : v = bI 12 (vl Q n s seen (kd Q c k) (nm Q c k) (ev Q n s seen c k (tg Q c k)) (ev Q n s seen c k (tg Q c k + 1)))) : evI Q n s seen c (k + 1) (fun j => if j = t then v else F j) := by
  intro i hi
  have hle : ht Q c (k + 1) ≤ ht Q c k + 1 := by
    rw [show ht Q c (k + 1) = if kd Q c k = 0 ∨ kd Q c k = 1 ∨ kd Q c k = 2 then ht Q c k + 1 else if kd Q c k = 3 ∨ kd Q c k = 4 then ht Q c k else ht Q c k - 1 from rfl]
    split
    · omega
    · split <;> omega
  unfold ev
  dsimp only
  by_cases e : i = t
  · rw [if_pos e, if_pos (e.trans ht'), hv]
  · rw [if_neg e, if_neg (fun e2 => e (e2.trans ht'.symm))]
    refine h i ?_
    unfold tg at ht'
    omega
section FI
variable {l : Launch} {G : Gt} {d : Nat} {Q : QT} {M : Mem}
theorem KX12_seenBy {n : Nat} {r : Int} (hS : Sh M.2.1) (hw : WFc Q) (hk : WFk Q) (hn : n ≤ nCh Q) (hH : HoldsC Q M.1) (hV : HoldsV Q M.1) (hL : Laid Q M.1 1 n) (hr : r = -1 ∨ (0 ≤ r ∧ r < 12)) : Cl l G (d + 1) mX12_seenBy [vR (some (3, 0)), vI r] M (some (vI (bI 12 (snF Q n r)))) M := by
  have h12 := nPp_le hw
  have hpp := nPp_eq hw
  have e1 := hH.1 48 0 (by omega)
  refine xX12_seenBy_0 hS ⟨fun c => ?_, fun c => ?_⟩
  · have hr2 : 0 ≤ r ∧ r < 12 := by omega
    have er : r = (r.toNat : Int) := by omega
    have hp := plF_in hw n r.toNat hn (by omega)
    have ep := hL.2.2 r.toNat (by omega)
    have ei : (12 + r).toNat = 12 * 1 + r.toNat := by omega
    have e2 := hV 50 r.toNat (by omega)
    refine ⟨⟨by omega, hr2, by unfold InR; omega, by omega⟩, bI 12 (fun p => decide (p < nPp Q ∧ plF Q n p = plF Q n r.toNat)), M, ?_, ?_, rfl⟩
    · rw [ei, ep]
      have h := KX12_standing (l := l) (G := G) (d := d) (a := (plF Q n r.toNat).toNat) hS hw hH hL (by omega)
      rw [show (((plF Q n r.toNat).toNat : Nat) : Int) = plF Q n r.toNat by omega] at h
      exact h
    · rw [e2, hk r.toNat (by omega)]
      have e3 : aShl 1 r = bI 12 (fun i => decide (i = r.toNat)) := by
        have := bI_one (n := 12) (s := r.toNat) (by omega) (by omega)
        rwa [← er] at this
      rw [e3, bI_or (by omega), bI_or (by omega)]
      refine congrArg (fun x => some (vI x)) (bI_ext fun i hi => ?_)
      unfold snF
      rw [if_neg c]
  · subst c
    rw [e1, hpp]
    refine ⟨⟨by omega, ?_⟩, ?_, rfl⟩
    · rw [pow_sub_one (by omega)]; exact bI_in (by omega) _
    · rw [pow_sub_one (by omega)]
      refine congrArg (fun x => some (vI x)) ?_
      refine Eq.symm ?_
      rw [bI_ext (p := fun _ => true) (q := snF Q n (-1)) (fun i hi => by unfold snF; rw [if_pos rfl]; simp [hi])]
      exact bI_len h12 (fun i h1 h2 => by unfold snF; rw [if_pos rfl]; simp; omega)
end FI
