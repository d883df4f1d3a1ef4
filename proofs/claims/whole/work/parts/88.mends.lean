/-! mends -/
set_option maxRecDepth 4000 in
theorem xX12_fittingAll_0 {l : Launch} {G : Gt} {d : Nat} {M M' : Mem} {r : Option Vl} {x1 : Int} {x2 : Int} (hS : Sh M.2.1) (h : 
    ((0 ≤ x1 ∧ x1 < 8)) ∧ (∃ (r_4 : Int) (M_2 : Mem), Cl l G d mX12_fitting [vR (some (3, 0)), vI x1, vI x2, vI (-1)] ((upI M.1 83 0 x1.toNat 0), M.2.1, M.2.2) (some (vI r_4)) M_2 ∧ Sh M_2.2.1 ∧ (((0 ≤ x1 ∧ x1 < 8) ∧ ((M.1 83 0 x1.toNat) = 0 ∨ (M.1 83 0 x1.toNat) = 1)) ∧ r = some (vI r_4) ∧ M' = ((upI M_2.1 83 0 x1.toNat (M.1 83 0 x1.toNat)), M_2.2.1, M_2.2.2)))) : Cl l G (d + 1) mX12_fittingAll [vR (some (3, 0)), vI x1, vI x2] M r M' := by
  show Ex l G (d + 1) mX12_fittingAll 0 [some (vR (some (3, 0))), some (vI x1), some (vI x2), none, none] [] M r M'
  obtain ⟨o_1, h⟩ := h
  refine r_aload_n 1 dX12_fittingAll_0 rfl rfl ?_
  refine g_R 4 dX12_fittingAll_1 rfl rfl rfl fr_12_116 (sh_12_46 hS) ?_
  refine r_iload_n 5 dX12_fittingAll_4 rfl rfl ?_
  refine a_Z 8 6 dX12_fittingAll_5 rfl rfl rfl rfl o_1 rfl ?_
  refine r_istore_n (ls' := [some (vR (some (3, 0))), some (vI x1), some (vI x2), some (vI (M.1 83 0 x1.toNat)), none]) 7 dX12_fittingAll_6 rfl rfl rfl rfl ?_
  refine r_aload_n 8 dX12_fittingAll_7 rfl rfl ?_
  refine g_R 11 dX12_fittingAll_8 rfl rfl rfl fr_12_116 (sh_12_46 hS) ?_
  refine r_iload_n 12 dX12_fittingAll_11 rfl rfl ?_
  refine r_iconst 13 dX12_fittingAll_12 rfl (InR_of rfl) ?_
  refine s_Z 8 14 dX12_fittingAll_13 rfl rfl (by decide) rfl rfl o_1 (.inl rfl) ?_
  refine r_aload_n 15 dX12_fittingAll_14 rfl rfl ?_
  refine r_iload_n 16 dX12_fittingAll_15 rfl rfl ?_
  refine r_iload_n 17 dX12_fittingAll_16 rfl rfl ?_
  refine r_iconst 18 dX12_fittingAll_17 rfl (InR_of rfl) ?_
  obtain ⟨r_4, M_2, hc_3, hS, h⟩ := h
  refine v_1 (ci := 12) (C := (RX12, TX12, 68)) [vI x1, vI x2, vI (-1)] [] 21 dX12_fittingAll_18 rfl rfl rfl rfl rfl mo_X12_fitting ml_12_334 rfl rfl hc_3 ?_
  obtain ⟨⟨o_5, o_6⟩, h⟩ := h
  refine r_istore (ls' := [some (vR (some (3, 0))), some (vI x1), some (vI x2), some (vI (M.1 83 0 x1.toNat)), some (vI r_4)]) 23 dX12_fittingAll_21 rfl rfl rfl rfl ?_
  refine r_aload_n 24 dX12_fittingAll_23 rfl rfl ?_
  refine g_R 27 dX12_fittingAll_24 rfl rfl rfl fr_12_116 (sh_12_46 hS) ?_
  refine r_iload_n 28 dX12_fittingAll_27 rfl rfl ?_
  refine r_iload_n 29 dX12_fittingAll_28 rfl rfl ?_
  refine s_Z 8 30 dX12_fittingAll_29 rfl rfl (by decide) rfl rfl o_5 o_6 ?_
  refine r_iload 32 dX12_fittingAll_30 rfl rfl ?_
  exact r_iret dX12_fittingAll_32 rfl (.inl rfl) h.1 h.2

set_option maxRecDepth 4000 in
theorem xX12_mends_0 {l : Launch} {G : Gt} {d : Nat} {M M' : Mem} {r : Option Vl} {x1 : Int} {x2 : Int} {x3 : Int} {x4 : Int} (hS : Sh M.2.1) (h : 
    (InR ((M.1 3 0 33) - 1)) ∧ ((¬ (0 ≤ x1 ∧ x1 < (M.1 3 0 33)) → r = some (vI (-1)) ∧ M' = M) ∧ (0 ≤ x1 ∧ x1 < (M.1 3 0 33) → (InR ((M.1 48 0 0) - 1)) ∧ ((¬ (0 ≤ x2 ∧ x2 < (M.1 48 0 0)) → r = some (vI (-1)) ∧ M' = M) ∧ (0 ≤ x2 ∧ x2 < (M.1 48 0 0) → (InR ((M.1 48 0 0) - 1)) ∧ ((¬ (0 ≤ x3 ∧ x3 < (M.1 48 0 0)) → r = some (vI (-1)) ∧ M' = M) ∧ (0 ≤ x3 ∧ x3 < (M.1 48 0 0) → (0 ≤ x4 ∧ x4 ≤ 999 → ∃ (M_4 : Mem), Cl l G (d + 1) mX12_lays [vR (some (3, 0)), vI 0, vI x4] M none M_4 ∧ (∃ (M_6 : Mem), Cl l G (d + 1) mX12_lays [vR (some (3, 0)), vI 1, vI x4] M_4 none M_6 ∧ (∃ (r_10 : Int) (M_8 : Mem), Cl l G (d + 1) mX12_fittingAll [vR (some (3, 0)), vI x1, vI x2] M_6 (some (vI r_10)) M_8 ∧ (((0 ≤ x3 ∧ x3 < 32)) ∧ ((¬ (r_10 = (aShl 1 x3)) → Ex l G (d + 2) mX12_mends 77 [some (vR (some (3, 0))), some (vI x1), some (vI x2), some (vI x3), some (vI x4), some (vI r_10), some (vI (-2)), some (vI 0), some (vI 0), none, none, none, none] [] M_8 r M') ∧ (r_10 = (aShl 1 x3) → r = some (vI 32) ∧ M' = M_8)))))) ∧ (¬ (0 ≤ x4 ∧ x4 ≤ 999) → r = some (vI (-1)) ∧ M' = M)))))))) : Cl l G (d + 2) mX12_mends [vR (some (3, 0)), vI x1, vI x2, vI x3, vI x4] M r M' := by
  show Ex l G (d + 2) mX12_mends 0 [some (vR (some (3, 0))), some (vI x1), some (vI x2), some (vI x3), some (vI x4), none, none, none, none, none, none, none, none] [] M r M'
  obtain ⟨o_1, h⟩ := h
  refine r_aload_n 1 dX12_mends_0 rfl rfl ?_
  refine r_iload_n 2 dX12_mends_1 rfl rfl ?_
  refine v_1 (ci := 12) (C := (RX12, TX12, 68)) [vI x1] [] 5 dX12_mends_2 rfl rfl rfl rfl rfl mo_X12_isCover ml_12_331 rfl rfl (KX12_isCover o_1) ?_
  refine r_if_eq 8 32 dX12_mends_5 rfl rfl (fun c => ?_) (fun c => ?_)
  · have h := h.1 (b2_0.mp c)
    refine r_iconst 33 dX12_mends_32 rfl (InR_of rfl) ?_
    exact r_iret dX12_mends_33 rfl (.inl rfl) h.1 h.2
  · have h := h.2 (b2_1.mp c)
    obtain ⟨o_2, h⟩ := h
    refine r_aload_n 9 dX12_mends_8 rfl rfl ?_
    refine r_iload_n 10 dX12_mends_9 rfl rfl ?_
    refine v_1 (ci := 12) (C := (RX12, TX12, 68)) [vI x2] [] 13 dX12_mends_10 rfl rfl rfl rfl rfl mo_X12_isPerson ml_12_175 rfl rfl (KX12_isPerson hS o_2) ?_
    refine r_if_eq 16 32 dX12_mends_13 rfl rfl (fun c => ?_) (fun c => ?_)
    · have h := h.1 (b2_0.mp c)
      refine r_iconst 33 dX12_mends_32 rfl (InR_of rfl) ?_
      exact r_iret dX12_mends_33 rfl (.inl rfl) h.1 h.2
    · have h := h.2 (b2_1.mp c)
      obtain ⟨o_3, h⟩ := h
      refine r_aload_n 17 dX12_mends_16 rfl rfl ?_
      refine r_iload_n 18 dX12_mends_17 rfl rfl ?_
      refine v_1 (ci := 12) (C := (RX12, TX12, 68)) [vI x3] [] 21 dX12_mends_18 rfl rfl rfl rfl rfl mo_X12_isPerson ml_12_175 rfl rfl (KX12_isPerson hS o_3) ?_
      refine r_if_eq 24 32 dX12_mends_21 rfl rfl (fun c => ?_) (fun c => ?_)
      · have h := h.1 (b2_0.mp c)
        refine r_iconst 33 dX12_mends_32 rfl (InR_of rfl) ?_
        exact r_iret dX12_mends_33 rfl (.inl rfl) h.1 h.2
      · have h := h.2 (b2_1.mp c)
        refine r_iload 26 dX12_mends_24 rfl rfl ?_
        refine c_1 [vI x4] [] 29 dX12_mends_26 rfl rfl mo_X12_isDay ml_12_170 rfl rfl (KX12_isDay) ?_
        refine r_if_ne 32 34 dX12_mends_29 rfl rfl (fun c => ?_) (fun c => ?_)
        · have h := h.1 (b2_1.mp c)
          refine r_aload_n 35 dX12_mends_34 rfl rfl ?_
          refine r_iconst 36 dX12_mends_35 rfl (InR_of rfl) ?_
          refine r_iload 38 dX12_mends_36 rfl rfl ?_
          obtain ⟨M_4, hc_5, h⟩ := h
          refine v_0 (ci := 12) (C := (RX12, TX12, 68)) [vI 0, vI x4] [] 41 dX12_mends_38 rfl rfl rfl rfl rfl mo_X12_lays ml_12_198 rfl rfl hc_5 ?_
          refine r_aload_n 42 dX12_mends_41 rfl rfl ?_
          refine r_iconst 43 dX12_mends_42 rfl (InR_of rfl) ?_
          refine r_iload 45 dX12_mends_43 rfl rfl ?_
          obtain ⟨M_6, hc_7, h⟩ := h
          refine v_0 (ci := 12) (C := (RX12, TX12, 68)) [vI 1, vI x4] [] 48 dX12_mends_45 rfl rfl rfl rfl rfl mo_X12_lays ml_12_198 rfl rfl hc_7 ?_
          refine r_aload_n 49 dX12_mends_48 rfl rfl ?_
          refine r_iload_n 50 dX12_mends_49 rfl rfl ?_
          refine r_iload_n 51 dX12_mends_50 rfl rfl ?_
          obtain ⟨r_10, M_8, hc_9, h⟩ := h
          refine v_1 (ci := 12) (C := (RX12, TX12, 68)) [vI x1, vI x2] [] 54 dX12_mends_51 rfl rfl rfl rfl rfl mo_X12_fittingAll ml_12_446 rfl rfl hc_9 ?_
          obtain ⟨o_11, h⟩ := h
          refine r_istore (ls' := [some (vR (some (3, 0))), some (vI x1), some (vI x2), some (vI x3), some (vI x4), some (vI r_10), none, none, none, none, none, none, none]) 56 dX12_mends_54 rfl rfl rfl rfl ?_
          refine r_iload 58 dX12_mends_56 rfl rfl ?_
          refine r_iconst 59 dX12_mends_58 rfl (InR_of rfl) ?_
          refine r_iload_n 60 dX12_mends_59 rfl rfl ?_
          refine r_ishl 61 dX12_mends_60 rfl o_11 ?_
          refine r_icmp_ne 64 67 dX12_mends_61 rfl rfl (fun c => ?_) (fun c => ?_)
          · have h := h.1 (c)
            refine r_bipush 69 dX12_mends_67 rfl rfl ?_
            refine r_istore (ls' := [some (vR (some (3, 0))), some (vI x1), some (vI x2), some (vI x3), some (vI x4), some (vI r_10), some (vI (-2)), none, none, none, none, none, none]) 71 dX12_mends_69 rfl rfl rfl rfl ?_
            refine r_iconst 72 dX12_mends_71 rfl (InR_of rfl) ?_
            refine r_istore (ls' := [some (vR (some (3, 0))), some (vI x1), some (vI x2), some (vI x3), some (vI x4), some (vI r_10), some (vI (-2)), some (vI 0), none, none, none, none, none]) 74 dX12_mends_72 rfl rfl rfl rfl ?_
            refine r_iconst 75 dX12_mends_74 rfl (InR_of rfl) ?_
            refine r_istore (ls' := [some (vR (some (3, 0))), some (vI x1), some (vI x2), some (vI x3), some (vI x4), some (vI r_10), some (vI (-2)), some (vI 0), some (vI 0), none, none, none, none]) 77 dX12_mends_75 rfl rfl rfl rfl ?_
            exact h
          · have h := h.2 (Decidable.not_not.mp c)
            refine r_bipush 66 dX12_mends_64 rfl rfl ?_
            exact r_iret dX12_mends_66 rfl (.inl rfl) h.1 h.2
        · have h := h.2 (b2_0.mp (Decidable.not_not.mp c))
          refine r_iconst 33 dX12_mends_32 rfl (InR_of rfl) ?_
          exact r_iret dX12_mends_33 rfl (.inl rfl) h.1 h.2
set_option maxRecDepth 4000 in
theorem xX12_mends_77 {l : Launch} {G : Gt} {d : Nat} {M M' : Mem} {r : Option Vl} {x1 : Int} {x2 : Int} {x3 : Int} {x4 : Int} {x5 : Int} {x6 : Int} {x7 : Int} {x8 : Int} (h : 
    (32 ≤ x8 → r = some (vI x6) ∧ M' = M) ∧ (¬ (32 ≤ x8) → (0 ≤ x8) ∧ ((10 ≤ (x8 % 16) → (InR ((x8 % 16) - 10) ∧ (0 ≤ x2 ∧ x2 < 32)) ∧ (∃ (r_6 : Int) (M_4 : Mem), Cl l G (d + 1) mX12_tiedSet [vR (some (3, 0)), vI 1, vI ((x8 % 16) - 10), vI (aShl 1 x2)] M (some (vI r_6)) M_4 ∧ Sh M_4.2.1 ∧ ((0 ≤ (x8 % 16) ∧ (x8 % 16) < 17)) ∧ (InR ((M_4.1 51 0 (x8 % 16).toNat) + (if 16 ≤ x8 then (M_4.1 51 0 16) else 0 : Int))) ∧ ((0 ≤ x3 ∧ x3 < 32)) ∧ (InR (x8 + 1)) ∧ Ex l G (d + 2) mX12_mends 77 [some (vR (some (3, 0))), some (vI x1), some (vI x2), some (vI x3), some (vI x4), some (vI x5), some (vI (if (if 16 ≤ x8 then (aAnd x5 (aXor r_6 (-1))) else (aAnd x5 r_6) : Int) = (aShl 1 x3) then (if x6 = (-2) then x8 else (if x7 ≤ ((M_4.1 51 0 (x8 % 16).toNat) + (if 16 ≤ x8 then (M_4.1 51 0 16) else 0 : Int)) then x6 else x8 : Int) : Int) else x6 : Int)), some (vI (if (if 16 ≤ x8 then (aAnd x5 (aXor r_6 (-1))) else (aAnd x5 r_6) : Int) = (aShl 1 x3) then (if x6 = (-2) then ((M_4.1 51 0 (x8 % 16).toNat) + (if 16 ≤ x8 then (M_4.1 51 0 16) else 0 : Int)) else (if x7 ≤ ((M_4.1 51 0 (x8 % 16).toNat) + (if 16 ≤ x8 then (M_4.1 51 0 16) else 0 : Int)) then x7 else ((M_4.1 51 0 (x8 % 16).toNat) + (if 16 ≤ x8 then (M_4.1 51 0 16) else 0 : Int)) : Int) : Int) else x7 : Int)), some (vI (x8 + 1)), none, none, none, none] [] M_4 r M')) ∧ (¬ (10 ≤ (x8 % 16)) → ∃ (r_23 : Int) (M_21 : Mem), Cl l G (d + 1) mX12_markedSet [vR (some (3, 0)), vI 1, vI (x8 % 16)] M (some (vI r_23)) M_21 ∧ Sh M_21.2.1 ∧ ((0 ≤ (x8 % 16) ∧ (x8 % 16) < 17)) ∧ (InR ((M_21.1 51 0 (x8 % 16).toNat) + (if 16 ≤ x8 then (M_21.1 51 0 16) else 0 : Int))) ∧ ((0 ≤ x3 ∧ x3 < 32)) ∧ (InR (x8 + 1)) ∧ Ex l G (d + 2) mX12_mends 77 [some (vR (some (3, 0))), some (vI x1), some (vI x2), some (vI x3), some (vI x4), some (vI x5), some (vI (if (if 16 ≤ x8 then (aAnd x5 (aXor r_23 (-1))) else (aAnd x5 r_23) : Int) = (aShl 1 x3) then (if x6 = (-2) then x8 else (if x7 ≤ ((M_21.1 51 0 (x8 % 16).toNat) + (if 16 ≤ x8 then (M_21.1 51 0 16) else 0 : Int)) then x6 else x8 : Int) : Int) else x6 : Int)), some (vI (if (if 16 ≤ x8 then (aAnd x5 (aXor r_23 (-1))) else (aAnd x5 r_23) : Int) = (aShl 1 x3) then (if x6 = (-2) then ((M_21.1 51 0 (x8 % 16).toNat) + (if 16 ≤ x8 then (M_21.1 51 0 16) else 0 : Int)) else (if x7 ≤ ((M_21.1 51 0 (x8 % 16).toNat) + (if 16 ≤ x8 then (M_21.1 51 0 16) else 0 : Int)) then x7 else ((M_21.1 51 0 (x8 % 16).toNat) + (if 16 ≤ x8 then (M_21.1 51 0 16) else 0 : Int)) : Int) : Int) else x7 : Int)), some (vI (x8 + 1)), none, none, none, none] [] M_21 r M')))) : Ex l G (d + 2) mX12_mends 77 [some (vR (some (3, 0))), some (vI x1), some (vI x2), some (vI x3), some (vI x4), some (vI x5), some (vI x6), some (vI x7), some (vI x8), none, none, none, none] [] M r M' := by
  refine r_iload 79 dX12_mends_77 rfl rfl ?_
  refine r_bipush 81 dX12_mends_79 rfl rfl ?_
  refine r_icmp_ge 84 219 dX12_mends_81 rfl rfl (fun c => ?_) (fun c => ?_)
  · have h := h.1 (c)
    refine r_iload 221 dX12_mends_219 rfl rfl ?_
    exact r_iret dX12_mends_221 rfl (.inl rfl) h.1 h.2
  · have h := h.2 (c)
    obtain ⟨o_1, h⟩ := h
    refine r_iload 86 dX12_mends_84 rfl rfl ?_
    refine r_bipush 88 dX12_mends_86 rfl rfl ?_
    refine r_irem 89 dX12_mends_88 rfl ⟨o_1, by decide⟩ ?_
    refine r_istore (ls' := [some (vR (some (3, 0))), some (vI x1), some (vI x2), some (vI x3), some (vI x4), some (vI x5), some (vI x6), some (vI x7), some (vI x8), some (vI (x8 % 16)), none, none, none]) 91 dX12_mends_89 rfl rfl rfl rfl ?_
    refine r_iload 93 dX12_mends_91 rfl rfl ?_
    refine r_bipush 95 dX12_mends_93 rfl rfl ?_
    refine r_icmp_ge 98 108 dX12_mends_95 rfl rfl (fun c => ?_) (fun c => ?_)
    · have h := h.1 (c)
      obtain ⟨⟨o_2, o_3⟩, h⟩ := h
      refine r_aload_n 109 dX12_mends_108 rfl rfl ?_
      refine r_iconst 110 dX12_mends_109 rfl (InR_of rfl) ?_
      refine r_iload 112 dX12_mends_110 rfl rfl ?_
      refine r_bipush 114 dX12_mends_112 rfl rfl ?_
      refine r_isub 115 dX12_mends_114 rfl o_2 ?_
      refine r_iconst 116 dX12_mends_115 rfl (InR_of rfl) ?_
      refine r_iload_n 117 dX12_mends_116 rfl rfl ?_
      refine r_ishl 118 dX12_mends_117 rfl o_3 ?_
      obtain ⟨r_6, M_4, hc_5, hS, h⟩ := h
      refine v_1 (ci := 12) (C := (RX12, TX12, 68)) [vI 1, vI ((x8 % 16) - 10), vI (aShl 1 x2)] [] 121 dX12_mends_118 rfl rfl rfl rfl rfl mo_X12_tiedSet ml_12_325 rfl rfl hc_5 ?_
      obtain ⟨o_7, h⟩ := h
      refine r_istore (ls' := [some (vR (some (3, 0))), some (vI x1), some (vI x2), some (vI x3), some (vI x4), some (vI x5), some (vI x6), some (vI x7), some (vI x8), some (vI (x8 % 16)), some (vI r_6), none, none]) 123 dX12_mends_121 rfl rfl rfl rfl ?_
      refine r_aload_n 124 dX12_mends_123 rfl rfl ?_
      refine g_R 127 dX12_mends_124 rfl rfl rfl fr_12_19 (sh_12_4 hS) ?_
      refine r_iload 129 dX12_mends_127 rfl rfl ?_
      refine a_I 17 130 dX12_mends_129 rfl rfl rfl rfl o_7 rfl ?_
      refine r_iload 132 dX12_mends_130 rfl rfl ?_
      refine r_bipush 134 dX12_mends_132 rfl rfl ?_
      have hJ_8 : Ex l G (d + 2) mX12_mends 148 [some (vR (some (3, 0))), some (vI x1), some (vI x2), some (vI x3), some (vI x4), some (vI x5), some (vI x6), some (vI x7), some (vI x8), some (vI (x8 % 16)), some (vI r_6), none, none] [vI (if 16 ≤ x8 then (M_4.1 51 0 16) else 0 : Int), vI (M_4.1 51 0 (x8 % 16).toNat)] M_4 r M' := by
        obtain ⟨o_10, h⟩ := h
        refine r_iadd 149 dX12_mends_148 rfl o_10 ?_
        refine r_istore (ls' := [some (vR (some (3, 0))), some (vI x1), some (vI x2), some (vI x3), some (vI x4), some (vI x5), some (vI x6), some (vI x7), some (vI x8), some (vI (x8 % 16)), some (vI r_6), some (vI ((M_4.1 51 0 (x8 % 16).toNat) + (if 16 ≤ x8 then (M_4.1 51 0 16) else 0 : Int))), none]) 151 dX12_mends_149 rfl rfl rfl rfl ?_
        refine r_iload 153 dX12_mends_151 rfl rfl ?_
        refine r_bipush 155 dX12_mends_153 rfl rfl ?_
        have hJ_11 : Ex l G (d + 2) mX12_mends 173 [some (vR (some (3, 0))), some (vI x1), some (vI x2), some (vI x3), some (vI x4), some (vI x5), some (vI x6), some (vI x7), some (vI x8), some (vI (x8 % 16)), some (vI r_6), some (vI ((M_4.1 51 0 (x8 % 16).toNat) + (if 16 ≤ x8 then (M_4.1 51 0 16) else 0 : Int))), none] [vI (if 16 ≤ x8 then (aAnd x5 (aXor r_6 (-1))) else (aAnd x5 r_6) : Int)] M_4 r M' := by
          obtain ⟨o_13, h⟩ := h
          refine r_iconst 174 dX12_mends_173 rfl (InR_of rfl) ?_
          refine r_iload_n 175 dX12_mends_174 rfl rfl ?_
          refine r_ishl 176 dX12_mends_175 rfl o_13 ?_
          have hJ_14 : Ex l G (d + 2) mX12_mends 184 [some (vR (some (3, 0))), some (vI x1), some (vI x2), some (vI x3), some (vI x4), some (vI x5), some (vI x6), some (vI x7), some (vI x8), some (vI (x8 % 16)), some (vI r_6), some (vI ((M_4.1 51 0 (x8 % 16).toNat) + (if 16 ≤ x8 then (M_4.1 51 0 16) else 0 : Int))), none] [vI (if (if 16 ≤ x8 then (aAnd x5 (aXor r_6 (-1))) else (aAnd x5 r_6) : Int) = (aShl 1 x3) then 1 else 0 : Int)] M_4 r M' := by
            refine r_istore (ls' := [some (vR (some (3, 0))), some (vI x1), some (vI x2), some (vI x3), some (vI x4), some (vI x5), some (vI x6), some (vI x7), some (vI x8), some (vI (x8 % 16)), some (vI r_6), some (vI ((M_4.1 51 0 (x8 % 16).toNat) + (if 16 ≤ x8 then (M_4.1 51 0 16) else 0 : Int))), some (vI (if (if 16 ≤ x8 then (aAnd x5 (aXor r_6 (-1))) else (aAnd x5 r_6) : Int) = (aShl 1 x3) then 1 else 0 : Int))]) 186 dX12_mends_184 rfl rfl rfl rfl ?_
            refine r_iload 188 dX12_mends_186 rfl rfl ?_
            have hJ_16 : Ex l G (d + 2) mX12_mends 213 [some (vR (some (3, 0))), some (vI x1), some (vI x2), some (vI x3), some (vI x4), some (vI x5), some (vI (if (if 16 ≤ x8 then (aAnd x5 (aXor r_6 (-1))) else (aAnd x5 r_6) : Int) = (aShl 1 x3) then (if x6 = (-2) then x8 else (if x7 ≤ ((M_4.1 51 0 (x8 % 16).toNat) + (if 16 ≤ x8 then (M_4.1 51 0 16) else 0 : Int)) then x6 else x8 : Int) : Int) else x6 : Int)), some (vI (if (if 16 ≤ x8 then (aAnd x5 (aXor r_6 (-1))) else (aAnd x5 r_6) : Int) = (aShl 1 x3) then (if x6 = (-2) then ((M_4.1 51 0 (x8 % 16).toNat) + (if 16 ≤ x8 then (M_4.1 51 0 16) else 0 : Int)) else (if x7 ≤ ((M_4.1 51 0 (x8 % 16).toNat) + (if 16 ≤ x8 then (M_4.1 51 0 16) else 0 : Int)) then x7 else ((M_4.1 51 0 (x8 % 16).toNat) + (if 16 ≤ x8 then (M_4.1 51 0 16) else 0 : Int)) : Int) : Int) else x7 : Int)), some (vI x8), some (vI (x8 % 16)), some (vI r_6), some (vI ((M_4.1 51 0 (x8 % 16).toNat) + (if 16 ≤ x8 then (M_4.1 51 0 16) else 0 : Int))), some (vI (if (if 16 ≤ x8 then (aAnd x5 (aXor r_6 (-1))) else (aAnd x5 r_6) : Int) = (aShl 1 x3) then 1 else 0 : Int))] [] M_4 r M' := by
              obtain ⟨o_20, h⟩ := h
              refine r_iinc (ls' := [some (vR (some (3, 0))), some (vI x1), some (vI x2), some (vI x3), some (vI x4), some (vI x5), some (vI (if (if 16 ≤ x8 then (aAnd x5 (aXor r_6 (-1))) else (aAnd x5 r_6) : Int) = (aShl 1 x3) then (if x6 = (-2) then x8 else (if x7 ≤ ((M_4.1 51 0 (x8 % 16).toNat) + (if 16 ≤ x8 then (M_4.1 51 0 16) else 0 : Int)) then x6 else x8 : Int) : Int) else x6 : Int)), some (vI (if (if 16 ≤ x8 then (aAnd x5 (aXor r_6 (-1))) else (aAnd x5 r_6) : Int) = (aShl 1 x3) then (if x6 = (-2) then ((M_4.1 51 0 (x8 % 16).toNat) + (if 16 ≤ x8 then (M_4.1 51 0 16) else 0 : Int)) else (if x7 ≤ ((M_4.1 51 0 (x8 % 16).toNat) + (if 16 ≤ x8 then (M_4.1 51 0 16) else 0 : Int)) then x7 else ((M_4.1 51 0 (x8 % 16).toNat) + (if 16 ≤ x8 then (M_4.1 51 0 16) else 0 : Int)) : Int) : Int) else x7 : Int)), some (vI (x8 + 1)), some (vI (x8 % 16)), some (vI r_6), some (vI ((M_4.1 51 0 (x8 % 16).toNat) + (if 16 ≤ x8 then (M_4.1 51 0 16) else 0 : Int))), some (vI (if (if 16 ≤ x8 then (aAnd x5 (aXor r_6 (-1))) else (aAnd x5 r_6) : Int) = (aShl 1 x3) then 1 else 0 : Int))]) 216 dX12_mends_213 rfl rfl rfl rfl o_20 rfl ?_
              refine r_goto 77 dX12_mends_216 rfl ?_
              exact Ex.weak h ⟨rfl, rfl, rfl, rfl, rfl, rfl, rfl, rfl, rfl, trivial⟩
            refine r_if_eq 191 213 dX12_mends_188 rfl rfl (fun c => ?_) (fun c => ?_)
            · have c_17 := b2_0.mp c
              exact (Ex.at hJ_16 (show [some (vR (some (3, 0))), some (vI x1), some (vI x2), some (vI x3), some (vI x4), some (vI x5), some (vI x6), some (vI x7), some (vI x8), some (vI (x8 % 16)), some (vI r_6), some (vI ((M_4.1 51 0 (x8 % 16).toNat) + (if 16 ≤ x8 then (M_4.1 51 0 16) else 0 : Int))), some (vI (if (if 16 ≤ x8 then (aAnd x5 (aXor r_6 (-1))) else (aAnd x5 r_6) : Int) = (aShl 1 x3) then 1 else 0 : Int))] = [some (vR (some (3, 0))), some (vI x1), some (vI x2), some (vI x3), some (vI x4), some (vI x5), some (vI (if (if 16 ≤ x8 then (aAnd x5 (aXor r_6 (-1))) else (aAnd x5 r_6) : Int) = (aShl 1 x3) then (if x6 = (-2) then x8 else (if x7 ≤ ((M_4.1 51 0 (x8 % 16).toNat) + (if 16 ≤ x8 then (M_4.1 51 0 16) else 0 : Int)) then x6 else x8 : Int) : Int) else x6 : Int)), some (vI (if (if 16 ≤ x8 then (aAnd x5 (aXor r_6 (-1))) else (aAnd x5 r_6) : Int) = (aShl 1 x3) then (if x6 = (-2) then ((M_4.1 51 0 (x8 % 16).toNat) + (if 16 ≤ x8 then (M_4.1 51 0 16) else 0 : Int)) else (if x7 ≤ ((M_4.1 51 0 (x8 % 16).toNat) + (if 16 ≤ x8 then (M_4.1 51 0 16) else 0 : Int)) then x7 else ((M_4.1 51 0 (x8 % 16).toNat) + (if 16 ≤ x8 then (M_4.1 51 0 16) else 0 : Int)) : Int) : Int) else x7 : Int)), some (vI x8), some (vI (x8 % 16)), some (vI r_6), some (vI ((M_4.1 51 0 (x8 % 16).toNat) + (if 16 ≤ x8 then (M_4.1 51 0 16) else 0 : Int))), some (vI (if (if 16 ≤ x8 then (aAnd x5 (aXor r_6 (-1))) else (aAnd x5 r_6) : Int) = (aShl 1 x3) then 1 else 0 : Int))] by simp only [if_neg c_17]) rfl rfl)
            · have c_17 := b2_1.mp c
              refine r_iload 193 dX12_mends_191 rfl rfl ?_
              refine r_bipush 195 dX12_mends_193 rfl rfl ?_
              refine r_icmp_eq 198 205 dX12_mends_195 rfl rfl (fun c => ?_) (fun c => ?_)
              · have c_18 := c
                refine r_iload 207 dX12_mends_205 rfl rfl ?_
                refine r_istore (ls' := [some (vR (some (3, 0))), some (vI x1), some (vI x2), some (vI x3), some (vI x4), some (vI x5), some (vI x8), some (vI x7), some (vI x8), some (vI (x8 % 16)), some (vI r_6), some (vI ((M_4.1 51 0 (x8 % 16).toNat) + (if 16 ≤ x8 then (M_4.1 51 0 16) else 0 : Int))), some (vI (if (if 16 ≤ x8 then (aAnd x5 (aXor r_6 (-1))) else (aAnd x5 r_6) : Int) = (aShl 1 x3) then 1 else 0 : Int))]) 209 dX12_mends_207 rfl rfl rfl rfl ?_
                refine r_iload 211 dX12_mends_209 rfl rfl ?_
                refine r_istore (ls' := [some (vR (some (3, 0))), some (vI x1), some (vI x2), some (vI x3), some (vI x4), some (vI x5), some (vI x8), some (vI ((M_4.1 51 0 (x8 % 16).toNat) + (if 16 ≤ x8 then (M_4.1 51 0 16) else 0 : Int))), some (vI x8), some (vI (x8 % 16)), some (vI r_6), some (vI ((M_4.1 51 0 (x8 % 16).toNat) + (if 16 ≤ x8 then (M_4.1 51 0 16) else 0 : Int))), some (vI (if (if 16 ≤ x8 then (aAnd x5 (aXor r_6 (-1))) else (aAnd x5 r_6) : Int) = (aShl 1 x3) then 1 else 0 : Int))]) 213 dX12_mends_211 rfl rfl rfl rfl ?_
                exact (Ex.at hJ_16 (show [some (vR (some (3, 0))), some (vI x1), some (vI x2), some (vI x3), some (vI x4), some (vI x5), some (vI x8), some (vI ((M_4.1 51 0 (x8 % 16).toNat) + (if 16 ≤ x8 then (M_4.1 51 0 16) else 0 : Int))), some (vI x8), some (vI (x8 % 16)), some (vI r_6), some (vI ((M_4.1 51 0 (x8 % 16).toNat) + (if 16 ≤ x8 then (M_4.1 51 0 16) else 0 : Int))), some (vI (if (if 16 ≤ x8 then (aAnd x5 (aXor r_6 (-1))) else (aAnd x5 r_6) : Int) = (aShl 1 x3) then 1 else 0 : Int))] = [some (vR (some (3, 0))), some (vI x1), some (vI x2), some (vI x3), some (vI x4), some (vI x5), some (vI (if (if 16 ≤ x8 then (aAnd x5 (aXor r_6 (-1))) else (aAnd x5 r_6) : Int) = (aShl 1 x3) then (if x6 = (-2) then x8 else (if x7 ≤ ((M_4.1 51 0 (x8 % 16).toNat) + (if 16 ≤ x8 then (M_4.1 51 0 16) else 0 : Int)) then x6 else x8 : Int) : Int) else x6 : Int)), some (vI (if (if 16 ≤ x8 then (aAnd x5 (aXor r_6 (-1))) else (aAnd x5 r_6) : Int) = (aShl 1 x3) then (if x6 = (-2) then ((M_4.1 51 0 (x8 % 16).toNat) + (if 16 ≤ x8 then (M_4.1 51 0 16) else 0 : Int)) else (if x7 ≤ ((M_4.1 51 0 (x8 % 16).toNat) + (if 16 ≤ x8 then (M_4.1 51 0 16) else 0 : Int)) then x7 else ((M_4.1 51 0 (x8 % 16).toNat) + (if 16 ≤ x8 then (M_4.1 51 0 16) else 0 : Int)) : Int) : Int) else x7 : Int)), some (vI x8), some (vI (x8 % 16)), some (vI r_6), some (vI ((M_4.1 51 0 (x8 % 16).toNat) + (if 16 ≤ x8 then (M_4.1 51 0 16) else 0 : Int))), some (vI (if (if 16 ≤ x8 then (aAnd x5 (aXor r_6 (-1))) else (aAnd x5 r_6) : Int) = (aShl 1 x3) then 1 else 0 : Int))] by simp only [if_pos c_17, if_pos c_18]) rfl rfl)
              · have c_18 := c
                refine r_iload 200 dX12_mends_198 rfl rfl ?_
                refine r_iload 202 dX12_mends_200 rfl rfl ?_
                refine r_icmp_ge 205 213 dX12_mends_202 rfl rfl (fun c => ?_) (fun c => ?_)
                · have c_19 := c
                  exact (Ex.at hJ_16 (show [some (vR (some (3, 0))), some (vI x1), some (vI x2), some (vI x3), some (vI x4), some (vI x5), some (vI x6), some (vI x7), some (vI x8), some (vI (x8 % 16)), some (vI r_6), some (vI ((M_4.1 51 0 (x8 % 16).toNat) + (if 16 ≤ x8 then (M_4.1 51 0 16) else 0 : Int))), some (vI (if (if 16 ≤ x8 then (aAnd x5 (aXor r_6 (-1))) else (aAnd x5 r_6) : Int) = (aShl 1 x3) then 1 else 0 : Int))] = [some (vR (some (3, 0))), some (vI x1), some (vI x2), some (vI x3), some (vI x4), some (vI x5), some (vI (if (if 16 ≤ x8 then (aAnd x5 (aXor r_6 (-1))) else (aAnd x5 r_6) : Int) = (aShl 1 x3) then (if x6 = (-2) then x8 else (if x7 ≤ ((M_4.1 51 0 (x8 % 16).toNat) + (if 16 ≤ x8 then (M_4.1 51 0 16) else 0 : Int)) then x6 else x8 : Int) : Int) else x6 : Int)), some (vI (if (if 16 ≤ x8 then (aAnd x5 (aXor r_6 (-1))) else (aAnd x5 r_6) : Int) = (aShl 1 x3) then (if x6 = (-2) then ((M_4.1 51 0 (x8 % 16).toNat) + (if 16 ≤ x8 then (M_4.1 51 0 16) else 0 : Int)) else (if x7 ≤ ((M_4.1 51 0 (x8 % 16).toNat) + (if 16 ≤ x8 then (M_4.1 51 0 16) else 0 : Int)) then x7 else ((M_4.1 51 0 (x8 % 16).toNat) + (if 16 ≤ x8 then (M_4.1 51 0 16) else 0 : Int)) : Int) : Int) else x7 : Int)), some (vI x8), some (vI (x8 % 16)), some (vI r_6), some (vI ((M_4.1 51 0 (x8 % 16).toNat) + (if 16 ≤ x8 then (M_4.1 51 0 16) else 0 : Int))), some (vI (if (if 16 ≤ x8 then (aAnd x5 (aXor r_6 (-1))) else (aAnd x5 r_6) : Int) = (aShl 1 x3) then 1 else 0 : Int))] by simp only [if_pos c_17, if_neg c_18, if_pos c_19]) rfl rfl)
                · have c_19 := c
                  refine r_iload 207 dX12_mends_205 rfl rfl ?_
                  refine r_istore (ls' := [some (vR (some (3, 0))), some (vI x1), some (vI x2), some (vI x3), some (vI x4), some (vI x5), some (vI x8), some (vI x7), some (vI x8), some (vI (x8 % 16)), some (vI r_6), some (vI ((M_4.1 51 0 (x8 % 16).toNat) + (if 16 ≤ x8 then (M_4.1 51 0 16) else 0 : Int))), some (vI (if (if 16 ≤ x8 then (aAnd x5 (aXor r_6 (-1))) else (aAnd x5 r_6) : Int) = (aShl 1 x3) then 1 else 0 : Int))]) 209 dX12_mends_207 rfl rfl rfl rfl ?_
                  refine r_iload 211 dX12_mends_209 rfl rfl ?_
                  refine r_istore (ls' := [some (vR (some (3, 0))), some (vI x1), some (vI x2), some (vI x3), some (vI x4), some (vI x5), some (vI x8), some (vI ((M_4.1 51 0 (x8 % 16).toNat) + (if 16 ≤ x8 then (M_4.1 51 0 16) else 0 : Int))), some (vI x8), some (vI (x8 % 16)), some (vI r_6), some (vI ((M_4.1 51 0 (x8 % 16).toNat) + (if 16 ≤ x8 then (M_4.1 51 0 16) else 0 : Int))), some (vI (if (if 16 ≤ x8 then (aAnd x5 (aXor r_6 (-1))) else (aAnd x5 r_6) : Int) = (aShl 1 x3) then 1 else 0 : Int))]) 213 dX12_mends_211 rfl rfl rfl rfl ?_
                  exact (Ex.at hJ_16 (show [some (vR (some (3, 0))), some (vI x1), some (vI x2), some (vI x3), some (vI x4), some (vI x5), some (vI x8), some (vI ((M_4.1 51 0 (x8 % 16).toNat) + (if 16 ≤ x8 then (M_4.1 51 0 16) else 0 : Int))), some (vI x8), some (vI (x8 % 16)), some (vI r_6), some (vI ((M_4.1 51 0 (x8 % 16).toNat) + (if 16 ≤ x8 then (M_4.1 51 0 16) else 0 : Int))), some (vI (if (if 16 ≤ x8 then (aAnd x5 (aXor r_6 (-1))) else (aAnd x5 r_6) : Int) = (aShl 1 x3) then 1 else 0 : Int))] = [some (vR (some (3, 0))), some (vI x1), some (vI x2), some (vI x3), some (vI x4), some (vI x5), some (vI (if (if 16 ≤ x8 then (aAnd x5 (aXor r_6 (-1))) else (aAnd x5 r_6) : Int) = (aShl 1 x3) then (if x6 = (-2) then x8 else (if x7 ≤ ((M_4.1 51 0 (x8 % 16).toNat) + (if 16 ≤ x8 then (M_4.1 51 0 16) else 0 : Int)) then x6 else x8 : Int) : Int) else x6 : Int)), some (vI (if (if 16 ≤ x8 then (aAnd x5 (aXor r_6 (-1))) else (aAnd x5 r_6) : Int) = (aShl 1 x3) then (if x6 = (-2) then ((M_4.1 51 0 (x8 % 16).toNat) + (if 16 ≤ x8 then (M_4.1 51 0 16) else 0 : Int)) else (if x7 ≤ ((M_4.1 51 0 (x8 % 16).toNat) + (if 16 ≤ x8 then (M_4.1 51 0 16) else 0 : Int)) then x7 else ((M_4.1 51 0 (x8 % 16).toNat) + (if 16 ≤ x8 then (M_4.1 51 0 16) else 0 : Int)) : Int) : Int) else x7 : Int)), some (vI x8), some (vI (x8 % 16)), some (vI r_6), some (vI ((M_4.1 51 0 (x8 % 16).toNat) + (if 16 ≤ x8 then (M_4.1 51 0 16) else 0 : Int))), some (vI (if (if 16 ≤ x8 then (aAnd x5 (aXor r_6 (-1))) else (aAnd x5 r_6) : Int) = (aShl 1 x3) then 1 else 0 : Int))] by simp only [if_pos c_17, if_neg c_18, if_neg c_19]) rfl rfl)
          refine r_icmp_ne 179 183 dX12_mends_176 rfl rfl (fun c => ?_) (fun c => ?_)
          · have c_15 := c
            refine r_iconst 184 dX12_mends_183 rfl (InR_of rfl) ?_
            exact (Ex.at hJ_14 rfl (show [vI 0] = [vI (if (if 16 ≤ x8 then (aAnd x5 (aXor r_6 (-1))) else (aAnd x5 r_6) : Int) = (aShl 1 x3) then 1 else 0 : Int)] by simp only [if_neg c_15]) rfl)
          · have c_15 := Decidable.not_not.mp c
            refine r_iconst 180 dX12_mends_179 rfl (InR_of rfl) ?_
            refine r_goto 184 dX12_mends_180 rfl ?_
            exact (Ex.at hJ_14 rfl (show [vI 1] = [vI (if (if 16 ≤ x8 then (aAnd x5 (aXor r_6 (-1))) else (aAnd x5 r_6) : Int) = (aShl 1 x3) then 1 else 0 : Int)] by simp only [if_pos c_15]) rfl)
        refine r_icmp_ge 158 166 dX12_mends_155 rfl rfl (fun c => ?_) (fun c => ?_)
        · have c_12 := c
          refine r_iload 168 dX12_mends_166 rfl rfl ?_
          refine r_iload 170 dX12_mends_168 rfl rfl ?_
          refine r_iconst 171 dX12_mends_170 rfl (InR_of rfl) ?_
          refine r_ixor 172 dX12_mends_171 rfl ?_
          refine r_iand 173 dX12_mends_172 rfl ?_
          exact (Ex.at hJ_11 rfl (show [vI (aAnd x5 (aXor r_6 (-1)))] = [vI (if 16 ≤ x8 then (aAnd x5 (aXor r_6 (-1))) else (aAnd x5 r_6) : Int)] by simp only [if_pos c_12]) rfl)
        · have c_12 := c
          refine r_iload 160 dX12_mends_158 rfl rfl ?_
          refine r_iload 162 dX12_mends_160 rfl rfl ?_
          refine r_iand 163 dX12_mends_162 rfl ?_
          refine r_goto 173 dX12_mends_163 rfl ?_
          exact (Ex.at hJ_11 rfl (show [vI (aAnd x5 r_6)] = [vI (if 16 ≤ x8 then (aAnd x5 (aXor r_6 (-1))) else (aAnd x5 r_6) : Int)] by simp only [if_neg c_12]) rfl)
      refine r_icmp_ge 137 141 dX12_mends_134 rfl rfl (fun c => ?_) (fun c => ?_)
      · have c_9 := c
        refine r_aload_n 142 dX12_mends_141 rfl rfl ?_
        refine g_R 145 dX12_mends_142 rfl rfl rfl fr_12_19 (sh_12_4 hS) ?_
        refine r_bipush 147 dX12_mends_145 rfl rfl ?_
        refine a_I 17 148 dX12_mends_147 rfl rfl rfl rfl ⟨by decide, by decide⟩ rfl ?_
        exact (Ex.at hJ_8 rfl (show [vI (M_4.1 51 0 16), vI (M_4.1 51 0 (x8 % 16).toNat)] = [vI (if 16 ≤ x8 then (M_4.1 51 0 16) else 0 : Int), vI (M_4.1 51 0 (x8 % 16).toNat)] by simp only [if_pos c_9]) rfl)
      · have c_9 := c
        refine r_iconst 138 dX12_mends_137 rfl (InR_of rfl) ?_
        refine r_goto 148 dX12_mends_138 rfl ?_
        exact (Ex.at hJ_8 rfl (show [vI 0, vI (M_4.1 51 0 (x8 % 16).toNat)] = [vI (if 16 ≤ x8 then (M_4.1 51 0 16) else 0 : Int), vI (M_4.1 51 0 (x8 % 16).toNat)] by simp only [if_neg c_9]) rfl)
    · have h := h.2 (c)
      refine r_aload_n 99 dX12_mends_98 rfl rfl ?_
      refine r_iconst 100 dX12_mends_99 rfl (InR_of rfl) ?_
      refine r_iload 102 dX12_mends_100 rfl rfl ?_
      obtain ⟨r_23, M_21, hc_22, hS, h⟩ := h
      refine v_1 (ci := 12) (C := (RX12, TX12, 68)) [vI 1, vI (x8 % 16)] [] 105 dX12_mends_102 rfl rfl rfl rfl rfl mo_X12_markedSet ml_12_322 rfl rfl hc_22 ?_
      obtain ⟨o_24, h⟩ := h
      refine r_goto 121 dX12_mends_105 rfl ?_
      refine r_istore (ls' := [some (vR (some (3, 0))), some (vI x1), some (vI x2), some (vI x3), some (vI x4), some (vI x5), some (vI x6), some (vI x7), some (vI x8), some (vI (x8 % 16)), some (vI r_23), none, none]) 123 dX12_mends_121 rfl rfl rfl rfl ?_
      refine r_aload_n 124 dX12_mends_123 rfl rfl ?_
      refine g_R 127 dX12_mends_124 rfl rfl rfl fr_12_19 (sh_12_4 hS) ?_
      refine r_iload 129 dX12_mends_127 rfl rfl ?_
      refine a_I 17 130 dX12_mends_129 rfl rfl rfl rfl o_24 rfl ?_
      refine r_iload 132 dX12_mends_130 rfl rfl ?_
      refine r_bipush 134 dX12_mends_132 rfl rfl ?_
      have hJ_25 : Ex l G (d + 2) mX12_mends 148 [some (vR (some (3, 0))), some (vI x1), some (vI x2), some (vI x3), some (vI x4), some (vI x5), some (vI x6), some (vI x7), some (vI x8), some (vI (x8 % 16)), some (vI r_23), none, none] [vI (if 16 ≤ x8 then (M_21.1 51 0 16) else 0 : Int), vI (M_21.1 51 0 (x8 % 16).toNat)] M_21 r M' := by
        obtain ⟨o_27, h⟩ := h
        refine r_iadd 149 dX12_mends_148 rfl o_27 ?_
        refine r_istore (ls' := [some (vR (some (3, 0))), some (vI x1), some (vI x2), some (vI x3), some (vI x4), some (vI x5), some (vI x6), some (vI x7), some (vI x8), some (vI (x8 % 16)), some (vI r_23), some (vI ((M_21.1 51 0 (x8 % 16).toNat) + (if 16 ≤ x8 then (M_21.1 51 0 16) else 0 : Int))), none]) 151 dX12_mends_149 rfl rfl rfl rfl ?_
        refine r_iload 153 dX12_mends_151 rfl rfl ?_
        refine r_bipush 155 dX12_mends_153 rfl rfl ?_
        have hJ_28 : Ex l G (d + 2) mX12_mends 173 [some (vR (some (3, 0))), some (vI x1), some (vI x2), some (vI x3), some (vI x4), some (vI x5), some (vI x6), some (vI x7), some (vI x8), some (vI (x8 % 16)), some (vI r_23), some (vI ((M_21.1 51 0 (x8 % 16).toNat) + (if 16 ≤ x8 then (M_21.1 51 0 16) else 0 : Int))), none] [vI (if 16 ≤ x8 then (aAnd x5 (aXor r_23 (-1))) else (aAnd x5 r_23) : Int)] M_21 r M' := by
          obtain ⟨o_30, h⟩ := h
          refine r_iconst 174 dX12_mends_173 rfl (InR_of rfl) ?_
          refine r_iload_n 175 dX12_mends_174 rfl rfl ?_
          refine r_ishl 176 dX12_mends_175 rfl o_30 ?_
          have hJ_31 : Ex l G (d + 2) mX12_mends 184 [some (vR (some (3, 0))), some (vI x1), some (vI x2), some (vI x3), some (vI x4), some (vI x5), some (vI x6), some (vI x7), some (vI x8), some (vI (x8 % 16)), some (vI r_23), some (vI ((M_21.1 51 0 (x8 % 16).toNat) + (if 16 ≤ x8 then (M_21.1 51 0 16) else 0 : Int))), none] [vI (if (if 16 ≤ x8 then (aAnd x5 (aXor r_23 (-1))) else (aAnd x5 r_23) : Int) = (aShl 1 x3) then 1 else 0 : Int)] M_21 r M' := by
            refine r_istore (ls' := [some (vR (some (3, 0))), some (vI x1), some (vI x2), some (vI x3), some (vI x4), some (vI x5), some (vI x6), some (vI x7), some (vI x8), some (vI (x8 % 16)), some (vI r_23), some (vI ((M_21.1 51 0 (x8 % 16).toNat) + (if 16 ≤ x8 then (M_21.1 51 0 16) else 0 : Int))), some (vI (if (if 16 ≤ x8 then (aAnd x5 (aXor r_23 (-1))) else (aAnd x5 r_23) : Int) = (aShl 1 x3) then 1 else 0 : Int))]) 186 dX12_mends_184 rfl rfl rfl rfl ?_
            refine r_iload 188 dX12_mends_186 rfl rfl ?_
            have hJ_33 : Ex l G (d + 2) mX12_mends 213 [some (vR (some (3, 0))), some (vI x1), some (vI x2), some (vI x3), some (vI x4), some (vI x5), some (vI (if (if 16 ≤ x8 then (aAnd x5 (aXor r_23 (-1))) else (aAnd x5 r_23) : Int) = (aShl 1 x3) then (if x6 = (-2) then x8 else (if x7 ≤ ((M_21.1 51 0 (x8 % 16).toNat) + (if 16 ≤ x8 then (M_21.1 51 0 16) else 0 : Int)) then x6 else x8 : Int) : Int) else x6 : Int)), some (vI (if (if 16 ≤ x8 then (aAnd x5 (aXor r_23 (-1))) else (aAnd x5 r_23) : Int) = (aShl 1 x3) then (if x6 = (-2) then ((M_21.1 51 0 (x8 % 16).toNat) + (if 16 ≤ x8 then (M_21.1 51 0 16) else 0 : Int)) else (if x7 ≤ ((M_21.1 51 0 (x8 % 16).toNat) + (if 16 ≤ x8 then (M_21.1 51 0 16) else 0 : Int)) then x7 else ((M_21.1 51 0 (x8 % 16).toNat) + (if 16 ≤ x8 then (M_21.1 51 0 16) else 0 : Int)) : Int) : Int) else x7 : Int)), some (vI x8), some (vI (x8 % 16)), some (vI r_23), some (vI ((M_21.1 51 0 (x8 % 16).toNat) + (if 16 ≤ x8 then (M_21.1 51 0 16) else 0 : Int))), some (vI (if (if 16 ≤ x8 then (aAnd x5 (aXor r_23 (-1))) else (aAnd x5 r_23) : Int) = (aShl 1 x3) then 1 else 0 : Int))] [] M_21 r M' := by
              obtain ⟨o_37, h⟩ := h
              refine r_iinc (ls' := [some (vR (some (3, 0))), some (vI x1), some (vI x2), some (vI x3), some (vI x4), some (vI x5), some (vI (if (if 16 ≤ x8 then (aAnd x5 (aXor r_23 (-1))) else (aAnd x5 r_23) : Int) = (aShl 1 x3) then (if x6 = (-2) then x8 else (if x7 ≤ ((M_21.1 51 0 (x8 % 16).toNat) + (if 16 ≤ x8 then (M_21.1 51 0 16) else 0 : Int)) then x6 else x8 : Int) : Int) else x6 : Int)), some (vI (if (if 16 ≤ x8 then (aAnd x5 (aXor r_23 (-1))) else (aAnd x5 r_23) : Int) = (aShl 1 x3) then (if x6 = (-2) then ((M_21.1 51 0 (x8 % 16).toNat) + (if 16 ≤ x8 then (M_21.1 51 0 16) else 0 : Int)) else (if x7 ≤ ((M_21.1 51 0 (x8 % 16).toNat) + (if 16 ≤ x8 then (M_21.1 51 0 16) else 0 : Int)) then x7 else ((M_21.1 51 0 (x8 % 16).toNat) + (if 16 ≤ x8 then (M_21.1 51 0 16) else 0 : Int)) : Int) : Int) else x7 : Int)), some (vI (x8 + 1)), some (vI (x8 % 16)), some (vI r_23), some (vI ((M_21.1 51 0 (x8 % 16).toNat) + (if 16 ≤ x8 then (M_21.1 51 0 16) else 0 : Int))), some (vI (if (if 16 ≤ x8 then (aAnd x5 (aXor r_23 (-1))) else (aAnd x5 r_23) : Int) = (aShl 1 x3) then 1 else 0 : Int))]) 216 dX12_mends_213 rfl rfl rfl rfl o_37 rfl ?_
              refine r_goto 77 dX12_mends_216 rfl ?_
              exact Ex.weak h ⟨rfl, rfl, rfl, rfl, rfl, rfl, rfl, rfl, rfl, trivial⟩
            refine r_if_eq 191 213 dX12_mends_188 rfl rfl (fun c => ?_) (fun c => ?_)
            · have c_34 := b2_0.mp c
              exact (Ex.at hJ_33 (show [some (vR (some (3, 0))), some (vI x1), some (vI x2), some (vI x3), some (vI x4), some (vI x5), some (vI x6), some (vI x7), some (vI x8), some (vI (x8 % 16)), some (vI r_23), some (vI ((M_21.1 51 0 (x8 % 16).toNat) + (if 16 ≤ x8 then (M_21.1 51 0 16) else 0 : Int))), some (vI (if (if 16 ≤ x8 then (aAnd x5 (aXor r_23 (-1))) else (aAnd x5 r_23) : Int) = (aShl 1 x3) then 1 else 0 : Int))] = [some (vR (some (3, 0))), some (vI x1), some (vI x2), some (vI x3), some (vI x4), some (vI x5), some (vI (if (if 16 ≤ x8 then (aAnd x5 (aXor r_23 (-1))) else (aAnd x5 r_23) : Int) = (aShl 1 x3) then (if x6 = (-2) then x8 else (if x7 ≤ ((M_21.1 51 0 (x8 % 16).toNat) + (if 16 ≤ x8 then (M_21.1 51 0 16) else 0 : Int)) then x6 else x8 : Int) : Int) else x6 : Int)), some (vI (if (if 16 ≤ x8 then (aAnd x5 (aXor r_23 (-1))) else (aAnd x5 r_23) : Int) = (aShl 1 x3) then (if x6 = (-2) then ((M_21.1 51 0 (x8 % 16).toNat) + (if 16 ≤ x8 then (M_21.1 51 0 16) else 0 : Int)) else (if x7 ≤ ((M_21.1 51 0 (x8 % 16).toNat) + (if 16 ≤ x8 then (M_21.1 51 0 16) else 0 : Int)) then x7 else ((M_21.1 51 0 (x8 % 16).toNat) + (if 16 ≤ x8 then (M_21.1 51 0 16) else 0 : Int)) : Int) : Int) else x7 : Int)), some (vI x8), some (vI (x8 % 16)), some (vI r_23), some (vI ((M_21.1 51 0 (x8 % 16).toNat) + (if 16 ≤ x8 then (M_21.1 51 0 16) else 0 : Int))), some (vI (if (if 16 ≤ x8 then (aAnd x5 (aXor r_23 (-1))) else (aAnd x5 r_23) : Int) = (aShl 1 x3) then 1 else 0 : Int))] by simp only [if_neg c_34]) rfl rfl)
            · have c_34 := b2_1.mp c
              refine r_iload 193 dX12_mends_191 rfl rfl ?_
              refine r_bipush 195 dX12_mends_193 rfl rfl ?_
              refine r_icmp_eq 198 205 dX12_mends_195 rfl rfl (fun c => ?_) (fun c => ?_)
              · have c_35 := c
                refine r_iload 207 dX12_mends_205 rfl rfl ?_
                refine r_istore (ls' := [some (vR (some (3, 0))), some (vI x1), some (vI x2), some (vI x3), some (vI x4), some (vI x5), some (vI x8), some (vI x7), some (vI x8), some (vI (x8 % 16)), some (vI r_23), some (vI ((M_21.1 51 0 (x8 % 16).toNat) + (if 16 ≤ x8 then (M_21.1 51 0 16) else 0 : Int))), some (vI (if (if 16 ≤ x8 then (aAnd x5 (aXor r_23 (-1))) else (aAnd x5 r_23) : Int) = (aShl 1 x3) then 1 else 0 : Int))]) 209 dX12_mends_207 rfl rfl rfl rfl ?_
                refine r_iload 211 dX12_mends_209 rfl rfl ?_
                refine r_istore (ls' := [some (vR (some (3, 0))), some (vI x1), some (vI x2), some (vI x3), some (vI x4), some (vI x5), some (vI x8), some (vI ((M_21.1 51 0 (x8 % 16).toNat) + (if 16 ≤ x8 then (M_21.1 51 0 16) else 0 : Int))), some (vI x8), some (vI (x8 % 16)), some (vI r_23), some (vI ((M_21.1 51 0 (x8 % 16).toNat) + (if 16 ≤ x8 then (M_21.1 51 0 16) else 0 : Int))), some (vI (if (if 16 ≤ x8 then (aAnd x5 (aXor r_23 (-1))) else (aAnd x5 r_23) : Int) = (aShl 1 x3) then 1 else 0 : Int))]) 213 dX12_mends_211 rfl rfl rfl rfl ?_
                exact (Ex.at hJ_33 (show [some (vR (some (3, 0))), some (vI x1), some (vI x2), some (vI x3), some (vI x4), some (vI x5), some (vI x8), some (vI ((M_21.1 51 0 (x8 % 16).toNat) + (if 16 ≤ x8 then (M_21.1 51 0 16) else 0 : Int))), some (vI x8), some (vI (x8 % 16)), some (vI r_23), some (vI ((M_21.1 51 0 (x8 % 16).toNat) + (if 16 ≤ x8 then (M_21.1 51 0 16) else 0 : Int))), some (vI (if (if 16 ≤ x8 then (aAnd x5 (aXor r_23 (-1))) else (aAnd x5 r_23) : Int) = (aShl 1 x3) then 1 else 0 : Int))] = [some (vR (some (3, 0))), some (vI x1), some (vI x2), some (vI x3), some (vI x4), some (vI x5), some (vI (if (if 16 ≤ x8 then (aAnd x5 (aXor r_23 (-1))) else (aAnd x5 r_23) : Int) = (aShl 1 x3) then (if x6 = (-2) then x8 else (if x7 ≤ ((M_21.1 51 0 (x8 % 16).toNat) + (if 16 ≤ x8 then (M_21.1 51 0 16) else 0 : Int)) then x6 else x8 : Int) : Int) else x6 : Int)), some (vI (if (if 16 ≤ x8 then (aAnd x5 (aXor r_23 (-1))) else (aAnd x5 r_23) : Int) = (aShl 1 x3) then (if x6 = (-2) then ((M_21.1 51 0 (x8 % 16).toNat) + (if 16 ≤ x8 then (M_21.1 51 0 16) else 0 : Int)) else (if x7 ≤ ((M_21.1 51 0 (x8 % 16).toNat) + (if 16 ≤ x8 then (M_21.1 51 0 16) else 0 : Int)) then x7 else ((M_21.1 51 0 (x8 % 16).toNat) + (if 16 ≤ x8 then (M_21.1 51 0 16) else 0 : Int)) : Int) : Int) else x7 : Int)), some (vI x8), some (vI (x8 % 16)), some (vI r_23), some (vI ((M_21.1 51 0 (x8 % 16).toNat) + (if 16 ≤ x8 then (M_21.1 51 0 16) else 0 : Int))), some (vI (if (if 16 ≤ x8 then (aAnd x5 (aXor r_23 (-1))) else (aAnd x5 r_23) : Int) = (aShl 1 x3) then 1 else 0 : Int))] by simp only [if_pos c_34, if_pos c_35]) rfl rfl)
              · have c_35 := c
                refine r_iload 200 dX12_mends_198 rfl rfl ?_
                refine r_iload 202 dX12_mends_200 rfl rfl ?_
                refine r_icmp_ge 205 213 dX12_mends_202 rfl rfl (fun c => ?_) (fun c => ?_)
                · have c_36 := c
                  exact (Ex.at hJ_33 (show [some (vR (some (3, 0))), some (vI x1), some (vI x2), some (vI x3), some (vI x4), some (vI x5), some (vI x6), some (vI x7), some (vI x8), some (vI (x8 % 16)), some (vI r_23), some (vI ((M_21.1 51 0 (x8 % 16).toNat) + (if 16 ≤ x8 then (M_21.1 51 0 16) else 0 : Int))), some (vI (if (if 16 ≤ x8 then (aAnd x5 (aXor r_23 (-1))) else (aAnd x5 r_23) : Int) = (aShl 1 x3) then 1 else 0 : Int))] = [some (vR (some (3, 0))), some (vI x1), some (vI x2), some (vI x3), some (vI x4), some (vI x5), some (vI (if (if 16 ≤ x8 then (aAnd x5 (aXor r_23 (-1))) else (aAnd x5 r_23) : Int) = (aShl 1 x3) then (if x6 = (-2) then x8 else (if x7 ≤ ((M_21.1 51 0 (x8 % 16).toNat) + (if 16 ≤ x8 then (M_21.1 51 0 16) else 0 : Int)) then x6 else x8 : Int) : Int) else x6 : Int)), some (vI (if (if 16 ≤ x8 then (aAnd x5 (aXor r_23 (-1))) else (aAnd x5 r_23) : Int) = (aShl 1 x3) then (if x6 = (-2) then ((M_21.1 51 0 (x8 % 16).toNat) + (if 16 ≤ x8 then (M_21.1 51 0 16) else 0 : Int)) else (if x7 ≤ ((M_21.1 51 0 (x8 % 16).toNat) + (if 16 ≤ x8 then (M_21.1 51 0 16) else 0 : Int)) then x7 else ((M_21.1 51 0 (x8 % 16).toNat) + (if 16 ≤ x8 then (M_21.1 51 0 16) else 0 : Int)) : Int) : Int) else x7 : Int)), some (vI x8), some (vI (x8 % 16)), some (vI r_23), some (vI ((M_21.1 51 0 (x8 % 16).toNat) + (if 16 ≤ x8 then (M_21.1 51 0 16) else 0 : Int))), some (vI (if (if 16 ≤ x8 then (aAnd x5 (aXor r_23 (-1))) else (aAnd x5 r_23) : Int) = (aShl 1 x3) then 1 else 0 : Int))] by simp only [if_pos c_34, if_neg c_35, if_pos c_36]) rfl rfl)
                · have c_36 := c
                  refine r_iload 207 dX12_mends_205 rfl rfl ?_
                  refine r_istore (ls' := [some (vR (some (3, 0))), some (vI x1), some (vI x2), some (vI x3), some (vI x4), some (vI x5), some (vI x8), some (vI x7), some (vI x8), some (vI (x8 % 16)), some (vI r_23), some (vI ((M_21.1 51 0 (x8 % 16).toNat) + (if 16 ≤ x8 then (M_21.1 51 0 16) else 0 : Int))), some (vI (if (if 16 ≤ x8 then (aAnd x5 (aXor r_23 (-1))) else (aAnd x5 r_23) : Int) = (aShl 1 x3) then 1 else 0 : Int))]) 209 dX12_mends_207 rfl rfl rfl rfl ?_
                  refine r_iload 211 dX12_mends_209 rfl rfl ?_
                  refine r_istore (ls' := [some (vR (some (3, 0))), some (vI x1), some (vI x2), some (vI x3), some (vI x4), some (vI x5), some (vI x8), some (vI ((M_21.1 51 0 (x8 % 16).toNat) + (if 16 ≤ x8 then (M_21.1 51 0 16) else 0 : Int))), some (vI x8), some (vI (x8 % 16)), some (vI r_23), some (vI ((M_21.1 51 0 (x8 % 16).toNat) + (if 16 ≤ x8 then (M_21.1 51 0 16) else 0 : Int))), some (vI (if (if 16 ≤ x8 then (aAnd x5 (aXor r_23 (-1))) else (aAnd x5 r_23) : Int) = (aShl 1 x3) then 1 else 0 : Int))]) 213 dX12_mends_211 rfl rfl rfl rfl ?_
                  exact (Ex.at hJ_33 (show [some (vR (some (3, 0))), some (vI x1), some (vI x2), some (vI x3), some (vI x4), some (vI x5), some (vI x8), some (vI ((M_21.1 51 0 (x8 % 16).toNat) + (if 16 ≤ x8 then (M_21.1 51 0 16) else 0 : Int))), some (vI x8), some (vI (x8 % 16)), some (vI r_23), some (vI ((M_21.1 51 0 (x8 % 16).toNat) + (if 16 ≤ x8 then (M_21.1 51 0 16) else 0 : Int))), some (vI (if (if 16 ≤ x8 then (aAnd x5 (aXor r_23 (-1))) else (aAnd x5 r_23) : Int) = (aShl 1 x3) then 1 else 0 : Int))] = [some (vR (some (3, 0))), some (vI x1), some (vI x2), some (vI x3), some (vI x4), some (vI x5), some (vI (if (if 16 ≤ x8 then (aAnd x5 (aXor r_23 (-1))) else (aAnd x5 r_23) : Int) = (aShl 1 x3) then (if x6 = (-2) then x8 else (if x7 ≤ ((M_21.1 51 0 (x8 % 16).toNat) + (if 16 ≤ x8 then (M_21.1 51 0 16) else 0 : Int)) then x6 else x8 : Int) : Int) else x6 : Int)), some (vI (if (if 16 ≤ x8 then (aAnd x5 (aXor r_23 (-1))) else (aAnd x5 r_23) : Int) = (aShl 1 x3) then (if x6 = (-2) then ((M_21.1 51 0 (x8 % 16).toNat) + (if 16 ≤ x8 then (M_21.1 51 0 16) else 0 : Int)) else (if x7 ≤ ((M_21.1 51 0 (x8 % 16).toNat) + (if 16 ≤ x8 then (M_21.1 51 0 16) else 0 : Int)) then x7 else ((M_21.1 51 0 (x8 % 16).toNat) + (if 16 ≤ x8 then (M_21.1 51 0 16) else 0 : Int)) : Int) : Int) else x7 : Int)), some (vI x8), some (vI (x8 % 16)), some (vI r_23), some (vI ((M_21.1 51 0 (x8 % 16).toNat) + (if 16 ≤ x8 then (M_21.1 51 0 16) else 0 : Int))), some (vI (if (if 16 ≤ x8 then (aAnd x5 (aXor r_23 (-1))) else (aAnd x5 r_23) : Int) = (aShl 1 x3) then 1 else 0 : Int))] by simp only [if_pos c_34, if_neg c_35, if_neg c_36]) rfl rfl)
          refine r_icmp_ne 179 183 dX12_mends_176 rfl rfl (fun c => ?_) (fun c => ?_)
          · have c_32 := c
            refine r_iconst 184 dX12_mends_183 rfl (InR_of rfl) ?_
            exact (Ex.at hJ_31 rfl (show [vI 0] = [vI (if (if 16 ≤ x8 then (aAnd x5 (aXor r_23 (-1))) else (aAnd x5 r_23) : Int) = (aShl 1 x3) then 1 else 0 : Int)] by simp only [if_neg c_32]) rfl)
          · have c_32 := Decidable.not_not.mp c
            refine r_iconst 180 dX12_mends_179 rfl (InR_of rfl) ?_
            refine r_goto 184 dX12_mends_180 rfl ?_
            exact (Ex.at hJ_31 rfl (show [vI 1] = [vI (if (if 16 ≤ x8 then (aAnd x5 (aXor r_23 (-1))) else (aAnd x5 r_23) : Int) = (aShl 1 x3) then 1 else 0 : Int)] by simp only [if_pos c_32]) rfl)
        refine r_icmp_ge 158 166 dX12_mends_155 rfl rfl (fun c => ?_) (fun c => ?_)
        · have c_29 := c
          refine r_iload 168 dX12_mends_166 rfl rfl ?_
          refine r_iload 170 dX12_mends_168 rfl rfl ?_
          refine r_iconst 171 dX12_mends_170 rfl (InR_of rfl) ?_
          refine r_ixor 172 dX12_mends_171 rfl ?_
          refine r_iand 173 dX12_mends_172 rfl ?_
          exact (Ex.at hJ_28 rfl (show [vI (aAnd x5 (aXor r_23 (-1)))] = [vI (if 16 ≤ x8 then (aAnd x5 (aXor r_23 (-1))) else (aAnd x5 r_23) : Int)] by simp only [if_pos c_29]) rfl)
        · have c_29 := c
          refine r_iload 160 dX12_mends_158 rfl rfl ?_
          refine r_iload 162 dX12_mends_160 rfl rfl ?_
          refine r_iand 163 dX12_mends_162 rfl ?_
          refine r_goto 173 dX12_mends_163 rfl ?_
          exact (Ex.at hJ_28 rfl (show [vI (aAnd x5 r_23)] = [vI (if 16 ≤ x8 then (aAnd x5 (aXor r_23 (-1))) else (aAnd x5 r_23) : Int)] by simp only [if_neg c_29]) rfl)
      refine r_icmp_ge 137 141 dX12_mends_134 rfl rfl (fun c => ?_) (fun c => ?_)
      · have c_26 := c
        refine r_aload_n 142 dX12_mends_141 rfl rfl ?_
        refine g_R 145 dX12_mends_142 rfl rfl rfl fr_12_19 (sh_12_4 hS) ?_
        refine r_bipush 147 dX12_mends_145 rfl rfl ?_
        refine a_I 17 148 dX12_mends_147 rfl rfl rfl rfl ⟨by decide, by decide⟩ rfl ?_
        exact (Ex.at hJ_25 rfl (show [vI (M_21.1 51 0 16), vI (M_21.1 51 0 (x8 % 16).toNat)] = [vI (if 16 ≤ x8 then (M_21.1 51 0 16) else 0 : Int), vI (M_21.1 51 0 (x8 % 16).toNat)] by simp only [if_pos c_26]) rfl)
      · have c_26 := c
        refine r_iconst 138 dX12_mends_137 rfl (InR_of rfl) ?_
        refine r_goto 148 dX12_mends_138 rfl ?_
        exact (Ex.at hJ_25 rfl (show [vI 0, vI (M_21.1 51 0 (x8 % 16).toNat)] = [vI (if 16 ≤ x8 then (M_21.1 51 0 16) else 0 : Int), vI (M_21.1 51 0 (x8 % 16).toNat)] by simp only [if_neg c_26]) rfl)

set_option maxRecDepth 4000 in
theorem xX11_mends_0 {l : Launch} {G : Gt} {d : Nat} {M M' : Mem} {r : Option Vl} {x1 : Int} {x2 : Int} {x3 : Int} {x4 : Int} (h : 
    ∃ (o_3 : Option Nm) (M_1 : Mem), Cl l G d mX11_coverOf [vR (some (2, 0)), vI x1] M (some (vR o_3)) M_1 ∧ Sh M_1.2.1 ∧ ((o_3 = none → r = some (vI (-1)) ∧ M' = M_1) ∧ (¬ (o_3 = none) → (¬ (0 ≤ x2 ∧ x2 < (M_1.1 4 0 0)) → r = some (vI (-1)) ∧ M' = M_1) ∧ (0 ≤ x2 ∧ x2 < (M_1.1 4 0 0) → (¬ (0 ≤ x3 ∧ x3 < (M_1.1 4 0 0)) → r = some (vI (-1)) ∧ M' = M_1) ∧ (0 ≤ x3 ∧ x3 < (M_1.1 4 0 0) → (0 ≤ x4 ∧ x4 ≤ 999 → ∃ (k_6 : Nat) (M_4 : Mem), Cl l G d mX6_on [vR (some (6, 0)), vI x4] M_1 (some (vR (some (14, k_6)))) M_4 ∧ Sh M_4.2.1 ∧ (((0 ≤ (M_4.1 4 0 0) ∧ (M_4.1 4 0 0) ≤ 12)) ∧ (∃ k_8 : Nat, o_3 = some (13, k_8) ∧ (∃ (r_12 : Int) (M_10 : Mem), Cl l G d mX3_evaluate [vR (some (8, 0)), vR (some (13, k_8)), vI x2, vR (some (14, k_6)), vI (aShl 1 (M_4.1 4 0 0) - 1)] M_4 (some (vI r_12)) M_10 ∧ (((0 ≤ x3 ∧ x3 < 32)) ∧ ((¬ (r_12 = (aShl 1 x3)) → Ex l G (d + 1) mX11_mends 88 [some (vR (some (2, 0))), some (vI x1), some (vI x2), some (vI x3), some (vI x4), some (vR (some (13, k_8))), some (vR (some (14, k_6))), some (vI r_12), some (vI (-2)), some (vI 0), some (vI 0), none, none, none, none] [] M_10 r M') ∧ (r_12 = (aShl 1 x3) → r = some (vI 32) ∧ M' = M_10))))))) ∧ (¬ (0 ≤ x4 ∧ x4 ≤ 999) → r = some (vI (-1)) ∧ M' = M_1)))))) : Cl l G (d + 1) mX11_mends [vR (some (2, 0)), vI x1, vI x2, vI x3, vI x4] M r M' := by
  show Ex l G (d + 1) mX11_mends 0 [some (vR (some (2, 0))), some (vI x1), some (vI x2), some (vI x3), some (vI x4), none, none, none, none, none, none, none, none, none, none] [] M r M'
  refine r_aload_n 1 dX11_mends_0 rfl rfl ?_
  refine r_iload_n 2 dX11_mends_1 rfl rfl ?_
  obtain ⟨o_3, M_1, hc_2, hS, h⟩ := h
  refine v_1 (ci := 11) (C := (RX11, TX11, 16)) [vI x1] [] 5 dX11_mends_2 rfl rfl rfl rfl rfl mo_X11_coverOf ml_11_187 rfl rfl hc_2 ?_
  refine r_astore (ls' := [some (vR (some (2, 0))), some (vI x1), some (vI x2), some (vI x3), some (vI x4), some (vR o_3), none, none, none, none, none, none, none, none, none]) 7 dX11_mends_5 rfl rfl rfl rfl ?_
  refine r_aload 9 dX11_mends_7 rfl rfl ?_
  refine r_ifnull 12 36 dX11_mends_9 rfl rfl (fun c => ?_) (fun c => ?_)
  · have h := h.1 (c)
    refine r_iconst 37 dX11_mends_36 rfl (InR_of rfl) ?_
    exact r_iret dX11_mends_37 rfl (.inl rfl) h.1 h.2
  · have h := h.2 (c)
    refine r_aload_n 13 dX11_mends_12 rfl rfl ?_
    refine r_iload_n 14 dX11_mends_13 rfl rfl ?_
    refine v_1 (ci := 11) (C := (RX11, TX11, 16)) [vI x2] [] 17 dX11_mends_14 rfl rfl rfl rfl rfl mo_X11_isPerson ml_11_127 rfl rfl (KX11_isPerson hS) ?_
    refine r_if_eq 20 36 dX11_mends_17 rfl rfl (fun c => ?_) (fun c => ?_)
    · have h := h.1 (b2_0.mp c)
      refine r_iconst 37 dX11_mends_36 rfl (InR_of rfl) ?_
      exact r_iret dX11_mends_37 rfl (.inl rfl) h.1 h.2
    · have h := h.2 (b2_1.mp c)
      refine r_aload_n 21 dX11_mends_20 rfl rfl ?_
      refine r_iload_n 22 dX11_mends_21 rfl rfl ?_
      refine v_1 (ci := 11) (C := (RX11, TX11, 16)) [vI x3] [] 25 dX11_mends_22 rfl rfl rfl rfl rfl mo_X11_isPerson ml_11_127 rfl rfl (KX11_isPerson hS) ?_
      refine r_if_eq 28 36 dX11_mends_25 rfl rfl (fun c => ?_) (fun c => ?_)
      · have h := h.1 (b2_0.mp c)
        refine r_iconst 37 dX11_mends_36 rfl (InR_of rfl) ?_
        exact r_iret dX11_mends_37 rfl (.inl rfl) h.1 h.2
      · have h := h.2 (b2_1.mp c)
        refine r_iload 30 dX11_mends_28 rfl rfl ?_
        refine c_1 [vI x4] [] 33 dX11_mends_30 rfl rfl mo_X11_isDay ml_11_124 rfl rfl (KX11_isDay) ?_
        refine r_if_ne 36 38 dX11_mends_33 rfl rfl (fun c => ?_) (fun c => ?_)
        · have h := h.1 (b2_1.mp c)
          refine r_aload_n 39 dX11_mends_38 rfl rfl ?_
          refine g_R 42 dX11_mends_39 rfl rfl rfl fr_11_21 (sh_11_1 hS) ?_
          refine r_iload 44 dX11_mends_42 rfl rfl ?_
          obtain ⟨k_6, M_4, hc_5, hS, h⟩ := h
          refine v_1 (ci := 6) (C := (RX6, TX6, 3)) [vI x4] [] 47 dX11_mends_44 rfl rfl rfl rfl rfl mo_X6_on ml_11_164 rfl rfl hc_5 ?_
          obtain ⟨o_7, h⟩ := h
          refine r_astore (ls' := [some (vR (some (2, 0))), some (vI x1), some (vI x2), some (vI x3), some (vI x4), some (vR o_3), some (vR (some (14, k_6))), none, none, none, none, none, none, none, none]) 49 dX11_mends_47 rfl rfl rfl rfl ?_
          refine r_aload_n 50 dX11_mends_49 rfl rfl ?_
          refine g_R 53 dX11_mends_50 rfl rfl rfl fr_11_35 (sh_11_3 hS) ?_
          refine r_aload 55 dX11_mends_53 rfl rfl ?_
          refine r_iload_n 56 dX11_mends_55 rfl rfl ?_
          refine r_aload 58 dX11_mends_56 rfl rfl ?_
          refine r_aload_n 59 dX11_mends_58 rfl rfl ?_
          refine v_1 (ci := 11) (C := (RX11, TX11, 16)) [] [vR (some (14, k_6)), vI x2, vR o_3, vR (some (8, 0))] 62 dX11_mends_59 rfl rfl rfl rfl rfl mo_X11_everybody ml_11_200 rfl rfl (KX11_everybody hS o_7) ?_
          obtain ⟨k_8, e_9, h⟩ := h
          refine Ex.at (st2 := [vI (aShl 1 (M_4.1 4 0 0) - 1), vR (some (14, k_6)), vI x2, vR (some (13, k_8)), vR (some (8, 0))]) ?_ rfl (show [vI (aShl 1 (M_4.1 4 0 0) - 1), vR (some (14, k_6)), vI x2, vR o_3, vR (some (8, 0))] = [vI (aShl 1 (M_4.1 4 0 0) - 1), vR (some (14, k_6)), vI x2, vR (some (13, k_8)), vR (some (8, 0))] by rw [e_9]) rfl
          obtain ⟨r_12, M_10, hc_11, h⟩ := h
          refine v_1 (ci := 3) (C := (RX3, TX3, 4)) [vR (some (13, k_8)), vI x2, vR (some (14, k_6)), vI (aShl 1 (M_4.1 4 0 0) - 1)] [] 65 dX11_mends_62 rfl rfl rfl rfl rfl mo_X3_evaluate ml_11_204 rfl rfl hc_11 ?_
          obtain ⟨o_13, h⟩ := h
          refine r_istore (ls' := [some (vR (some (2, 0))), some (vI x1), some (vI x2), some (vI x3), some (vI x4), some (vR o_3), some (vR (some (14, k_6))), some (vI r_12), none, none, none, none, none, none, none]) 67 dX11_mends_65 rfl rfl rfl rfl ?_
          refine r_iload 69 dX11_mends_67 rfl rfl ?_
          refine r_iconst 70 dX11_mends_69 rfl (InR_of rfl) ?_
          refine r_iload_n 71 dX11_mends_70 rfl rfl ?_
          refine r_ishl 72 dX11_mends_71 rfl o_13 ?_
          refine r_icmp_ne 75 78 dX11_mends_72 rfl rfl (fun c => ?_) (fun c => ?_)
          · have h := h.1 (c)
            refine r_bipush 80 dX11_mends_78 rfl rfl ?_
            refine r_istore (ls' := [some (vR (some (2, 0))), some (vI x1), some (vI x2), some (vI x3), some (vI x4), some (vR o_3), some (vR (some (14, k_6))), some (vI r_12), some (vI (-2)), none, none, none, none, none, none]) 82 dX11_mends_80 rfl rfl rfl rfl ?_
            refine r_iconst 83 dX11_mends_82 rfl (InR_of rfl) ?_
            refine r_istore (ls' := [some (vR (some (2, 0))), some (vI x1), some (vI x2), some (vI x3), some (vI x4), some (vR o_3), some (vR (some (14, k_6))), some (vI r_12), some (vI (-2)), some (vI 0), none, none, none, none, none]) 85 dX11_mends_83 rfl rfl rfl rfl ?_
            refine r_iconst 86 dX11_mends_85 rfl (InR_of rfl) ?_
            refine r_istore (ls' := [some (vR (some (2, 0))), some (vI x1), some (vI x2), some (vI x3), some (vI x4), some (vR o_3), some (vR (some (14, k_6))), some (vI r_12), some (vI (-2)), some (vI 0), some (vI 0), none, none, none, none]) 88 dX11_mends_86 rfl rfl rfl rfl ?_
            exact (Ex.at h (show [some (vR (some (2, 0))), some (vI x1), some (vI x2), some (vI x3), some (vI x4), some (vR o_3), some (vR (some (14, k_6))), some (vI r_12), some (vI (-2)), some (vI 0), some (vI 0), none, none, none, none] = [some (vR (some (2, 0))), some (vI x1), some (vI x2), some (vI x3), some (vI x4), some (vR (some (13, k_8))), some (vR (some (14, k_6))), some (vI r_12), some (vI (-2)), some (vI 0), some (vI 0), none, none, none, none] by rw [e_9]) rfl rfl)
          · have h := h.2 (Decidable.not_not.mp c)
            refine r_bipush 77 dX11_mends_75 rfl rfl ?_
            exact r_iret dX11_mends_77 rfl (.inl rfl) h.1 h.2
        · have h := h.2 (b2_0.mp (Decidable.not_not.mp c))
          refine r_iconst 37 dX11_mends_36 rfl (InR_of rfl) ?_
          exact r_iret dX11_mends_37 rfl (.inl rfl) h.1 h.2
set_option maxRecDepth 4000 in
theorem xX11_mends_88 {l : Launch} {G : Gt} {d : Nat} {M M' : Mem} {r : Option Vl} {x1 : Int} {x2 : Int} {x3 : Int} {x4 : Int} {k5 : Nat} {k6 : Nat} {x7 : Int} {x8 : Int} {x9 : Int} {x10 : Int} (h : 
    (32 ≤ x10 → r = some (vI x8) ∧ M' = M) ∧ (¬ (32 ≤ x10) → ((¬ ((if x10 < 16 then 0 else 1 : Int) = 0) → (InR (x10 - 16)))) ∧ (∃ (r_8 : Int) (M_6 : Mem), Cl l G d mX7_wordHolders [vR (some (14, k6)), vI (if (if x10 < 16 then 0 else 1 : Int) = 0 then x10 else (x10 - 16) : Int), vI x2] M (some (vI r_8)) M_6 ∧ Sh M_6.2.1 ∧ ((((if x10 < 16 then 0 else 1 : Int) = 0 → ((0 ≤ x10 ∧ x10 < 17))) ∧ (¬ ((if x10 < 16 then 0 else 1 : Int) = 0) → (InR (x10 - 16) ∧ (0 ≤ (x10 - 16) ∧ (x10 - 16) < 17) ∧ InR ((M_6.1 37 0 (x10 - 16).toNat) + (M_6.1 37 0 16))))) ∧ ((0 ≤ x3 ∧ x3 < 32)) ∧ (InR (x10 + 1)) ∧ Ex l G (d + 1) mX11_mends 88 [some (vR (some (2, 0))), some (vI x1), some (vI x2), some (vI x3), some (vI x4), some (vR (some (13, k5))), some (vR (some (14, k6))), some (vI x7), some (vI (if (aAnd x7 (if (if x10 < 16 then 0 else 1 : Int) = 0 then r_8 else (aXor r_8 (-1)) : Int)) = (aShl 1 x3) then (if x8 = (-2) then x10 else (if x9 ≤ (if (if x10 < 16 then 0 else 1 : Int) = 0 then (M_6.1 37 0 x10.toNat) else ((M_6.1 37 0 (x10 - 16).toNat) + (M_6.1 37 0 16)) : Int) then x8 else x10 : Int) : Int) else x8 : Int)), some (vI (if (aAnd x7 (if (if x10 < 16 then 0 else 1 : Int) = 0 then r_8 else (aXor r_8 (-1)) : Int)) = (aShl 1 x3) then (if x8 = (-2) then (if (if x10 < 16 then 0 else 1 : Int) = 0 then (M_6.1 37 0 x10.toNat) else ((M_6.1 37 0 (x10 - 16).toNat) + (M_6.1 37 0 16)) : Int) else (if x9 ≤ (if (if x10 < 16 then 0 else 1 : Int) = 0 then (M_6.1 37 0 x10.toNat) else ((M_6.1 37 0 (x10 - 16).toNat) + (M_6.1 37 0 16)) : Int) then x9 else (if (if x10 < 16 then 0 else 1 : Int) = 0 then (M_6.1 37 0 x10.toNat) else ((M_6.1 37 0 (x10 - 16).toNat) + (M_6.1 37 0 16)) : Int) : Int) : Int) else x9 : Int)), some (vI (x10 + 1)), none, none, none, none] [] M_6 r M')))) : Ex l G (d + 1) mX11_mends 88 [some (vR (some (2, 0))), some (vI x1), some (vI x2), some (vI x3), some (vI x4), some (vR (some (13, k5))), some (vR (some (14, k6))), some (vI x7), some (vI x8), some (vI x9), some (vI x10), none, none, none, none] [] M r M' := by
  refine r_iload 90 dX11_mends_88 rfl rfl ?_
  refine r_bipush 92 dX11_mends_90 rfl rfl ?_
  refine r_icmp_ge 95 239 dX11_mends_92 rfl rfl (fun c => ?_) (fun c => ?_)
  · have h := h.1 (c)
    refine r_iload 241 dX11_mends_239 rfl rfl ?_
    exact r_iret dX11_mends_241 rfl (.inl rfl) h.1 h.2
  · have h := h.2 (c)
    refine r_iload 97 dX11_mends_95 rfl rfl ?_
    refine r_bipush 99 dX11_mends_97 rfl rfl ?_
    have hJ_1 : Ex l G (d + 1) mX11_mends 107 [some (vR (some (2, 0))), some (vI x1), some (vI x2), some (vI x3), some (vI x4), some (vR (some (13, k5))), some (vR (some (14, k6))), some (vI x7), some (vI x8), some (vI x9), some (vI x10), none, none, none, none] [vI (if x10 < 16 then 0 else 1 : Int)] M r M' := by
      refine r_istore (ls' := [some (vR (some (2, 0))), some (vI x1), some (vI x2), some (vI x3), some (vI x4), some (vR (some (13, k5))), some (vR (some (14, k6))), some (vI x7), some (vI x8), some (vI x9), some (vI x10), some (vI (if x10 < 16 then 0 else 1 : Int)), none, none, none]) 109 dX11_mends_107 rfl rfl rfl rfl ?_
      refine r_aload 111 dX11_mends_109 rfl rfl ?_
      refine r_iload 113 dX11_mends_111 rfl rfl ?_
      obtain ⟨h0, h⟩ := h
      have hJ_3 : Ex l G (d + 1) mX11_mends 126 [some (vR (some (2, 0))), some (vI x1), some (vI x2), some (vI x3), some (vI x4), some (vR (some (13, k5))), some (vR (some (14, k6))), some (vI x7), some (vI x8), some (vI x9), some (vI x10), some (vI (if x10 < 16 then 0 else 1 : Int)), none, none, none] [vI (if (if x10 < 16 then 0 else 1 : Int) = 0 then x10 else (x10 - 16) : Int), vR (some (14, k6))] M r M' := by
        refine r_iload_n 127 dX11_mends_126 rfl rfl ?_
        obtain ⟨r_8, M_6, hc_7, hS, h⟩ := h
        refine v_1 (ci := 7) (C := (RX7, TX7, 5)) [vI (if (if x10 < 16 then 0 else 1 : Int) = 0 then x10 else (x10 - 16) : Int), vI x2] [] 130 dX11_mends_127 rfl rfl rfl rfl rfl mo_X7_wordHolders ml_11_208 rfl rfl hc_7 ?_
        refine r_istore (ls' := [some (vR (some (2, 0))), some (vI x1), some (vI x2), some (vI x3), some (vI x4), some (vR (some (13, k5))), some (vR (some (14, k6))), some (vI x7), some (vI x8), some (vI x9), some (vI x10), some (vI (if x10 < 16 then 0 else 1 : Int)), some (vI r_8), none, none]) 132 dX11_mends_130 rfl rfl rfl rfl ?_
        refine r_iload 134 dX11_mends_132 rfl rfl ?_
        obtain ⟨h0, h⟩ := h
        have hJ_9 : Ex l G (d + 1) mX11_mends 174 [some (vR (some (2, 0))), some (vI x1), some (vI x2), some (vI x3), some (vI x4), some (vR (some (13, k5))), some (vR (some (14, k6))), some (vI x7), some (vI x8), some (vI x9), some (vI x10), some (vI (if x10 < 16 then 0 else 1 : Int)), some (vI r_8), none, none] [vI (if (if x10 < 16 then 0 else 1 : Int) = 0 then (M_6.1 37 0 x10.toNat) else ((M_6.1 37 0 (x10 - 16).toNat) + (M_6.1 37 0 16)) : Int)] M_6 r M' := by
          refine r_istore (ls' := [some (vR (some (2, 0))), some (vI x1), some (vI x2), some (vI x3), some (vI x4), some (vR (some (13, k5))), some (vR (some (14, k6))), some (vI x7), some (vI x8), some (vI x9), some (vI x10), some (vI (if x10 < 16 then 0 else 1 : Int)), some (vI r_8), some (vI (if (if x10 < 16 then 0 else 1 : Int) = 0 then (M_6.1 37 0 x10.toNat) else ((M_6.1 37 0 (x10 - 16).toNat) + (M_6.1 37 0 16)) : Int)), none]) 176 dX11_mends_174 rfl rfl rfl rfl ?_
          refine r_iload 178 dX11_mends_176 rfl rfl ?_
          refine r_iload 180 dX11_mends_178 rfl rfl ?_
          have hJ_15 : Ex l G (d + 1) mX11_mends 192 [some (vR (some (2, 0))), some (vI x1), some (vI x2), some (vI x3), some (vI x4), some (vR (some (13, k5))), some (vR (some (14, k6))), some (vI x7), some (vI x8), some (vI x9), some (vI x10), some (vI (if x10 < 16 then 0 else 1 : Int)), some (vI r_8), some (vI (if (if x10 < 16 then 0 else 1 : Int) = 0 then (M_6.1 37 0 x10.toNat) else ((M_6.1 37 0 (x10 - 16).toNat) + (M_6.1 37 0 16)) : Int)), none] [vI (if (if x10 < 16 then 0 else 1 : Int) = 0 then r_8 else (aXor r_8 (-1)) : Int), vI x7] M_6 r M' := by
            obtain ⟨o_17, h⟩ := h
            refine r_iand 193 dX11_mends_192 rfl ?_
            refine r_iconst 194 dX11_mends_193 rfl (InR_of rfl) ?_
            refine r_iload_n 195 dX11_mends_194 rfl rfl ?_
            refine r_ishl 196 dX11_mends_195 rfl o_17 ?_
            have hJ_18 : Ex l G (d + 1) mX11_mends 204 [some (vR (some (2, 0))), some (vI x1), some (vI x2), some (vI x3), some (vI x4), some (vR (some (13, k5))), some (vR (some (14, k6))), some (vI x7), some (vI x8), some (vI x9), some (vI x10), some (vI (if x10 < 16 then 0 else 1 : Int)), some (vI r_8), some (vI (if (if x10 < 16 then 0 else 1 : Int) = 0 then (M_6.1 37 0 x10.toNat) else ((M_6.1 37 0 (x10 - 16).toNat) + (M_6.1 37 0 16)) : Int)), none] [vI (if (aAnd x7 (if (if x10 < 16 then 0 else 1 : Int) = 0 then r_8 else (aXor r_8 (-1)) : Int)) = (aShl 1 x3) then 1 else 0 : Int)] M_6 r M' := by
              refine r_istore (ls' := [some (vR (some (2, 0))), some (vI x1), some (vI x2), some (vI x3), some (vI x4), some (vR (some (13, k5))), some (vR (some (14, k6))), some (vI x7), some (vI x8), some (vI x9), some (vI x10), some (vI (if x10 < 16 then 0 else 1 : Int)), some (vI r_8), some (vI (if (if x10 < 16 then 0 else 1 : Int) = 0 then (M_6.1 37 0 x10.toNat) else ((M_6.1 37 0 (x10 - 16).toNat) + (M_6.1 37 0 16)) : Int)), some (vI (if (aAnd x7 (if (if x10 < 16 then 0 else 1 : Int) = 0 then r_8 else (aXor r_8 (-1)) : Int)) = (aShl 1 x3) then 1 else 0 : Int))]) 206 dX11_mends_204 rfl rfl rfl rfl ?_
              refine r_iload 208 dX11_mends_206 rfl rfl ?_
              have hJ_20 : Ex l G (d + 1) mX11_mends 233 [some (vR (some (2, 0))), some (vI x1), some (vI x2), some (vI x3), some (vI x4), some (vR (some (13, k5))), some (vR (some (14, k6))), some (vI x7), some (vI (if (aAnd x7 (if (if x10 < 16 then 0 else 1 : Int) = 0 then r_8 else (aXor r_8 (-1)) : Int)) = (aShl 1 x3) then (if x8 = (-2) then x10 else (if x9 ≤ (if (if x10 < 16 then 0 else 1 : Int) = 0 then (M_6.1 37 0 x10.toNat) else ((M_6.1 37 0 (x10 - 16).toNat) + (M_6.1 37 0 16)) : Int) then x8 else x10 : Int) : Int) else x8 : Int)), some (vI (if (aAnd x7 (if (if x10 < 16 then 0 else 1 : Int) = 0 then r_8 else (aXor r_8 (-1)) : Int)) = (aShl 1 x3) then (if x8 = (-2) then (if (if x10 < 16 then 0 else 1 : Int) = 0 then (M_6.1 37 0 x10.toNat) else ((M_6.1 37 0 (x10 - 16).toNat) + (M_6.1 37 0 16)) : Int) else (if x9 ≤ (if (if x10 < 16 then 0 else 1 : Int) = 0 then (M_6.1 37 0 x10.toNat) else ((M_6.1 37 0 (x10 - 16).toNat) + (M_6.1 37 0 16)) : Int) then x9 else (if (if x10 < 16 then 0 else 1 : Int) = 0 then (M_6.1 37 0 x10.toNat) else ((M_6.1 37 0 (x10 - 16).toNat) + (M_6.1 37 0 16)) : Int) : Int) : Int) else x9 : Int)), some (vI x10), some (vI (if x10 < 16 then 0 else 1 : Int)), some (vI r_8), some (vI (if (if x10 < 16 then 0 else 1 : Int) = 0 then (M_6.1 37 0 x10.toNat) else ((M_6.1 37 0 (x10 - 16).toNat) + (M_6.1 37 0 16)) : Int)), some (vI (if (aAnd x7 (if (if x10 < 16 then 0 else 1 : Int) = 0 then r_8 else (aXor r_8 (-1)) : Int)) = (aShl 1 x3) then 1 else 0 : Int))] [] M_6 r M' := by
                obtain ⟨o_24, h⟩ := h
                refine r_iinc (ls' := [some (vR (some (2, 0))), some (vI x1), some (vI x2), some (vI x3), some (vI x4), some (vR (some (13, k5))), some (vR (some (14, k6))), some (vI x7), some (vI (if (aAnd x7 (if (if x10 < 16 then 0 else 1 : Int) = 0 then r_8 else (aXor r_8 (-1)) : Int)) = (aShl 1 x3) then (if x8 = (-2) then x10 else (if x9 ≤ (if (if x10 < 16 then 0 else 1 : Int) = 0 then (M_6.1 37 0 x10.toNat) else ((M_6.1 37 0 (x10 - 16).toNat) + (M_6.1 37 0 16)) : Int) then x8 else x10 : Int) : Int) else x8 : Int)), some (vI (if (aAnd x7 (if (if x10 < 16 then 0 else 1 : Int) = 0 then r_8 else (aXor r_8 (-1)) : Int)) = (aShl 1 x3) then (if x8 = (-2) then (if (if x10 < 16 then 0 else 1 : Int) = 0 then (M_6.1 37 0 x10.toNat) else ((M_6.1 37 0 (x10 - 16).toNat) + (M_6.1 37 0 16)) : Int) else (if x9 ≤ (if (if x10 < 16 then 0 else 1 : Int) = 0 then (M_6.1 37 0 x10.toNat) else ((M_6.1 37 0 (x10 - 16).toNat) + (M_6.1 37 0 16)) : Int) then x9 else (if (if x10 < 16 then 0 else 1 : Int) = 0 then (M_6.1 37 0 x10.toNat) else ((M_6.1 37 0 (x10 - 16).toNat) + (M_6.1 37 0 16)) : Int) : Int) : Int) else x9 : Int)), some (vI (x10 + 1)), some (vI (if x10 < 16 then 0 else 1 : Int)), some (vI r_8), some (vI (if (if x10 < 16 then 0 else 1 : Int) = 0 then (M_6.1 37 0 x10.toNat) else ((M_6.1 37 0 (x10 - 16).toNat) + (M_6.1 37 0 16)) : Int)), some (vI (if (aAnd x7 (if (if x10 < 16 then 0 else 1 : Int) = 0 then r_8 else (aXor r_8 (-1)) : Int)) = (aShl 1 x3) then 1 else 0 : Int))]) 236 dX11_mends_233 rfl rfl rfl rfl o_24 rfl ?_
                refine r_goto 88 dX11_mends_236 rfl ?_
                exact Ex.weak h ⟨rfl, rfl, rfl, rfl, rfl, rfl, rfl, rfl, rfl, rfl, rfl, trivial⟩
              refine r_if_eq 211 233 dX11_mends_208 rfl rfl (fun c => ?_) (fun c => ?_)
              · have c_21 := b2_0.mp c
                exact (Ex.at hJ_20 (show [some (vR (some (2, 0))), some (vI x1), some (vI x2), some (vI x3), some (vI x4), some (vR (some (13, k5))), some (vR (some (14, k6))), some (vI x7), some (vI x8), some (vI x9), some (vI x10), some (vI (if x10 < 16 then 0 else 1 : Int)), some (vI r_8), some (vI (if (if x10 < 16 then 0 else 1 : Int) = 0 then (M_6.1 37 0 x10.toNat) else ((M_6.1 37 0 (x10 - 16).toNat) + (M_6.1 37 0 16)) : Int)), some (vI (if (aAnd x7 (if (if x10 < 16 then 0 else 1 : Int) = 0 then r_8 else (aXor r_8 (-1)) : Int)) = (aShl 1 x3) then 1 else 0 : Int))] = [some (vR (some (2, 0))), some (vI x1), some (vI x2), some (vI x3), some (vI x4), some (vR (some (13, k5))), some (vR (some (14, k6))), some (vI x7), some (vI (if (aAnd x7 (if (if x10 < 16 then 0 else 1 : Int) = 0 then r_8 else (aXor r_8 (-1)) : Int)) = (aShl 1 x3) then (if x8 = (-2) then x10 else (if x9 ≤ (if (if x10 < 16 then 0 else 1 : Int) = 0 then (M_6.1 37 0 x10.toNat) else ((M_6.1 37 0 (x10 - 16).toNat) + (M_6.1 37 0 16)) : Int) then x8 else x10 : Int) : Int) else x8 : Int)), some (vI (if (aAnd x7 (if (if x10 < 16 then 0 else 1 : Int) = 0 then r_8 else (aXor r_8 (-1)) : Int)) = (aShl 1 x3) then (if x8 = (-2) then (if (if x10 < 16 then 0 else 1 : Int) = 0 then (M_6.1 37 0 x10.toNat) else ((M_6.1 37 0 (x10 - 16).toNat) + (M_6.1 37 0 16)) : Int) else (if x9 ≤ (if (if x10 < 16 then 0 else 1 : Int) = 0 then (M_6.1 37 0 x10.toNat) else ((M_6.1 37 0 (x10 - 16).toNat) + (M_6.1 37 0 16)) : Int) then x9 else (if (if x10 < 16 then 0 else 1 : Int) = 0 then (M_6.1 37 0 x10.toNat) else ((M_6.1 37 0 (x10 - 16).toNat) + (M_6.1 37 0 16)) : Int) : Int) : Int) else x9 : Int)), some (vI x10), some (vI (if x10 < 16 then 0 else 1 : Int)), some (vI r_8), some (vI (if (if x10 < 16 then 0 else 1 : Int) = 0 then (M_6.1 37 0 x10.toNat) else ((M_6.1 37 0 (x10 - 16).toNat) + (M_6.1 37 0 16)) : Int)), some (vI (if (aAnd x7 (if (if x10 < 16 then 0 else 1 : Int) = 0 then r_8 else (aXor r_8 (-1)) : Int)) = (aShl 1 x3) then 1 else 0 : Int))] by simp only [if_neg c_21]) rfl rfl)
              · have c_21 := b2_1.mp c
                refine r_iload 213 dX11_mends_211 rfl rfl ?_
                refine r_bipush 215 dX11_mends_213 rfl rfl ?_
                refine r_icmp_eq 218 225 dX11_mends_215 rfl rfl (fun c => ?_) (fun c => ?_)
                · have c_22 := c
                  refine r_iload 227 dX11_mends_225 rfl rfl ?_
                  refine r_istore (ls' := [some (vR (some (2, 0))), some (vI x1), some (vI x2), some (vI x3), some (vI x4), some (vR (some (13, k5))), some (vR (some (14, k6))), some (vI x7), some (vI x10), some (vI x9), some (vI x10), some (vI (if x10 < 16 then 0 else 1 : Int)), some (vI r_8), some (vI (if (if x10 < 16 then 0 else 1 : Int) = 0 then (M_6.1 37 0 x10.toNat) else ((M_6.1 37 0 (x10 - 16).toNat) + (M_6.1 37 0 16)) : Int)), some (vI (if (aAnd x7 (if (if x10 < 16 then 0 else 1 : Int) = 0 then r_8 else (aXor r_8 (-1)) : Int)) = (aShl 1 x3) then 1 else 0 : Int))]) 229 dX11_mends_227 rfl rfl rfl rfl ?_
                  refine r_iload 231 dX11_mends_229 rfl rfl ?_
                  refine r_istore (ls' := [some (vR (some (2, 0))), some (vI x1), some (vI x2), some (vI x3), some (vI x4), some (vR (some (13, k5))), some (vR (some (14, k6))), some (vI x7), some (vI x10), some (vI (if (if x10 < 16 then 0 else 1 : Int) = 0 then (M_6.1 37 0 x10.toNat) else ((M_6.1 37 0 (x10 - 16).toNat) + (M_6.1 37 0 16)) : Int)), some (vI x10), some (vI (if x10 < 16 then 0 else 1 : Int)), some (vI r_8), some (vI (if (if x10 < 16 then 0 else 1 : Int) = 0 then (M_6.1 37 0 x10.toNat) else ((M_6.1 37 0 (x10 - 16).toNat) + (M_6.1 37 0 16)) : Int)), some (vI (if (aAnd x7 (if (if x10 < 16 then 0 else 1 : Int) = 0 then r_8 else (aXor r_8 (-1)) : Int)) = (aShl 1 x3) then 1 else 0 : Int))]) 233 dX11_mends_231 rfl rfl rfl rfl ?_
                  exact (Ex.at hJ_20 (show [some (vR (some (2, 0))), some (vI x1), some (vI x2), some (vI x3), some (vI x4), some (vR (some (13, k5))), some (vR (some (14, k6))), some (vI x7), some (vI x10), some (vI (if (if x10 < 16 then 0 else 1 : Int) = 0 then (M_6.1 37 0 x10.toNat) else ((M_6.1 37 0 (x10 - 16).toNat) + (M_6.1 37 0 16)) : Int)), some (vI x10), some (vI (if x10 < 16 then 0 else 1 : Int)), some (vI r_8), some (vI (if (if x10 < 16 then 0 else 1 : Int) = 0 then (M_6.1 37 0 x10.toNat) else ((M_6.1 37 0 (x10 - 16).toNat) + (M_6.1 37 0 16)) : Int)), some (vI (if (aAnd x7 (if (if x10 < 16 then 0 else 1 : Int) = 0 then r_8 else (aXor r_8 (-1)) : Int)) = (aShl 1 x3) then 1 else 0 : Int))] = [some (vR (some (2, 0))), some (vI x1), some (vI x2), some (vI x3), some (vI x4), some (vR (some (13, k5))), some (vR (some (14, k6))), some (vI x7), some (vI (if (aAnd x7 (if (if x10 < 16 then 0 else 1 : Int) = 0 then r_8 else (aXor r_8 (-1)) : Int)) = (aShl 1 x3) then (if x8 = (-2) then x10 else (if x9 ≤ (if (if x10 < 16 then 0 else 1 : Int) = 0 then (M_6.1 37 0 x10.toNat) else ((M_6.1 37 0 (x10 - 16).toNat) + (M_6.1 37 0 16)) : Int) then x8 else x10 : Int) : Int) else x8 : Int)), some (vI (if (aAnd x7 (if (if x10 < 16 then 0 else 1 : Int) = 0 then r_8 else (aXor r_8 (-1)) : Int)) = (aShl 1 x3) then (if x8 = (-2) then (if (if x10 < 16 then 0 else 1 : Int) = 0 then (M_6.1 37 0 x10.toNat) else ((M_6.1 37 0 (x10 - 16).toNat) + (M_6.1 37 0 16)) : Int) else (if x9 ≤ (if (if x10 < 16 then 0 else 1 : Int) = 0 then (M_6.1 37 0 x10.toNat) else ((M_6.1 37 0 (x10 - 16).toNat) + (M_6.1 37 0 16)) : Int) then x9 else (if (if x10 < 16 then 0 else 1 : Int) = 0 then (M_6.1 37 0 x10.toNat) else ((M_6.1 37 0 (x10 - 16).toNat) + (M_6.1 37 0 16)) : Int) : Int) : Int) else x9 : Int)), some (vI x10), some (vI (if x10 < 16 then 0 else 1 : Int)), some (vI r_8), some (vI (if (if x10 < 16 then 0 else 1 : Int) = 0 then (M_6.1 37 0 x10.toNat) else ((M_6.1 37 0 (x10 - 16).toNat) + (M_6.1 37 0 16)) : Int)), some (vI (if (aAnd x7 (if (if x10 < 16 then 0 else 1 : Int) = 0 then r_8 else (aXor r_8 (-1)) : Int)) = (aShl 1 x3) then 1 else 0 : Int))] by simp only [if_pos c_21, if_pos c_22]) rfl rfl)
                · have c_22 := c
                  refine r_iload 220 dX11_mends_218 rfl rfl ?_
                  refine r_iload 222 dX11_mends_220 rfl rfl ?_
                  refine r_icmp_ge 225 233 dX11_mends_222 rfl rfl (fun c => ?_) (fun c => ?_)
                  · have c_23 := c
                    exact (Ex.at hJ_20 (show [some (vR (some (2, 0))), some (vI x1), some (vI x2), some (vI x3), some (vI x4), some (vR (some (13, k5))), some (vR (some (14, k6))), some (vI x7), some (vI x8), some (vI x9), some (vI x10), some (vI (if x10 < 16 then 0 else 1 : Int)), some (vI r_8), some (vI (if (if x10 < 16 then 0 else 1 : Int) = 0 then (M_6.1 37 0 x10.toNat) else ((M_6.1 37 0 (x10 - 16).toNat) + (M_6.1 37 0 16)) : Int)), some (vI (if (aAnd x7 (if (if x10 < 16 then 0 else 1 : Int) = 0 then r_8 else (aXor r_8 (-1)) : Int)) = (aShl 1 x3) then 1 else 0 : Int))] = [some (vR (some (2, 0))), some (vI x1), some (vI x2), some (vI x3), some (vI x4), some (vR (some (13, k5))), some (vR (some (14, k6))), some (vI x7), some (vI (if (aAnd x7 (if (if x10 < 16 then 0 else 1 : Int) = 0 then r_8 else (aXor r_8 (-1)) : Int)) = (aShl 1 x3) then (if x8 = (-2) then x10 else (if x9 ≤ (if (if x10 < 16 then 0 else 1 : Int) = 0 then (M_6.1 37 0 x10.toNat) else ((M_6.1 37 0 (x10 - 16).toNat) + (M_6.1 37 0 16)) : Int) then x8 else x10 : Int) : Int) else x8 : Int)), some (vI (if (aAnd x7 (if (if x10 < 16 then 0 else 1 : Int) = 0 then r_8 else (aXor r_8 (-1)) : Int)) = (aShl 1 x3) then (if x8 = (-2) then (if (if x10 < 16 then 0 else 1 : Int) = 0 then (M_6.1 37 0 x10.toNat) else ((M_6.1 37 0 (x10 - 16).toNat) + (M_6.1 37 0 16)) : Int) else (if x9 ≤ (if (if x10 < 16 then 0 else 1 : Int) = 0 then (M_6.1 37 0 x10.toNat) else ((M_6.1 37 0 (x10 - 16).toNat) + (M_6.1 37 0 16)) : Int) then x9 else (if (if x10 < 16 then 0 else 1 : Int) = 0 then (M_6.1 37 0 x10.toNat) else ((M_6.1 37 0 (x10 - 16).toNat) + (M_6.1 37 0 16)) : Int) : Int) : Int) else x9 : Int)), some (vI x10), some (vI (if x10 < 16 then 0 else 1 : Int)), some (vI r_8), some (vI (if (if x10 < 16 then 0 else 1 : Int) = 0 then (M_6.1 37 0 x10.toNat) else ((M_6.1 37 0 (x10 - 16).toNat) + (M_6.1 37 0 16)) : Int)), some (vI (if (aAnd x7 (if (if x10 < 16 then 0 else 1 : Int) = 0 then r_8 else (aXor r_8 (-1)) : Int)) = (aShl 1 x3) then 1 else 0 : Int))] by simp only [if_pos c_21, if_neg c_22, if_pos c_23]) rfl rfl)
                  · have c_23 := c
                    refine r_iload 227 dX11_mends_225 rfl rfl ?_
                    refine r_istore (ls' := [some (vR (some (2, 0))), some (vI x1), some (vI x2), some (vI x3), some (vI x4), some (vR (some (13, k5))), some (vR (some (14, k6))), some (vI x7), some (vI x10), some (vI x9), some (vI x10), some (vI (if x10 < 16 then 0 else 1 : Int)), some (vI r_8), some (vI (if (if x10 < 16 then 0 else 1 : Int) = 0 then (M_6.1 37 0 x10.toNat) else ((M_6.1 37 0 (x10 - 16).toNat) + (M_6.1 37 0 16)) : Int)), some (vI (if (aAnd x7 (if (if x10 < 16 then 0 else 1 : Int) = 0 then r_8 else (aXor r_8 (-1)) : Int)) = (aShl 1 x3) then 1 else 0 : Int))]) 229 dX11_mends_227 rfl rfl rfl rfl ?_
                    refine r_iload 231 dX11_mends_229 rfl rfl ?_
                    refine r_istore (ls' := [some (vR (some (2, 0))), some (vI x1), some (vI x2), some (vI x3), some (vI x4), some (vR (some (13, k5))), some (vR (some (14, k6))), some (vI x7), some (vI x10), some (vI (if (if x10 < 16 then 0 else 1 : Int) = 0 then (M_6.1 37 0 x10.toNat) else ((M_6.1 37 0 (x10 - 16).toNat) + (M_6.1 37 0 16)) : Int)), some (vI x10), some (vI (if x10 < 16 then 0 else 1 : Int)), some (vI r_8), some (vI (if (if x10 < 16 then 0 else 1 : Int) = 0 then (M_6.1 37 0 x10.toNat) else ((M_6.1 37 0 (x10 - 16).toNat) + (M_6.1 37 0 16)) : Int)), some (vI (if (aAnd x7 (if (if x10 < 16 then 0 else 1 : Int) = 0 then r_8 else (aXor r_8 (-1)) : Int)) = (aShl 1 x3) then 1 else 0 : Int))]) 233 dX11_mends_231 rfl rfl rfl rfl ?_
                    exact (Ex.at hJ_20 (show [some (vR (some (2, 0))), some (vI x1), some (vI x2), some (vI x3), some (vI x4), some (vR (some (13, k5))), some (vR (some (14, k6))), some (vI x7), some (vI x10), some (vI (if (if x10 < 16 then 0 else 1 : Int) = 0 then (M_6.1 37 0 x10.toNat) else ((M_6.1 37 0 (x10 - 16).toNat) + (M_6.1 37 0 16)) : Int)), some (vI x10), some (vI (if x10 < 16 then 0 else 1 : Int)), some (vI r_8), some (vI (if (if x10 < 16 then 0 else 1 : Int) = 0 then (M_6.1 37 0 x10.toNat) else ((M_6.1 37 0 (x10 - 16).toNat) + (M_6.1 37 0 16)) : Int)), some (vI (if (aAnd x7 (if (if x10 < 16 then 0 else 1 : Int) = 0 then r_8 else (aXor r_8 (-1)) : Int)) = (aShl 1 x3) then 1 else 0 : Int))] = [some (vR (some (2, 0))), some (vI x1), some (vI x2), some (vI x3), some (vI x4), some (vR (some (13, k5))), some (vR (some (14, k6))), some (vI x7), some (vI (if (aAnd x7 (if (if x10 < 16 then 0 else 1 : Int) = 0 then r_8 else (aXor r_8 (-1)) : Int)) = (aShl 1 x3) then (if x8 = (-2) then x10 else (if x9 ≤ (if (if x10 < 16 then 0 else 1 : Int) = 0 then (M_6.1 37 0 x10.toNat) else ((M_6.1 37 0 (x10 - 16).toNat) + (M_6.1 37 0 16)) : Int) then x8 else x10 : Int) : Int) else x8 : Int)), some (vI (if (aAnd x7 (if (if x10 < 16 then 0 else 1 : Int) = 0 then r_8 else (aXor r_8 (-1)) : Int)) = (aShl 1 x3) then (if x8 = (-2) then (if (if x10 < 16 then 0 else 1 : Int) = 0 then (M_6.1 37 0 x10.toNat) else ((M_6.1 37 0 (x10 - 16).toNat) + (M_6.1 37 0 16)) : Int) else (if x9 ≤ (if (if x10 < 16 then 0 else 1 : Int) = 0 then (M_6.1 37 0 x10.toNat) else ((M_6.1 37 0 (x10 - 16).toNat) + (M_6.1 37 0 16)) : Int) then x9 else (if (if x10 < 16 then 0 else 1 : Int) = 0 then (M_6.1 37 0 x10.toNat) else ((M_6.1 37 0 (x10 - 16).toNat) + (M_6.1 37 0 16)) : Int) : Int) : Int) else x9 : Int)), some (vI x10), some (vI (if x10 < 16 then 0 else 1 : Int)), some (vI r_8), some (vI (if (if x10 < 16 then 0 else 1 : Int) = 0 then (M_6.1 37 0 x10.toNat) else ((M_6.1 37 0 (x10 - 16).toNat) + (M_6.1 37 0 16)) : Int)), some (vI (if (aAnd x7 (if (if x10 < 16 then 0 else 1 : Int) = 0 then r_8 else (aXor r_8 (-1)) : Int)) = (aShl 1 x3) then 1 else 0 : Int))] by simp only [if_pos c_21, if_neg c_22, if_neg c_23]) rfl rfl)
            refine r_icmp_ne 199 203 dX11_mends_196 rfl rfl (fun c => ?_) (fun c => ?_)
            · have c_19 := c
              refine r_iconst 204 dX11_mends_203 rfl (InR_of rfl) ?_
              exact (Ex.at hJ_18 rfl (show [vI 0] = [vI (if (aAnd x7 (if (if x10 < 16 then 0 else 1 : Int) = 0 then r_8 else (aXor r_8 (-1)) : Int)) = (aShl 1 x3) then 1 else 0 : Int)] by simp only [if_neg c_19]) rfl)
            · have c_19 := Decidable.not_not.mp c
              refine r_iconst 200 dX11_mends_199 rfl (InR_of rfl) ?_
              refine r_goto 204 dX11_mends_200 rfl ?_
              exact (Ex.at hJ_18 rfl (show [vI 1] = [vI (if (aAnd x7 (if (if x10 < 16 then 0 else 1 : Int) = 0 then r_8 else (aXor r_8 (-1)) : Int)) = (aShl 1 x3) then 1 else 0 : Int)] by simp only [if_pos c_19]) rfl)
          refine r_if_eq 183 190 dX11_mends_180 rfl rfl (fun c => ?_) (fun c => ?_)
          · have c_16 := c
            refine r_iload 192 dX11_mends_190 rfl rfl ?_
            exact (Ex.at hJ_15 rfl (show [vI r_8, vI x7] = [vI (if (if x10 < 16 then 0 else 1 : Int) = 0 then r_8 else (aXor r_8 (-1)) : Int), vI x7] by simp only [if_pos c_16]) rfl)
          · have c_16 := c
            refine r_iload 185 dX11_mends_183 rfl rfl ?_
            refine r_iconst 186 dX11_mends_185 rfl (InR_of rfl) ?_
            refine r_ixor 187 dX11_mends_186 rfl ?_
            refine r_goto 192 dX11_mends_187 rfl ?_
            exact (Ex.at hJ_15 rfl (show [vI (aXor r_8 (-1)), vI x7] = [vI (if (if x10 < 16 then 0 else 1 : Int) = 0 then r_8 else (aXor r_8 (-1)) : Int), vI x7] by simp only [if_neg c_16]) rfl)
        have h := h0
        refine r_if_eq 137 164 dX11_mends_134 rfl rfl (fun c => ?_) (fun c => ?_)
        · have c_10 := c
          have h := h.1 c_10
          have o_11 := h
          refine r_aload_n 165 dX11_mends_164 rfl rfl ?_
          refine g_R 168 dX11_mends_165 rfl rfl rfl fr_11_12 (sh_11_0 hS) ?_
          refine g_R 171 dX11_mends_168 rfl rfl rfl fr_11_144 (sh_8_7 hS _) ?_
          refine r_iload 173 dX11_mends_171 rfl rfl ?_
          refine a_I 17 174 dX11_mends_173 rfl rfl rfl rfl o_11 rfl ?_
          exact (Ex.at hJ_9 rfl (show [vI (M_6.1 37 0 x10.toNat)] = [vI (if (if x10 < 16 then 0 else 1 : Int) = 0 then (M_6.1 37 0 x10.toNat) else ((M_6.1 37 0 (x10 - 16).toNat) + (M_6.1 37 0 16)) : Int)] by simp only [if_pos c_10]) rfl)
        · have c_10 := c
          have h := h.2 c_10
          obtain ⟨o_12, o_13, o_14⟩ := h
          refine r_aload_n 138 dX11_mends_137 rfl rfl ?_
          refine g_R 141 dX11_mends_138 rfl rfl rfl fr_11_12 (sh_11_0 hS) ?_
          refine g_R 144 dX11_mends_141 rfl rfl rfl fr_11_144 (sh_8_7 hS _) ?_
          refine r_iload 146 dX11_mends_144 rfl rfl ?_
          refine r_bipush 148 dX11_mends_146 rfl rfl ?_
          refine r_isub 149 dX11_mends_148 rfl o_12 ?_
          refine a_I 17 150 dX11_mends_149 rfl rfl rfl rfl o_13 rfl ?_
          refine r_aload_n 151 dX11_mends_150 rfl rfl ?_
          refine g_R 154 dX11_mends_151 rfl rfl rfl fr_11_12 (sh_11_0 hS) ?_
          refine g_R 157 dX11_mends_154 rfl rfl rfl fr_11_144 (sh_8_7 hS _) ?_
          refine r_bipush 159 dX11_mends_157 rfl rfl ?_
          refine a_I 17 160 dX11_mends_159 rfl rfl rfl rfl ⟨by decide, by decide⟩ rfl ?_
          refine r_iadd 161 dX11_mends_160 rfl o_14 ?_
          refine r_goto 174 dX11_mends_161 rfl ?_
          exact (Ex.at hJ_9 rfl (show [vI ((M_6.1 37 0 (x10 - 16).toNat) + (M_6.1 37 0 16))] = [vI (if (if x10 < 16 then 0 else 1 : Int) = 0 then (M_6.1 37 0 x10.toNat) else ((M_6.1 37 0 (x10 - 16).toNat) + (M_6.1 37 0 16)) : Int)] by simp only [if_neg c_10]) rfl)
      have h := h0
      refine r_if_eq 116 124 dX11_mends_113 rfl rfl (fun c => ?_) (fun c => ?_)
      · have c_4 := c
        refine r_iload 126 dX11_mends_124 rfl rfl ?_
        exact (Ex.at hJ_3 rfl (show [vI x10, vR (some (14, k6))] = [vI (if (if x10 < 16 then 0 else 1 : Int) = 0 then x10 else (x10 - 16) : Int), vR (some (14, k6))] by simp only [if_pos c_4]) rfl)
      · have c_4 := c
        have h := h c_4
        have o_5 := h
        refine r_iload 118 dX11_mends_116 rfl rfl ?_
        refine r_bipush 120 dX11_mends_118 rfl rfl ?_
        refine r_isub 121 dX11_mends_120 rfl o_5 ?_
        refine r_goto 126 dX11_mends_121 rfl ?_
        exact (Ex.at hJ_3 rfl (show [vI (x10 - 16), vR (some (14, k6))] = [vI (if (if x10 < 16 then 0 else 1 : Int) = 0 then x10 else (x10 - 16) : Int), vR (some (14, k6))] by simp only [if_neg c_4]) rfl)
    refine r_icmp_lt 102 106 dX11_mends_99 rfl rfl (fun c => ?_) (fun c => ?_)
    · have c_2 := c
      refine r_iconst 107 dX11_mends_106 rfl (InR_of rfl) ?_
      exact (Ex.at hJ_1 rfl (show [vI 0] = [vI (if x10 < 16 then 0 else 1 : Int)] by simp only [if_pos c_2]) rfl)
    · have c_2 := c
      refine r_iconst 103 dX11_mends_102 rfl (InR_of rfl) ?_
      refine r_goto 107 dX11_mends_103 rfl ?_
      exact (Ex.at hJ_1 rfl (show [vI 1] = [vI (if x10 < 16 then 0 else 1 : Int)] by simp only [if_neg c_2]) rfl)

def allE (Q : QT) (c s : Nat) (day : Int) : Int := bI 12 (evS Q (dn Q day) s (snF Q (dn Q day) (-1)) c)
def hldW (Q : QT) (s : Nat) (day : Int) (k : Nat) : Int := bI 12 (fun p => wdF Q (dn Q day) p s k)
def prcW (Q : QT) (w : Nat) : Int := Q 51 (w % 16) + (if 16 ≤ (w : Int) then Q 51 16 else 0)
def mdF (Q : QT) (all p : Int) (s : Nat) (day : Int) : Nat → Int × Int
  | 0 => (-2, 0)
  | w + 1 => if (if 16 ≤ (w : Int) then aAnd all (aXor (hldW Q s day (w % 16)) (-1)) else aAnd all (hldW Q s day (w % 16))) = aShl 1 p then (if (mdF Q all p s day w).1 = -2 then ((w : Int), prcW Q w) else if (mdF Q all p s day w).2 ≤ prcW Q w then mdF Q all p s day w else ((w : Int), prcW Q w)) else mdF Q all p s day w
def mendsV (Q : QT) (c s p day : Int) : Int := if (0 ≤ c ∧ c < nCv Q) ∧ (0 ≤ s ∧ s < nPp Q) ∧ (0 ≤ p ∧ p < nPp Q) ∧ (0 ≤ day ∧ day ≤ 999) then (if allE Q c.toNat s.toNat day = aShl 1 p then 32 else (mdF Q (allE Q c.toNat s.toNat day) p s.toNat day 32).1) else -1
theorem md1 {Q : QT} {all p : Int} {s : Nat} {day : Int} {w : Nat} : (mdF Q all p s day (w + 1)).1 = (if (if 16 ≤ (w : Int) then aAnd all (aXor (hldW Q s day (w % 16)) (-1)) else aAnd all (hldW Q s day (w % 16))) = aShl 1 p then (if (mdF Q all p s day w).1 = -2 then (w : Int) else if (mdF Q all p s day w).2 ≤ prcW Q w then (mdF Q all p s day w).1 else (w : Int)) else (mdF Q all p s day w).1) := by
  rw [show mdF Q all p s day (w + 1) = if (if 16 ≤ (w : Int) then aAnd all (aXor (hldW Q s day (w % 16)) (-1)) else aAnd all (hldW Q s day (w % 16))) = aShl 1 p then (if (mdF Q all p s day w).1 = -2 then ((w : Int), prcW Q w) else if (mdF Q all p s day w).2 ≤ prcW Q w then mdF Q all p s day w else ((w : Int), prcW Q w)) else mdF Q all p s day w from rfl]
  generalize (if 16 ≤ (w : Int) then aAnd all (aXor (hldW Q s day (w % 16)) (-1)) else aAnd all (hldW Q s day (w % 16))) = X
  by_cases c1 : X = aShl 1 p
  · rw [if_pos c1, if_pos c1]
    by_cases c2 : (mdF Q all p s day w).1 = -2
    · rw [if_pos c2, if_pos c2]
    · rw [if_neg c2, if_neg c2]
      by_cases c3 : (mdF Q all p s day w).2 ≤ prcW Q w
      · rw [if_pos c3, if_pos c3]
      · rw [if_neg c3, if_neg c3]
  · rw [if_neg c1, if_neg c1]
theorem md2 {Q : QT} {all p : Int} {s : Nat} {day : Int} {w : Nat} : (mdF Q all p s day (w + 1)).2 = (if (if 16 ≤ (w : Int) then aAnd all (aXor (hldW Q s day (w % 16)) (-1)) else aAnd all (hldW Q s day (w % 16))) = aShl 1 p then (if (mdF Q all p s day w).1 = -2 then prcW Q w else if (mdF Q all p s day w).2 ≤ prcW Q w then (mdF Q all p s day w).2 else prcW Q w) else (mdF Q all p s day w).2) := by
  rw [show mdF Q all p s day (w + 1) = if (if 16 ≤ (w : Int) then aAnd all (aXor (hldW Q s day (w % 16)) (-1)) else aAnd all (hldW Q s day (w % 16))) = aShl 1 p then (if (mdF Q all p s day w).1 = -2 then ((w : Int), prcW Q w) else if (mdF Q all p s day w).2 ≤ prcW Q w then mdF Q all p s day w else ((w : Int), prcW Q w)) else mdF Q all p s day w from rfl]
  generalize (if 16 ≤ (w : Int) then aAnd all (aXor (hldW Q s day (w % 16)) (-1)) else aAnd all (hldW Q s day (w % 16))) = X
  by_cases c1 : X = aShl 1 p
  · rw [if_pos c1, if_pos c1]
    by_cases c2 : (mdF Q all p s day w).1 = -2
    · rw [if_pos c2, if_pos c2]
    · rw [if_neg c2, if_neg c2]
      by_cases c3 : (mdF Q all p s day w).2 ≤ prcW Q w
      · rw [if_pos c3, if_pos c3]
      · rw [if_neg c3, if_neg c3]
  · rw [if_neg c1, if_neg c1]
section MN
variable {l : Launch} {G : Gt} {d : Nat} {Q : QT} {M : Mem}
theorem tie_one {n t s : Nat} (hw : WFc Q) (hn : n ≤ nCh Q) (hs : s < 12) : bI 12 (fun p => decide (p < nPp Q ∧ ¬ aAnd (bI 12 (fun q => tiF Q n p t q)) (aShl 1 (s : Int)) = 0)) = bI 12 (fun p => tiF Q n p t s) := by
  refine bI_ext fun p hp => ?_
  rw [bI_one (n := 12) (s := s) (by omega) hs, bI_and (by omega)]
  cases e : tiF Q n p t s with
  | true =>
    refine decide_eq_true ⟨?_, fun h => ?_⟩
    · by_cases c : p < nPp Q
      · exact c
      · rw [tiF_out hw n p t s hn (.inl (by omega))] at e; cases e
    · have := (bI_zero_iff (by omega) _).mp h s hs
      simp [e] at this
  | false =>
    refine decide_eq_false fun h => h.2 ((bI_zero_iff (by omega) _).mpr fun i hi => ?_)
    by_cases c : i = s
    · subst c; simp [e]
    · simp [c]
theorem KX12_fittingAll {c s : Nat} {day : Int} (hS : Sh M.2.1) (hw : WFA Q) (hH : HoldsQ Q M.1) (hL0 : Laid Q M.1 0 (dn Q day)) (hL1 : Laid Q M.1 1 (dn Q day)) (hc : c < nCv Q) (hs : s < nPp Q) : ∃ I', Cl l G (d + 3) mX12_fittingAll [vR (some (3, 0)), vI (c : Int), vI (s : Int)] M (some (vI (allE Q c s day))) (I', M.2.1, M.2.2) ∧ frM M.1 I' ∧ Laid Q I' 1 (dn Q day) := by
  have hq := hw.q
  have h12 := nPp_le hq.1
  have hc8 : c < 8 := by have := hw.2.1.1; unfold nCv at hc; omega
  have hcC : eqC Q (upQ Q 83 c 0) := ⟨rfl, rfl, rfl, rfl, rfl, rfl, rfl, rfl, rfl⟩
  have hK : eqK0 Q (upQ Q 83 c 0) c := ⟨rfl, fun k _ => ⟨rfl, rfl⟩⟩
  have hH' : HoldsQ (upQ Q 83 c 0) (upI M.1 83 0 c 0) := hH.up (by unfold perF; omega) (by omega)
  have lu : ∀ row n, Laid Q M.1 row n → Laid (upQ Q 83 c 0) (upI M.1 83 0 c 0) row n := fun row n h => by
    unfold Laid
    rw [mkF_q hcC, tiF_q hcC, plF_q hcC]
    exact ⟨fun p hp => by rw [upI_f rfl]; exact h.1 p hp, fun p t hp ht => by rw [upI_f rfl]; exact h.2.1 p t hp ht, fun p hp => by rw [upI_f rfl]; exact h.2.2 p hp⟩
  obtain ⟨F', c3⟩ := KX12_fitting (l := l) (G := G) (d := d) (Q := upQ Q 83 c 0) (M := (upI M.1 83 0 c 0, M.2.1, M.2.2)) (n0 := dn Q day) (n1 := dn Q day) (cv := c) (s := s) (r := -1) hS (WFc_q hcC hq.1) hq.2.2.1 (by rw [nCh_q hcC]; exact dn_le Q day) (by rw [nCh_q hcC]; exact dn_le Q day) hH'.m.1 hH'.m.2.1 (lu _ _ hL0) (lu _ _ hL1) hc8 (WFv_q hK (hw.2.1.2 c hc)) (by omega) (.inl rfl)
  have ev : fitV (upQ Q 83 c 0) (if (upQ Q 83 c 0) 84 c = 0 then dn Q day else dn Q day) s (snF (upQ Q 83 c 0) (dn Q day) (-1)) c = allE Q c s day := by
    have e0 : (if (upQ Q 83 c 0) 84 c = 0 then dn Q day else dn Q day) = dn Q day := by split <;> rfl
    have e1 : snF (upQ Q 83 c 0) (dn Q day) (-1) = snF Q (dn Q day) (-1) := by
      funext p
      unfold snF
      rw [if_pos rfl, if_pos rfl]
      rfl
    unfold fitV
    rw [if_pos upQ_s, e0, e1, evS_q hcC hK]
    rfl
  rw [ev] at c3
  have e83 : M.1 83 0 (c : Int).toNat = Q 83 c := by rw [Int.toNat_natCast]; exact hH.1 _ _ (by unfold perF; omega)
  have hfr : frM M.1 (upI (seI (upI M.1 83 0 c 0) 82 0 F') 83 0 c (Q 83 c)) := fun f k i hn => by
    by_cases e : f = 83 ∧ k = 0
    · obtain ⟨rfl, rfl⟩ := e
      rw [upI_c]
      by_cases ei : i = c
      · rw [if_pos ei, ei]; exact (hH.1 _ _ (by unfold perF; omega)).symm
      · rw [if_neg ei, seI_fam (by omega), upI_i ei]
    · rw [upI_o e, seI_o (fun e2 => hn (by unfold scr; omega)), upI_o e]
  refine ⟨upI (seI (upI M.1 83 0 c 0) 82 0 F') 83 0 c (Q 83 c), xX12_fittingAll_0 hS ?_, hfr, ?_⟩
  · rw [e83, Int.toNat_natCast]
    exact ⟨by omega, _, _, c3, hS, ⟨by omega, (hw.2.2.2.2.2 c).1⟩, rfl, rfl⟩
  · have := hL1
    exact ⟨fun p hp => by rw [upI_f rfl, seI_fam (by omega), upI_f rfl]; exact this.1 p hp, fun p t hp ht => by rw [upI_f rfl, seI_fam (by omega), upI_f rfl]; exact this.2.1 p t hp ht, fun p hp => by rw [upI_f rfl, seI_fam (by omega), upI_f rfl]; exact this.2.2 p hp⟩
end MN
