set_option maxRecDepth 4000 in
theorem xX12_asks_0 {l : Launch} {G : Gt} {d : Nat} {M M' : Mem} {r : Option Vl} {x1 : Int} {x2 : Int} {x3 : Int} (h : 
    ∃ (r_3 : Int) (M_1 : Mem), Cl l G d mX12_standing [vR (some (3, 0)), vI 1, vI x3] ((upI (upI (upI M.1 3 0 48 (-1)) 3 0 49 (-1)) 3 0 50 (-1)), M.2.1, M.2.2) (some (vI r_3)) M_1 ∧ Ex l G (d + 1) mX12_asks 26 [some (vR (some (3, 0))), some (vI x1), some (vI x2), some (vI x3), some (vI r_3), some (vI 0), none, none] [] M_1 r M') : Cl l G (d + 1) mX12_asks [vR (some (3, 0)), vI x1, vI x2, vI x3] M r M' := by
  show Ex l G (d + 1) mX12_asks 0 [some (vR (some (3, 0))), some (vI x1), some (vI x2), some (vI x3), none, none, none, none] [] M r M'
  refine r_aload_n 1 dX12_asks_0 rfl rfl ?_
  refine r_iconst 2 dX12_asks_1 rfl (InR_of rfl) ?_
  refine p_I 5 dX12_asks_2 rfl rfl rfl rfl pf_12_337 (.inl rfl) rfl ?_
  refine r_aload_n 6 dX12_asks_5 rfl rfl ?_
  refine r_iconst 7 dX12_asks_6 rfl (InR_of rfl) ?_
  refine p_I 10 dX12_asks_7 rfl rfl rfl rfl pf_12_340 (.inl rfl) rfl ?_
  refine r_aload_n 11 dX12_asks_10 rfl rfl ?_
  refine r_iconst 12 dX12_asks_11 rfl (InR_of rfl) ?_
  refine p_I 15 dX12_asks_12 rfl rfl rfl rfl pf_12_343 (.inl rfl) rfl ?_
  refine r_aload_n 16 dX12_asks_15 rfl rfl ?_
  refine r_iconst 17 dX12_asks_16 rfl (InR_of rfl) ?_
  refine r_iload_n 18 dX12_asks_17 rfl rfl ?_
  obtain ⟨r_3, M_1, hc_2, h⟩ := h
  refine v_1 (ci := 12) (C := (RX12, TX12, 68)) [vI 1, vI x3] [] 21 dX12_asks_18 rfl rfl rfl rfl rfl mo_X12_standing ml_12_195 rfl rfl hc_2 ?_
  refine r_istore (ls' := [some (vR (some (3, 0))), some (vI x1), some (vI x2), some (vI x3), some (vI r_3), none, none, none]) 23 dX12_asks_21 rfl rfl rfl rfl ?_
  refine r_iconst 24 dX12_asks_23 rfl (InR_of rfl) ?_
  refine r_istore (ls' := [some (vR (some (3, 0))), some (vI x1), some (vI x2), some (vI x3), some (vI r_3), some (vI 0), none, none]) 26 dX12_asks_24 rfl rfl rfl rfl ?_
  exact h
set_option maxRecDepth 4000 in
theorem xX12_asks_26 {l : Launch} {G : Gt} {d : Nat} {M M' : Mem} {r : Option Vl} {x1 : Int} {x2 : Int} {x3 : Int} {x4 : Int} {x5 : Int} (hS : Sh M.2.1) (h : 
    ((M.1 48 0 0) ≤ x5 → r = some (vI 2) ∧ M' = M) ∧ (¬ ((M.1 48 0 0) ≤ x5) → ((0 ≤ x4 ∧ 0 ≤ x5 ∧ x5 < 32)) ∧ ((¬ (tb x4 x5 = true) → (InR (x5 + 1)) ∧ Ex l G (d + 1) mX12_asks 26 [some (vR (some (3, 0))), some (vI x1), some (vI x2), some (vI x3), some (vI x4), some (vI (x5 + 1)), none, none] [] M r M') ∧ (tb x4 x5 = true → ∃ (r_5 : Int) (M_3 : Mem), Cl l G d mX12_fitting [vR (some (3, 0)), vI x1, vI x2, vI x5] M (some (vI r_5)) M_3 ∧ Sh M_3.2.1 ∧ ((r_5 = 0 → (InR (x5 + 1)) ∧ Ex l G (d + 1) mX12_asks 26 [some (vR (some (3, 0))), some (vI x1), some (vI x2), some (vI x3), some (vI x4), some (vI (x5 + 1)), none, none] [] M_3 r M') ∧ (¬ (r_5 = 0) → ((0 ≤ r_5 ∧ 0 ≤ x5 ∧ x5 < 32)) ∧ ((¬ (tb r_5 x5 = true) → ∃ (r_10 : Int) (M_8 : Mem), Cl l G d mX12_lowest [vI r_5] M_3 (some (vI r_10)) M_8 ∧ Sh M_8.2.1 ∧ (((0 ≤ x4 ∧ 0 ≤ r_10 ∧ r_10 < 32)) ∧ ((¬ (tb x4 r_10 = true) → (InR (12 + r_10) ∧ (0 ≤ (12 + r_10) ∧ (12 + r_10) < 24)) ∧ (∃ (r_16 : Int) (M_14 : Mem), Cl l G d mX12_nextTo [vR (some (3, 0)), vI x3, vI (M_8.1 73 0 (12 + r_10).toNat)] ((upI M_8.1 3 0 50 x5), M_8.2.1, M_8.2.2) (some (vI r_16)) M_14 ∧ ((r_16 = (-1) → (InR (x5 + 1)) ∧ Ex l G (d + 1) mX12_asks 26 [some (vR (some (3, 0))), some (vI x1), some (vI x2), some (vI x3), some (vI x4), some (vI (x5 + 1)), none, none] [] ((upI (upI M_14.1 3 0 49 r_16) 3 0 50 (-1)), M_14.2.1, M_14.2.2) r M') ∧ (¬ (r_16 = (-1)) → r = some (vI 1) ∧ M' = ((upI M_14.1 3 0 49 r_16), M_14.2.1, M_14.2.2))))) ∧ (tb x4 r_10 = true → r = some (vI 0) ∧ M' = ((upI (upI M_8.1 3 0 50 x5) 3 0 48 r_10), M_8.2.1, M_8.2.2))))) ∧ (tb r_5 x5 = true → ((0 ≤ x4 ∧ 0 ≤ x5 ∧ x5 < 32)) ∧ ((¬ (tb x4 x5 = true) → (InR (12 + x5) ∧ (0 ≤ (12 + x5) ∧ (12 + x5) < 24)) ∧ (∃ (r_23 : Int) (M_21 : Mem), Cl l G d mX12_nextTo [vR (some (3, 0)), vI x3, vI (M_3.1 73 0 (12 + x5).toNat)] ((upI M_3.1 3 0 50 x5), M_3.2.1, M_3.2.2) (some (vI r_23)) M_21 ∧ ((r_23 = (-1) → (InR (x5 + 1)) ∧ Ex l G (d + 1) mX12_asks 26 [some (vR (some (3, 0))), some (vI x1), some (vI x2), some (vI x3), some (vI x4), some (vI (x5 + 1)), none, none] [] ((upI (upI M_21.1 3 0 49 r_23) 3 0 50 (-1)), M_21.2.1, M_21.2.2) r M') ∧ (¬ (r_23 = (-1)) → r = some (vI 1) ∧ M' = ((upI M_21.1 3 0 49 r_23), M_21.2.1, M_21.2.2))))) ∧ (tb x4 x5 = true → r = some (vI 0) ∧ M' = ((upI (upI M_3.1 3 0 50 x5) 3 0 48 x5), M_3.2.1, M_3.2.2))))))))))) : Ex l G (d + 1) mX12_asks 26 [some (vR (some (3, 0))), some (vI x1), some (vI x2), some (vI x3), some (vI x4), some (vI x5), none, none] [] M r M' := by
  refine r_iload 28 dX12_asks_26 rfl rfl ?_
  refine r_aload_n 29 dX12_asks_28 rfl rfl ?_
  refine g_R 32 dX12_asks_29 rfl rfl rfl fr_12_7 (sh_12_1 hS) ?_
  refine r_iconst 33 dX12_asks_32 rfl (InR_of rfl) ?_
  refine a_I 6 34 dX12_asks_33 rfl rfl rfl rfl ⟨by decide, by decide⟩ rfl ?_
  refine r_icmp_ge 37 152 dX12_asks_34 rfl rfl (fun c => ?_) (fun c => ?_)
  · have h := h.1 (c)
    refine r_iconst 153 dX12_asks_152 rfl (InR_of rfl) ?_
    exact r_iret dX12_asks_153 rfl (.inl rfl) h.1 h.2
  · have h := h.2 (c)
    obtain ⟨o_1, h⟩ := h
    refine r_iload 39 dX12_asks_37 rfl rfl ?_
    refine r_iload 41 dX12_asks_39 rfl rfl ?_
    refine c_1 [vI x4, vI x5] [] 44 dX12_asks_41 rfl rfl mo_X12_has ml_12_148 rfl rfl (KX12_has o_1) ?_
    refine r_if_eq 47 58 dX12_asks_44 rfl rfl (fun c => ?_) (fun c => ?_)
    · have h := h.1 (b2_0.mp c)
      obtain ⟨o_2, h⟩ := h
      refine r_iconst 59 dX12_asks_58 rfl (InR_of rfl) ?_
      refine r_istore (ls' := [some (vR (some (3, 0))), some (vI x1), some (vI x2), some (vI x3), some (vI x4), some (vI x5), some (vI 0), none]) 61 dX12_asks_59 rfl rfl rfl rfl ?_
      refine r_iload 63 dX12_asks_61 rfl rfl ?_
      refine r_if_eq 66 146 dX12_asks_63 rfl rfl (fun _ => ?_) (fun c => absurd (by decide) c)
      refine r_iinc (ls' := [some (vR (some (3, 0))), some (vI x1), some (vI x2), some (vI x3), some (vI x4), some (vI (x5 + 1)), some (vI 0), none]) 149 dX12_asks_146 rfl rfl rfl rfl o_2 rfl ?_
      refine r_goto 26 dX12_asks_149 rfl ?_
      exact Ex.weak h ⟨rfl, rfl, rfl, rfl, rfl, rfl, trivial⟩
    · have h := h.2 (b2_1.mp c)
      refine r_aload_n 48 dX12_asks_47 rfl rfl ?_
      refine r_iload_n 49 dX12_asks_48 rfl rfl ?_
      refine r_iload_n 50 dX12_asks_49 rfl rfl ?_
      refine r_iload 52 dX12_asks_50 rfl rfl ?_
      obtain ⟨r_5, M_3, hc_4, hS, h⟩ := h
      refine v_1 (ci := 12) (C := (RX12, TX12, 68)) [vI x1, vI x2, vI x5] [] 55 dX12_asks_52 rfl rfl rfl rfl rfl mo_X12_fitting ml_12_334 rfl rfl hc_4 ?_
      refine r_goto 59 dX12_asks_55 rfl ?_
      refine r_istore (ls' := [some (vR (some (3, 0))), some (vI x1), some (vI x2), some (vI x3), some (vI x4), some (vI x5), some (vI r_5), none]) 61 dX12_asks_59 rfl rfl rfl rfl ?_
      refine r_iload 63 dX12_asks_61 rfl rfl ?_
      refine r_if_eq 66 146 dX12_asks_63 rfl rfl (fun c => ?_) (fun c => ?_)
      · have h := h.1 (c)
        obtain ⟨o_6, h⟩ := h
        refine r_iinc (ls' := [some (vR (some (3, 0))), some (vI x1), some (vI x2), some (vI x3), some (vI x4), some (vI (x5 + 1)), some (vI r_5), none]) 149 dX12_asks_146 rfl rfl rfl rfl o_6 rfl ?_
        refine r_goto 26 dX12_asks_149 rfl ?_
        exact Ex.weak h ⟨rfl, rfl, rfl, rfl, rfl, rfl, trivial⟩
      · have h := h.2 (c)
        obtain ⟨o_7, h⟩ := h
        refine r_iload 68 dX12_asks_66 rfl rfl ?_
        refine r_iload 70 dX12_asks_68 rfl rfl ?_
        refine c_1 [vI r_5, vI x5] [] 73 dX12_asks_70 rfl rfl mo_X12_has ml_12_148 rfl rfl (KX12_has o_7) ?_
        refine r_if_eq 76 81 dX12_asks_73 rfl rfl (fun c => ?_) (fun c => ?_)
        · have h := h.1 (b2_0.mp c)
          refine r_iload 83 dX12_asks_81 rfl rfl ?_
          obtain ⟨r_10, M_8, hc_9, hS, h⟩ := h
          refine c_1 [vI r_5] [] 86 dX12_asks_83 rfl rfl mo_X12_lowest ml_12_346 rfl rfl hc_9 ?_
          obtain ⟨o_11, h⟩ := h
          refine r_istore (ls' := [some (vR (some (3, 0))), some (vI x1), some (vI x2), some (vI x3), some (vI x4), some (vI x5), some (vI r_5), some (vI r_10)]) 88 dX12_asks_86 rfl rfl rfl rfl ?_
          refine r_aload_n 89 dX12_asks_88 rfl rfl ?_
          refine r_iload 91 dX12_asks_89 rfl rfl ?_
          refine p_I 94 dX12_asks_91 rfl rfl rfl rfl pf_12_343 (.inl rfl) rfl ?_
          refine r_iload 96 dX12_asks_94 rfl rfl ?_
          refine r_iload 98 dX12_asks_96 rfl rfl ?_
          refine c_1 [vI x4, vI r_10] [] 101 dX12_asks_98 rfl rfl mo_X12_has ml_12_148 rfl rfl (KX12_has o_11) ?_
          refine r_if_eq 104 112 dX12_asks_101 rfl rfl (fun c => ?_) (fun c => ?_)
          · have h := h.1 (b2_0.mp c)
            obtain ⟨⟨o_12, o_13⟩, h⟩ := h
            refine r_aload_n 113 dX12_asks_112 rfl rfl ?_
            refine r_aload_n 114 dX12_asks_113 rfl rfl ?_
            refine r_iload_n 115 dX12_asks_114 rfl rfl ?_
            refine r_aload_n 116 dX12_asks_115 rfl rfl ?_
            refine g_R 119 dX12_asks_116 rfl rfl rfl fr_12_85 (mR_0 (sh_12_26 hS)) ?_
            refine r_bipush 121 dX12_asks_119 rfl rfl ?_
            refine r_iload 123 dX12_asks_121 rfl rfl ?_
            refine r_iadd 124 dX12_asks_123 rfl o_12 ?_
            refine a_I 24 125 dX12_asks_124 rfl rfl rfl rfl o_13 (mI_0 (upI_f rfl)) ?_
            obtain ⟨r_16, M_14, hc_15, h⟩ := h
            refine v_1 (ci := 12) (C := (RX12, TX12, 68)) [vI x3, vI (M_8.1 73 0 (12 + r_10).toNat)] [vR (some (3, 0))] 128 dX12_asks_125 rfl rfl rfl rfl rfl mo_X12_nextTo ml_12_349 rfl rfl hc_15 ?_
            refine p_I 131 dX12_asks_128 rfl rfl rfl rfl pf_12_340 (.inl rfl) rfl ?_
            refine r_aload_n 132 dX12_asks_131 rfl rfl ?_
            refine g_I 135 dX12_asks_132 rfl rfl rfl fi_12_340 (mI_0 (upI_s)) ?_
            refine r_iconst 136 dX12_asks_135 rfl (InR_of rfl) ?_
            refine r_icmp_eq 139 141 dX12_asks_136 rfl rfl (fun c => ?_) (fun c => ?_)
            · have h := h.1 (c)
              obtain ⟨o_17, h⟩ := h
              refine r_aload_n 142 dX12_asks_141 rfl rfl ?_
              refine r_iconst 143 dX12_asks_142 rfl (InR_of rfl) ?_
              refine p_I 146 dX12_asks_143 rfl rfl rfl rfl pf_12_343 (.inl rfl) rfl ?_
              refine r_iinc (ls' := [some (vR (some (3, 0))), some (vI x1), some (vI x2), some (vI x3), some (vI x4), some (vI (x5 + 1)), some (vI r_5), some (vI r_10)]) 149 dX12_asks_146 rfl rfl rfl rfl o_17 rfl ?_
              refine r_goto 26 dX12_asks_149 rfl ?_
              exact Ex.weak h ⟨rfl, rfl, rfl, rfl, rfl, rfl, trivial⟩
            · have h := h.2 (c)
              refine r_iconst 140 dX12_asks_139 rfl (InR_of rfl) ?_
              exact r_iret dX12_asks_140 rfl (.inl rfl) h.1 h.2
          · have h := h.2 (b2_1.mp c)
            refine r_aload_n 105 dX12_asks_104 rfl rfl ?_
            refine r_iload 107 dX12_asks_105 rfl rfl ?_
            refine p_I 110 dX12_asks_107 rfl rfl rfl rfl pf_12_337 (.inl rfl) rfl ?_
            refine r_iconst 111 dX12_asks_110 rfl (InR_of rfl) ?_
            exact r_iret dX12_asks_111 rfl (.inl rfl) h.1 h.2
        · have h := h.2 (b2_1.mp c)
          obtain ⟨o_18, h⟩ := h
          refine r_iload 78 dX12_asks_76 rfl rfl ?_
          refine r_goto 86 dX12_asks_78 rfl ?_
          refine r_istore (ls' := [some (vR (some (3, 0))), some (vI x1), some (vI x2), some (vI x3), some (vI x4), some (vI x5), some (vI r_5), some (vI x5)]) 88 dX12_asks_86 rfl rfl rfl rfl ?_
          refine r_aload_n 89 dX12_asks_88 rfl rfl ?_
          refine r_iload 91 dX12_asks_89 rfl rfl ?_
          refine p_I 94 dX12_asks_91 rfl rfl rfl rfl pf_12_343 (.inl rfl) rfl ?_
          refine r_iload 96 dX12_asks_94 rfl rfl ?_
          refine r_iload 98 dX12_asks_96 rfl rfl ?_
          refine c_1 [vI x4, vI x5] [] 101 dX12_asks_98 rfl rfl mo_X12_has ml_12_148 rfl rfl (KX12_has o_18) ?_
          refine r_if_eq 104 112 dX12_asks_101 rfl rfl (fun c => ?_) (fun c => ?_)
          · have h := h.1 (b2_0.mp c)
            obtain ⟨⟨o_19, o_20⟩, h⟩ := h
            refine r_aload_n 113 dX12_asks_112 rfl rfl ?_
            refine r_aload_n 114 dX12_asks_113 rfl rfl ?_
            refine r_iload_n 115 dX12_asks_114 rfl rfl ?_
            refine r_aload_n 116 dX12_asks_115 rfl rfl ?_
            refine g_R 119 dX12_asks_116 rfl rfl rfl fr_12_85 (mR_0 (sh_12_26 hS)) ?_
            refine r_bipush 121 dX12_asks_119 rfl rfl ?_
            refine r_iload 123 dX12_asks_121 rfl rfl ?_
            refine r_iadd 124 dX12_asks_123 rfl o_19 ?_
            refine a_I 24 125 dX12_asks_124 rfl rfl rfl rfl o_20 (mI_0 (upI_f rfl)) ?_
            obtain ⟨r_23, M_21, hc_22, h⟩ := h
            refine v_1 (ci := 12) (C := (RX12, TX12, 68)) [vI x3, vI (M_3.1 73 0 (12 + x5).toNat)] [vR (some (3, 0))] 128 dX12_asks_125 rfl rfl rfl rfl rfl mo_X12_nextTo ml_12_349 rfl rfl hc_22 ?_
            refine p_I 131 dX12_asks_128 rfl rfl rfl rfl pf_12_340 (.inl rfl) rfl ?_
            refine r_aload_n 132 dX12_asks_131 rfl rfl ?_
            refine g_I 135 dX12_asks_132 rfl rfl rfl fi_12_340 (mI_0 (upI_s)) ?_
            refine r_iconst 136 dX12_asks_135 rfl (InR_of rfl) ?_
            refine r_icmp_eq 139 141 dX12_asks_136 rfl rfl (fun c => ?_) (fun c => ?_)
            · have h := h.1 (c)
              obtain ⟨o_24, h⟩ := h
              refine r_aload_n 142 dX12_asks_141 rfl rfl ?_
              refine r_iconst 143 dX12_asks_142 rfl (InR_of rfl) ?_
              refine p_I 146 dX12_asks_143 rfl rfl rfl rfl pf_12_343 (.inl rfl) rfl ?_
              refine r_iinc (ls' := [some (vR (some (3, 0))), some (vI x1), some (vI x2), some (vI x3), some (vI x4), some (vI (x5 + 1)), some (vI r_5), some (vI x5)]) 149 dX12_asks_146 rfl rfl rfl rfl o_24 rfl ?_
              refine r_goto 26 dX12_asks_149 rfl ?_
              exact Ex.weak h ⟨rfl, rfl, rfl, rfl, rfl, rfl, trivial⟩
            · have h := h.2 (c)
              refine r_iconst 140 dX12_asks_139 rfl (InR_of rfl) ?_
              exact r_iret dX12_asks_140 rfl (.inl rfl) h.1 h.2
          · have h := h.2 (b2_1.mp c)
            refine r_aload_n 105 dX12_asks_104 rfl rfl ?_
            refine r_iload 107 dX12_asks_105 rfl rfl ?_
            refine p_I 110 dX12_asks_107 rfl rfl rfl rfl pf_12_337 (.inl rfl) rfl ?_
            refine r_iconst 111 dX12_asks_110 rfl (InR_of rfl) ?_
            exact r_iret dX12_asks_111 rfl (.inl rfl) h.1 h.2

def fr3 (I I' : IM) : Prop := ∀ f k i, ¬ ((f = 82 ∨ f = 75 ∨ (f = 3 ∧ (i = 48 ∨ i = 49 ∨ i = 50))) ∧ k = 0) → I' f k i = I f k i
theorem fr3.rf {I : IM} : fr3 I I := fun _ _ _ _ => rfl
theorem fr3.tr {I I' I'' : IM} (h : fr3 I I') (h' : fr3 I' I'') : fr3 I I'' := fun f k i hn => (h' f k i hn).trans (h f k i hn)
theorem fr3.m {I I' : IM} (h : fr3 I I') : frM I I' := fun f k i hn => h f k i fun c => hn (by unfold scr; omega)
theorem fr3.se {I : IM} {f : Nat} {g : Nat → Int} (h : f = 82 ∨ f = 75) : fr3 I (seI I f 0 g) := fun f' k i hn => by
  by_cases e : f' = f
  · subst e
    by_cases e2 : k = 0
    · exact absurd (by omega) hn
    · unfold seI; rw [if_pos rfl, if_neg e2]
  · rw [seI_fam e]
theorem fr3.up {I : IM} {j : Nat} {v : Int} (h : j = 48 ∨ j = 49 ∨ j = 50) : fr3 I (upI I 3 0 j v) := fun f' k i hn => by
  by_cases e : f' = 3 ∧ k = 0
  · obtain ⟨rfl, rfl⟩ := e
    rw [upI_i (by omega)]
  · rw [upI_o e]
theorem Laid.fr3 {Q : QT} {I I' : IM} {row n : Nat} (h : Laid Q I row n) (hf : fr3 I I') : Laid Q I' row n := by
  refine ⟨fun p hp => ?_, fun p t hp ht => ?_, fun p hp => ?_⟩
  · rw [hf _ _ _ (by omega)]; exact h.1 p hp
  · rw [hf _ _ _ (by omega)]; exact h.2.1 p t hp ht
  · rw [hf _ _ _ (by omega)]; exact h.2.2 p hp
def WFp (Q : QT) : Prop := ∀ r p : Nat, r < 12 → p < 12 → tb (Q 50 r) (p : Int) = true → p < nPp Q
theorem snF_in {Q : QT} {n r p : Nat} (hp : WFp Q) (hr : r < nPp Q) (h12 : nPp Q ≤ 12) (h : p < 12) (e : snF Q n r p = true) : p < nPp Q := by
  unfold snF at e
  rw [if_neg (show ¬ ((r : Int) = -1) by omega), Int.toNat_natCast] at e
  rw [Bool.or_eq_true, Bool.or_eq_true] at e
  rcases e with (e | e) | e
  · have := of_decide_eq_true e; omega
  · exact hp r p (by omega) h e
  · exact (of_decide_eq_true e).1
theorem fitS_in {Q : QT} {n n1 s cv r p : Nat} (hp : WFp Q) (hr : r < nPp Q) (h12 : nPp Q ≤ 12) (h : p < 12) (e : fitS Q n s (snF Q n1 r) cv p = true) : p < nPp Q := by
  unfold fitS at e
  rw [Bool.and_eq_true] at e
  exact snF_in hp hr h12 h (ev_sub _ _ _ e.2)
theorem askF_keep {Q : QT} {n n1 s cv place : Nat} {x : Nat × Int × Int} : ∀ {k m : Nat}, askF Q n n1 s cv place k = some x → k ≤ m → askF Q n n1 s cv place m = some x := by
  intro k m h hm
  induction m with
  | zero => rw [show k = 0 by omega] at h; exact h
  | succ m ih =>
    by_cases e : k = m + 1
    · rw [← e]; exact h
    · unfold askF
      rw [ih (by omega)]
def AskP (x : Option (Nat × Int × Int)) (res : Int) (I : IM) : Prop := match x with
  | none => res = 2 ∧ I 3 0 49 = -1 ∧ I 3 0 50 = -1 ∧ I 3 0 48 = -1
  | some (r, h, w) => res = h ∧ I 3 0 50 = (r : Int) ∧ ((h = 0 ∧ I 3 0 48 = w) ∨ (h = 1 ∧ I 3 0 49 = w ∧ I 3 0 48 = -1))
section AK
variable {l : Launch} {G : Gt} {d : Nat} {Q : QT} {M : Mem}
theorem asks_26 {n0 n1 n s cv place : Nat} (hS : Sh M.2.1) (hw : WFc Q) (hwr : WFr Q) (hk : WFk Q) (hp : WFp Q) (h0 : n0 ≤ nCh Q) (h1 : n1 ≤ nCh Q) (hen : n = if Q 84 cv = 0 then n0 else n1) (hH : HoldsM Q M.1) (hL0 : Laid Q M.1 0 n0) (hL1 : Laid Q M.1 1 n1) (hc : cv < 8) (hv : WFv Q cv) (hs : s < 12) (hpl : place < 8) : ∀ I, fr3 M.1 I → I 3 0 48 = -1 → I 3 0 49 = -1 → I 3 0 50 = -1 → ∃ I' res, Ex l G (d + 3) mX12_asks 26 [some (vR (some (3, 0))), some (vI (cv : Int)), some (vI (s : Int)), some (vI (place : Int)), some (vI (bI 12 (fun p => decide (p < nPp Q ∧ plF Q n1 p = place)))), some (vI 0), none, none] [] (I, M.2.1, M.2.2) (some (vI res)) (I', M.2.1, M.2.2) ∧ fr3 M.1 I' ∧ AskP (askF Q n n1 s cv place (nPp Q)) res I' := by
  have h12 := nPp_le hw
  refine loopUp (P := fun k : Nat => askF Q n n1 s cv place k = none → ∀ I, fr3 M.1 I → I 3 0 48 = -1 → I 3 0 49 = -1 → I 3 0 50 = -1 → ∃ I' res, Ex l G (d + 3) mX12_asks 26 [some (vR (some (3, 0))), some (vI (cv : Int)), some (vI (s : Int)), some (vI (place : Int)), some (vI (bI 12 (fun p => decide (p < nPp Q ∧ plF Q n1 p = place)))), some (vI (k : Int)), none, none] [] (I, M.2.1, M.2.2) (some (vI res)) (I', M.2.1, M.2.2) ∧ fr3 M.1 I' ∧ AskP (askF Q n n1 s cv place (nPp Q)) res I') 0 (nPp Q) (Nat.zero_le _) ?_ ?_ rfl
  · intro k _ hkn ih hno I hf i1 i2 i3
    have hHI := hH.fr hf.m
    have e1 : I 48 0 0 = (nPp Q : Int) := mppl_eq (M := (I, M.2.1, M.2.2)) hw hHI
    have hask : askF Q n n1 s cv place (k + 1) = if plF Q n1 k = place then (tellF Q n n1 s cv place k).map (fun y => (k, y)) else none := by
      rw [show askF Q n n1 s cv place (k + 1) = (match askF Q n n1 s cv place k with
        | some x => some x
        | none => if plF Q n1 k = place then (tellF Q n n1 s cv place k).map (fun y => (k, y)) else none) from rfl, hno]
    have ht := tb_bI (n := 12) (by omega) (fun p => decide (p < nPp Q ∧ plF Q n1 p = place))
    have hi1 : InR ((k : Int) + 1) := by unfold InR; omega
    have hnn : 0 ≤ bI 12 (fun p => decide (p < nPp Q ∧ plF Q n1 p = place)) := bI_nn
    by_cases c : plF Q n1 k = place
    · have htk : tb (bI 12 (fun p => decide (p < nPp Q ∧ plF Q n1 p = place))) (k : Int) = true := by rw [ht k]; simp [hkn, c]; omega
      rw [if_pos c] at hask
      obtain ⟨F', hfit⟩ := KX12_fitting (l := l) (G := G) (d := d) (M := (I, M.2.1, M.2.2)) (cv := cv) (s := s) (r := (k : Int)) hS hw hk h0 h1 hHI.1 hHI.2.1 (hL0.fr3 hf) (hL1.fr3 hf) hc hv hs (by omega)
      rw [← hen, fitV_S] at hfit
      have hf3 : fr3 M.1 (seI I 82 0 F') := hf.tr (fr3.se (.inl rfl))
      have j1 : seI I 82 0 F' 3 0 48 = -1 := by rw [seI_fam (by omega)]; exact i1
      have j2 : seI I 82 0 F' 3 0 49 = -1 := by rw [seI_fam (by omega)]; exact i2
      have j3 : seI I 82 0 F' 3 0 50 = -1 := by rw [seI_fam (by omega)]; exact i3
      have hle : ¬ (I 48 0 0 ≤ (k : Int)) := by rw [e1]; omega
      have tS := tb_bI (n := 12) (by omega) (fitS Q n s (snF Q n1 k) cv)
      rcases least_or (fitS Q n s (snF Q n1 k) cv) 12 with hn | ⟨j, g1, g2, g3⟩
      · have em : mnt Q n n1 s cv k = -1 := by unfold mnt; rw [hn k (by omega), if_neg (by simp), firstF_none hn]
        have et : tellF Q n n1 s cv place k = none := by unfold tellF; rw [if_pos em]
        obtain ⟨I', res, hx, g⟩ := ih (by rw [hask, et]; rfl) _ hf3 j1 j2 j3
        exact ⟨I', res, xX12_asks_26 hS ⟨fun c2 => absurd c2 hle, fun _ => ⟨by omega, fun c2 => absurd htk c2, fun _ => ⟨_, _, hfit, hS, fun _ => ⟨hi1, hx⟩, fun c2 => absurd ((bI_zero_iff (by omega) _).mpr hn) c2⟩⟩⟩, g⟩
      · have hne : ¬ bI 12 (fitS Q n s (snF Q n1 k) cv) = 0 := fun e => by
          have := (bI_zero_iff (n := 12) (by omega) _).mp e j g1
          rw [g2] at this
          cases this
        have hb0 : 0 ≤ bI 12 (fitS Q n s (snF Q n1 k) cv) := bI_nn
        cases eS : fitS Q n s (snF Q n1 k) cv k with
        | true =>
          have em : mnt Q n n1 s cv k = k := by unfold mnt; rw [if_pos eS]
          have et : tellF Q n n1 s cv place k = some (0, (k : Int)) := by unfold tellF; rw [em, if_neg (by omega), Int.toNat_natCast, if_pos c]
          have tk : tb (bI 12 (fitS Q n s (snF Q n1 k) cv)) (k : Int) = true := by rw [tS k, eS]; simp; omega
          refine ⟨upI (upI (seI I 82 0 F') 3 0 50 k) 3 0 48 k, 0, xX12_asks_26 hS ⟨fun c2 => absurd c2 hle, fun _ => ⟨by omega, fun c2 => absurd htk c2, fun _ => ⟨_, _, hfit, hS, fun c2 => absurd c2 hne, fun _ => ⟨by omega, fun c2 => absurd tk c2, fun _ => ⟨by omega, fun c2 => absurd htk c2, fun _ => ⟨rfl, rfl⟩⟩⟩⟩⟩⟩, (hf3.tr (fr3.up (by omega))).tr (fr3.up (by omega)), ?_⟩
          rw [askF_keep (m := nPp Q) (show askF Q n n1 s cv place (k + 1) = some (k, 0, (k : Int)) by rw [hask, et]; rfl) (by omega)]
          exact ⟨rfl, by rw [upI_i (by omega), upI_s], .inl ⟨rfl, by rw [upI_s]⟩⟩
        | false =>
          have em : mnt Q n n1 s cv k = j := by unfold mnt; rw [if_neg (by rw [eS]; simp), firstF_at g3 g2 g1]
          have tk : ¬ tb (bI 12 (fitS Q n s (snF Q n1 k) cv)) (k : Int) = true := by rw [tS k, eS]; simp
          have hjp := fitS_in hp hkn h12 g1 g2
          have klow := KX12_lowest (l := l) (G := G) (d := d + 1) (M := (seI I 82 0 F', M.2.1, M.2.2)) (n := 12) (by omega) g1 g2 g3
          have hpj := plF_in hw n1 j h1 g1
          by_cases cj : plF Q n1 j = place
          · have et : tellF Q n n1 s cv place k = some (0, (j : Int)) := by unfold tellF; rw [em, if_neg (by omega), Int.toNat_natCast, if_pos cj]
            have tj : tb (bI 12 (fun p => decide (p < nPp Q ∧ plF Q n1 p = place))) (j : Int) = true := by rw [ht j]; simp [hjp, cj]; omega
            refine ⟨upI (upI (seI I 82 0 F') 3 0 50 k) 3 0 48 j, 0, xX12_asks_26 hS ⟨fun c2 => absurd c2 hle, fun _ => ⟨by omega, fun c2 => absurd htk c2, fun _ => ⟨_, _, hfit, hS, fun c2 => absurd c2 hne, fun _ => ⟨by omega, fun _ => ⟨_, _, klow, hS, by omega, fun c2 => absurd tj c2, fun _ => ⟨rfl, rfl⟩⟩, fun c2 => absurd c2 tk⟩⟩⟩⟩, (hf3.tr (fr3.up (by omega))).tr (fr3.up (by omega)), ?_⟩
            rw [askF_keep (m := nPp Q) (show askF Q n n1 s cv place (k + 1) = some (k, 0, (j : Int)) by rw [hask, et]; rfl) (by omega)]
            exact ⟨rfl, by rw [upI_i (by omega), upI_s], .inl ⟨rfl, by rw [upI_s]⟩⟩
          · have tj : ¬ tb (bI 12 (fun p => decide (p < nPp Q ∧ plF Q n1 p = place))) (j : Int) = true := by rw [ht j]; simp [cj]
            have hf4 : fr3 M.1 (upI (seI I 82 0 F') 3 0 50 k) := hf3.tr (fr3.up (by omega))
            have ep : seI I 82 0 F' 73 0 (12 + (j : Int)).toNat = plF Q n1 j := by
              rw [show (12 + (j : Int)).toNat = 12 * 1 + j by omega]
              exact (hL1.fr3 hf3).2.2 j g1
            have kn := KX12_nextTo (l := l) (G := G) (d := d + 1) (M := (upI (seI I 82 0 F') 3 0 50 k, M.2.1, M.2.2)) (a := place) (b := (plF Q n1 j).toNat) hS hwr (hH.fr hf4.m).2.2.1 hpl (by omega)
            rw [show (((plF Q n1 j).toNat : Nat) : Int) = plF Q n1 j by omega] at kn
            have hf5 : fr3 M.1 (spM Q (plF Q n1 j).toNat (upI (seI I 82 0 F') 3 0 50 k, M.2.1, M.2.2)).1 := hf4.tr (fr3.se (.inr rfl))
            have hr5 : ∀ i, (spM Q (plF Q n1 j).toNat (upI (seI I 82 0 F') 3 0 50 k, M.2.1, M.2.2)).1 3 0 i = upI (seI I 82 0 F') 3 0 50 k 3 0 i := fun i => by
              unfold spM
              dsimp only
              rw [seI_fam (by omega)]
            by_cases cn : nx Q place (plF Q n1 j).toNat = -1
            · have et : tellF Q n n1 s cv place k = none := by unfold tellF; rw [em, if_neg (by omega), Int.toNat_natCast, if_neg cj, if_pos cn]
              obtain ⟨I', res, hx, g⟩ := ih (by rw [hask, et]; rfl) (upI (upI (spM Q (plF Q n1 j).toNat (upI (seI I 82 0 F') 3 0 50 k, M.2.1, M.2.2)).1 3 0 49 (nx Q place (plF Q n1 j).toNat)) 3 0 50 (-1)) ((hf5.tr (fr3.up (by omega))).tr (fr3.up (by omega))) (by rw [upI_i (by omega), upI_i (by omega), hr5, upI_i (by omega)]; exact j1) (by rw [upI_i (by omega), upI_s]; exact cn) (by rw [upI_s])
              exact ⟨I', res, xX12_asks_26 hS ⟨fun c2 => absurd c2 hle, fun _ => ⟨by omega, fun c2 => absurd htk c2, fun _ => ⟨_, _, hfit, hS, fun c2 => absurd c2 hne, fun _ => ⟨by omega, fun _ => ⟨(j : Int), (seI I 82 0 F', M.2.1, M.2.2), klow, hS, by omega, fun _ => ⟨⟨by unfold InR; omega, by omega⟩, nx Q place (plF Q n1 j).toNat, spM Q (plF Q n1 j).toNat (upI (seI I 82 0 F') 3 0 50 k, M.2.1, M.2.2), by dsimp only; rw [ep]; exact kn, fun _ => ⟨hi1, hx⟩, fun c2 => absurd cn c2⟩, fun c2 => absurd c2 tj⟩, fun c2 => absurd c2 tk⟩⟩⟩⟩, g⟩
            · have et : tellF Q n n1 s cv place k = some (1, nx Q place (plF Q n1 j).toNat) := by unfold tellF; rw [em, if_neg (by omega), Int.toNat_natCast, if_neg cj, if_neg cn]
              refine ⟨upI (spM Q (plF Q n1 j).toNat (upI (seI I 82 0 F') 3 0 50 k, M.2.1, M.2.2)).1 3 0 49 (nx Q place (plF Q n1 j).toNat), 1, xX12_asks_26 hS ⟨fun c2 => absurd c2 hle, fun _ => ⟨by omega, fun c2 => absurd htk c2, fun _ => ⟨_, _, hfit, hS, fun c2 => absurd c2 hne, fun _ => ⟨by omega, fun _ => ⟨(j : Int), (seI I 82 0 F', M.2.1, M.2.2), klow, hS, by omega, fun _ => ⟨⟨by unfold InR; omega, by omega⟩, nx Q place (plF Q n1 j).toNat, spM Q (plF Q n1 j).toNat (upI (seI I 82 0 F') 3 0 50 k, M.2.1, M.2.2), by dsimp only; rw [ep]; exact kn, fun c2 => absurd c2 cn, fun _ => ⟨rfl, rfl⟩⟩, fun c2 => absurd c2 tj⟩, fun c2 => absurd c2 tk⟩⟩⟩⟩, hf5.tr (fr3.up (by omega)), ?_⟩
              rw [askF_keep (m := nPp Q) (show askF Q n n1 s cv place (k + 1) = some (k, 1, nx Q place (plF Q n1 j).toNat) by rw [hask, et]; rfl) (by omega)]
              exact ⟨rfl, by rw [upI_i (by omega), hr5, upI_s], .inr ⟨rfl, by rw [upI_s], by rw [upI_i (by omega), hr5, upI_i (by omega)]; exact j1⟩⟩
    · obtain ⟨I', res, hx, g⟩ := ih (by rw [hask, if_neg c]) I hf i1 i2 i3
      refine ⟨I', res, xX12_asks_26 hS ⟨fun c2 => ?_, fun _ => ⟨by omega, fun _ => ⟨hi1, hx⟩, fun c2 => ?_⟩⟩, g⟩
      · dsimp only at c2; rw [e1] at c2; omega
      · rw [ht k] at c2; simp [c] at c2
  · intro hno I hf i1 i2 i3
    have e1 : I 48 0 0 = (nPp Q : Int) := mppl_eq (M := (I, M.2.1, M.2.2)) hw (hH.fr hf.m)
    refine ⟨I, 2, xX12_asks_26 hS ⟨fun _ => ⟨rfl, rfl⟩, fun c => absurd ?_ c⟩, hf, ?_⟩
    · dsimp only; rw [e1]; exact Int.le_refl _
    · rw [hno]; exact ⟨rfl, i2, i3, i1⟩
end AK
