/-! ends, copies -/
set_option maxRecDepth 4000 in
theorem xX5_beginAgain_0 {l : Launch} {G : Gt} {d : Nat} {M M' : Mem} {r : Option Vl} {k0 : Nat} (h : 
    ((0 ≤ (M.1 5 k0 3) ∧ (M.1 5 k0 3) < 32)) ∧ r = none ∧ M' = ((upI (upI (upI (upI (upI (upI (upI M.1 5 k0 5 0) 5 k0 6 (M.1 5 k0 3)) 5 k0 7 (M.1 5 k0 4)) 5 k0 8 (-1)) 5 k0 9 (aShl 1 (M.1 5 k0 3))) 5 k0 10 0) 5 k0 11 0), M.2.1, M.2.2)) : Cl l G d mX5_beginAgain [vR (some (5, k0))] M r M' := by
  show Ex l G d mX5_beginAgain 0 [some (vR (some (5, k0)))] [] M r M'
  obtain ⟨o_1, h⟩ := h
  refine r_aload_n 1 dX5_beginAgain_0 rfl rfl ?_
  refine r_iconst 2 dX5_beginAgain_1 rfl (InR_of rfl) ?_
  refine p_I 5 dX5_beginAgain_2 rfl rfl rfl rfl pf_5_34 (.inl rfl) rfl ?_
  refine r_aload_n 6 dX5_beginAgain_5 rfl rfl ?_
  refine r_aload_n 7 dX5_beginAgain_6 rfl rfl ?_
  refine g_I 10 dX5_beginAgain_7 rfl rfl rfl fi_5_25 (mI_0 (upI_i (by decide))) ?_
  refine p_I 13 dX5_beginAgain_10 rfl rfl rfl rfl pf_5_37 (.inl rfl) rfl ?_
  refine r_aload_n 14 dX5_beginAgain_13 rfl rfl ?_
  refine r_aload_n 15 dX5_beginAgain_14 rfl rfl ?_
  refine g_I 18 dX5_beginAgain_15 rfl rfl rfl fi_5_28 (mI_0 ((upI_i (by decide)).trans (upI_i (by decide)))) ?_
  refine p_I 21 dX5_beginAgain_18 rfl rfl rfl rfl pf_5_40 (.inl rfl) rfl ?_
  refine r_aload_n 22 dX5_beginAgain_21 rfl rfl ?_
  refine r_iconst 23 dX5_beginAgain_22 rfl (InR_of rfl) ?_
  refine p_I 26 dX5_beginAgain_23 rfl rfl rfl rfl pf_5_9 (.inl rfl) rfl ?_
  refine r_aload_n 27 dX5_beginAgain_26 rfl rfl ?_
  refine r_iconst 28 dX5_beginAgain_27 rfl (InR_of rfl) ?_
  refine r_aload_n 29 dX5_beginAgain_28 rfl rfl ?_
  refine g_I 32 dX5_beginAgain_29 rfl rfl rfl fi_5_25 (mI_0 ((upI_i (by decide)).trans ((upI_i (by decide)).trans ((upI_i (by decide)).trans (upI_i (by decide)))))) ?_
  refine r_ishl 33 dX5_beginAgain_32 rfl o_1 ?_
  refine p_I 36 dX5_beginAgain_33 rfl rfl rfl rfl pf_5_43 (.inl rfl) rfl ?_
  refine r_aload_n 37 dX5_beginAgain_36 rfl rfl ?_
  refine r_iconst 38 dX5_beginAgain_37 rfl (InR_of rfl) ?_
  refine p_I 41 dX5_beginAgain_38 rfl rfl rfl rfl pf_5_46 (.inl rfl) rfl ?_
  refine r_aload_n 42 dX5_beginAgain_41 rfl rfl ?_
  refine r_iconst 43 dX5_beginAgain_42 rfl (InR_of rfl) ?_
  refine p_I 46 dX5_beginAgain_43 rfl rfl rfl rfl pf_5_49 (.inl rfl) rfl ?_
  exact r_vret dX5_beginAgain_46 rfl h.1 h.2

set_option maxRecDepth 4000 in
theorem xX5_begin_0 {l : Launch} {G : Gt} {d : Nat} {M M' : Mem} {r : Option Vl} {k0 : Nat} {k1 : Nat} {x2 : Int} {x3 : Int} {x4 : Int} {x5 : Int} (h : 
    ∃ (M_1 : Mem), Cl l G d mX5_beginAgain [vR (some (5, k0))] ((upI (upI (upI (upI M.1 5 k0 1 x2) 5 k0 2 x3) 5 k0 3 x4) 5 k0 4 x5), (upR M.2.1 5 k0 0 (some (13, k1))), M.2.2) none M_1 ∧ r = none ∧ M' = M_1) : Cl l G (d + 1) mX5_begin [vR (some (5, k0)), vR (some (13, k1)), vI x2, vI x3, vI x4, vI x5] M r M' := by
  show Ex l G (d + 1) mX5_begin 0 [some (vR (some (5, k0))), some (vR (some (13, k1))), some (vI x2), some (vI x3), some (vI x4), some (vI x5)] [] M r M'
  refine r_aload_n 1 dX5_begin_0 rfl rfl ?_
  refine r_aload_n 2 dX5_begin_1 rfl rfl ?_
  refine p_R 5 dX5_begin_2 rfl rfl rfl rfl pf_5_15 (.inl rfl) rfl ?_
  refine r_aload_n 6 dX5_begin_5 rfl rfl ?_
  refine r_iload_n 7 dX5_begin_6 rfl rfl ?_
  refine p_I 10 dX5_begin_7 rfl rfl rfl rfl pf_5_19 (.inl rfl) rfl ?_
  refine r_aload_n 11 dX5_begin_10 rfl rfl ?_
  refine r_iload_n 12 dX5_begin_11 rfl rfl ?_
  refine p_I 15 dX5_begin_12 rfl rfl rfl rfl pf_5_22 (.inl rfl) rfl ?_
  refine r_aload_n 16 dX5_begin_15 rfl rfl ?_
  refine r_iload 18 dX5_begin_16 rfl rfl ?_
  refine p_I 21 dX5_begin_18 rfl rfl rfl rfl pf_5_25 (.inl rfl) rfl ?_
  refine r_aload_n 22 dX5_begin_21 rfl rfl ?_
  refine r_iload 24 dX5_begin_22 rfl rfl ?_
  refine p_I 27 dX5_begin_24 rfl rfl rfl rfl pf_5_28 (.inl rfl) rfl ?_
  refine r_aload_n 28 dX5_begin_27 rfl rfl ?_
  obtain ⟨M_1, hc_2, h⟩ := h
  refine v_0 (ci := 5) (C := (RX5, TX5, 12)) [] [] 31 dX5_begin_28 rfl rfl rfl rfl rfl mo_X5_beginAgain ml_5_31 rfl rfl hc_2 ?_
  exact r_vret dX5_begin_31 rfl h.1 h.2

set_option maxRecDepth 4000 in
theorem xX11_ends_0 {l : Launch} {G : Gt} {d : Nat} {M M' : Mem} {r : Option Vl} {x1 : Int} {x2 : Int} {x3 : Int} {x4 : Int} {x5 : Int} (h : 
    ∃ (o_3 : Option Nm) (M_1 : Mem), Cl l G d mX11_coverOf [vR (some (2, 0)), vI x2] M (some (vR o_3)) M_1 ∧ Sh M_1.2.1 ∧ ((o_3 = none → r = some (vI (-2)) ∧ M' = M_1) ∧ (¬ (o_3 = none) → (¬ (0 ≤ x1 ∧ x1 < (M_1.1 4 0 0)) → r = some (vI (-2)) ∧ M' = M_1) ∧ (0 ≤ x1 ∧ x1 < (M_1.1 4 0 0) → (¬ (0 ≤ x3 ∧ x3 < 8) → r = some (vI (-2)) ∧ M' = M_1) ∧ (0 ≤ x3 ∧ x3 < 8 → (0 ≤ x4 ∧ x4 ≤ 999 → (x5 < 0 → r = some (vI (-2)) ∧ M' = M_1) ∧ (¬ (x5 < 0) → (x5 ≤ 4 → ∃ k_4 : Nat, o_3 = some (13, k_4) ∧ (∃ (M_6 : Mem), Cl l G d mX5_begin [vR (some (5, 8)), vR (some (13, k_4)), vI x1, vI (-1), vI x3, vI x4] M_1 none M_6 ∧ Sh M_6.2.1 ∧ (∃ (M_8 : Mem), Cl l G d mX0_goToEnd [vR (some (9, 0)), vR (some (5, 8))] M_6 none M_8 ∧ Sh M_8.2.1 ∧ ((x5 < 0 ∨ 3 < x5 → r = some (vI (M_8.1 5 8 10)) ∧ M' = M_8) ∧ (x5 = 0 → r = some (vI (M_8.1 5 8 5)) ∧ M' = M_8) ∧ (x5 = 1 → r = some (vI (M_8.1 5 8 8)) ∧ M' = M_8) ∧ (x5 = 2 → r = some (vI (M_8.1 5 8 7)) ∧ M' = M_8) ∧ (x5 = 3 → r = some (vI (M_8.1 5 8 6)) ∧ M' = M_8))))) ∧ (¬ (x5 ≤ 4) → r = some (vI (-2)) ∧ M' = M_1))) ∧ (¬ (0 ≤ x4 ∧ x4 ≤ 999) → r = some (vI (-2)) ∧ M' = M_1)))))) : Cl l G (d + 1) mX11_ends [vR (some (2, 0)), vI x1, vI x2, vI x3, vI x4, vI x5] M r M' := by
  show Ex l G (d + 1) mX11_ends 0 [some (vR (some (2, 0))), some (vI x1), some (vI x2), some (vI x3), some (vI x4), some (vI x5), none] [] M r M'
  refine r_aload_n 1 dX11_ends_0 rfl rfl ?_
  refine r_iload_n 2 dX11_ends_1 rfl rfl ?_
  obtain ⟨o_3, M_1, hc_2, hS, h⟩ := h
  refine v_1 (ci := 11) (C := (RX11, TX11, 16)) [vI x2] [] 5 dX11_ends_2 rfl rfl rfl rfl rfl mo_X11_coverOf ml_11_187 rfl rfl hc_2 ?_
  refine r_astore (ls' := [some (vR (some (2, 0))), some (vI x1), some (vI x2), some (vI x3), some (vI x4), some (vI x5), some (vR o_3)]) 7 dX11_ends_5 rfl rfl rfl rfl ?_
  refine r_aload 9 dX11_ends_7 rfl rfl ?_
  refine r_ifnull 12 35 dX11_ends_9 rfl rfl (fun c => ?_) (fun c => ?_)
  · have h := h.1 (c)
    refine r_bipush 37 dX11_ends_35 rfl rfl ?_
    exact r_iret dX11_ends_37 rfl (.inl rfl) h.1 h.2
  · have h := h.2 (c)
    refine r_aload_n 13 dX11_ends_12 rfl rfl ?_
    refine r_iload_n 14 dX11_ends_13 rfl rfl ?_
    refine v_1 (ci := 11) (C := (RX11, TX11, 16)) [vI x1] [] 17 dX11_ends_14 rfl rfl rfl rfl rfl mo_X11_isPerson ml_11_127 rfl rfl (KX11_isPerson hS) ?_
    refine r_if_eq 20 35 dX11_ends_17 rfl rfl (fun c => ?_) (fun c => ?_)
    · have h := h.1 (b2_0.mp c)
      refine r_bipush 37 dX11_ends_35 rfl rfl ?_
      exact r_iret dX11_ends_37 rfl (.inl rfl) h.1 h.2
    · have h := h.2 (b2_1.mp c)
      refine r_iload_n 21 dX11_ends_20 rfl rfl ?_
      refine c_1 [vI x3] [] 24 dX11_ends_21 rfl rfl mo_X11_isPlace ml_11_96 rfl rfl (KX11_isPlace) ?_
      refine r_if_eq 27 35 dX11_ends_24 rfl rfl (fun c => ?_) (fun c => ?_)
      · have h := h.1 (b2_0.mp c)
        refine r_bipush 37 dX11_ends_35 rfl rfl ?_
        exact r_iret dX11_ends_37 rfl (.inl rfl) h.1 h.2
      · have h := h.2 (b2_1.mp c)
        refine r_iload 29 dX11_ends_27 rfl rfl ?_
        refine c_1 [vI x4] [] 32 dX11_ends_29 rfl rfl mo_X11_isDay ml_11_124 rfl rfl (KX11_isDay) ?_
        refine r_if_ne 35 38 dX11_ends_32 rfl rfl (fun c => ?_) (fun c => ?_)
        · have h := h.1 (b2_1.mp c)
          refine r_iload 40 dX11_ends_38 rfl rfl ?_
          refine r_if_lt 43 49 dX11_ends_40 rfl rfl (fun c => ?_) (fun c => ?_)
          · have h := h.1 (c)
            refine r_bipush 51 dX11_ends_49 rfl rfl ?_
            exact r_iret dX11_ends_51 rfl (.inl rfl) h.1 h.2
          · have h := h.2 (c)
            refine r_iload 45 dX11_ends_43 rfl rfl ?_
            refine r_iconst 46 dX11_ends_45 rfl (InR_of rfl) ?_
            refine r_icmp_le 49 52 dX11_ends_46 rfl rfl (fun c => ?_) (fun c => ?_)
            · have h := h.1 (c)
              refine r_aload_n 53 dX11_ends_52 rfl rfl ?_
              refine g_R 56 dX11_ends_53 rfl rfl rfl fr_11_72 (sh_11_8 hS) ?_
              refine r_aload 58 dX11_ends_56 rfl rfl ?_
              refine r_iload_n 59 dX11_ends_58 rfl rfl ?_
              refine r_iconst 60 dX11_ends_59 rfl (InR_of rfl) ?_
              refine r_iload_n 61 dX11_ends_60 rfl rfl ?_
              refine r_iload 63 dX11_ends_61 rfl rfl ?_
              obtain ⟨k_4, e_5, h⟩ := h
              refine Ex.at (st2 := [vI x4, vI x3, vI (-1), vI x1, vR (some (13, k_4)), vR (some (5, 8))]) ?_ rfl (show [vI x4, vI x3, vI (-1), vI x1, vR o_3, vR (some (5, 8))] = [vI x4, vI x3, vI (-1), vI x1, vR (some (13, k_4)), vR (some (5, 8))] by rw [e_5]) rfl
              obtain ⟨M_6, hc_7, hS, h⟩ := h
              refine v_0 (ci := 5) (C := (RX5, TX5, 12)) [vR (some (13, k_4)), vI x1, vI (-1), vI x3, vI x4] [] 66 dX11_ends_63 rfl rfl rfl rfl rfl mo_X5_begin ml_11_234 rfl rfl hc_7 ?_
              refine r_aload_n 67 dX11_ends_66 rfl rfl ?_
              refine g_R 70 dX11_ends_67 rfl rfl rfl fr_11_44 (sh_11_4 hS) ?_
              refine r_aload_n 71 dX11_ends_70 rfl rfl ?_
              refine g_R 74 dX11_ends_71 rfl rfl rfl fr_11_72 (sh_11_8 hS) ?_
              obtain ⟨M_8, hc_9, hS, h⟩ := h
              refine v_0 (ci := 0) (C := (RX0, TX0, 13)) [vR (some (5, 8))] [] 77 dX11_ends_74 rfl rfl rfl rfl rfl mo_X0_goToEnd ml_11_297 rfl rfl hc_9 ?_
              refine r_iload 79 dX11_ends_77 rfl rfl ?_
              by_cases hsw : x5 < 0 ∨ 3 < x5
              · have h := h.1 hsw
                refine r_tswOut 140 dX11_ends_79 hsw rfl ?_
                refine r_aload_n 141 dX11_ends_140 rfl rfl ?_
                refine g_R 144 dX11_ends_141 rfl rfl rfl fr_11_72 (sh_11_8 hS) ?_
                refine g_I 147 dX11_ends_144 rfl rfl rfl fi_11_301 rfl ?_
                exact r_iret dX11_ends_147 rfl (.inl rfl) h.1 h.2
              · have hsw2 : x5 = 0 ∨ x5 = 1 ∨ x5 = 2 ∨ x5 = 3 := by omega
                rcases hsw2 with c | c | c | c
                · have h := h.2.1 c
                  refine r_tswIn 108 dX11_ends_79 0 c rfl rfl rfl ?_
                  refine r_aload_n 109 dX11_ends_108 rfl rfl ?_
                  refine g_R 112 dX11_ends_109 rfl rfl rfl fr_11_72 (sh_11_8 hS) ?_
                  refine g_I 115 dX11_ends_112 rfl rfl rfl fi_11_243 rfl ?_
                  exact r_iret dX11_ends_115 rfl (.inl rfl) h.1 h.2
                · have h := h.2.2.1 c
                  refine r_tswIn 116 dX11_ends_79 1 c rfl rfl rfl ?_
                  refine r_aload_n 117 dX11_ends_116 rfl rfl ?_
                  refine g_R 120 dX11_ends_117 rfl rfl rfl fr_11_72 (sh_11_8 hS) ?_
                  refine g_I 123 dX11_ends_120 rfl rfl rfl fi_11_252 rfl ?_
                  exact r_iret dX11_ends_123 rfl (.inl rfl) h.1 h.2
                · have h := h.2.2.2.1 c
                  refine r_tswIn 124 dX11_ends_79 2 c rfl rfl rfl ?_
                  refine r_aload_n 125 dX11_ends_124 rfl rfl ?_
                  refine g_R 128 dX11_ends_125 rfl rfl rfl fr_11_72 (sh_11_8 hS) ?_
                  refine g_I 131 dX11_ends_128 rfl rfl rfl fi_11_249 rfl ?_
                  exact r_iret dX11_ends_131 rfl (.inl rfl) h.1 h.2
                · have h := h.2.2.2.2 c
                  refine r_tswIn 132 dX11_ends_79 3 c rfl rfl rfl ?_
                  refine r_aload_n 133 dX11_ends_132 rfl rfl ?_
                  refine g_R 136 dX11_ends_133 rfl rfl rfl fr_11_72 (sh_11_8 hS) ?_
                  refine g_I 139 dX11_ends_136 rfl rfl rfl fi_11_246 rfl ?_
                  exact r_iret dX11_ends_139 rfl (.inl rfl) h.1 h.2
            · have h := h.2 (c)
              refine r_bipush 51 dX11_ends_49 rfl rfl ?_
              exact r_iret dX11_ends_51 rfl (.inl rfl) h.1 h.2
        · have h := h.2 (b2_0.mp (Decidable.not_not.mp c))
          refine r_bipush 37 dX11_ends_35 rfl rfl ?_
          exact r_iret dX11_ends_37 rfl (.inl rfl) h.1 h.2

set_option maxRecDepth 4000 in
theorem xX12_ends_0 {l : Launch} {G : Gt} {d : Nat} {M M' : Mem} {r : Option Vl} {x1 : Int} {x2 : Int} {x3 : Int} {x4 : Int} {x5 : Int} (hS : Sh M.2.1) (h : 
    ((InR ((M.1 3 0 33) - 1) ∧ InR ((M.1 48 0 0) - 1))) ∧ ((¬ ((0 ≤ x1 ∧ x1 < (M.1 48 0 0)) ∧ (0 ≤ x2 ∧ x2 < (M.1 3 0 33)) ∧ (0 ≤ x3 ∧ x3 < 8) ∧ (0 ≤ x4 ∧ x4 ≤ 999)) → r = some (vI (-2)) ∧ M' = M) ∧ ((0 ≤ x1 ∧ x1 < (M.1 48 0 0)) ∧ (0 ≤ x2 ∧ x2 < (M.1 3 0 33)) ∧ (0 ≤ x3 ∧ x3 < 8) ∧ (0 ≤ x4 ∧ x4 ≤ 999) → (0 ≤ x5 ∧ x5 ≤ 4 → ∃ (M_2 : Mem), Cl l G (d + 2) mX12_endsFrom [vR (some (3, 0)), vI x1, vI x2, vI x3, vI x4] M none M_2 ∧ r = some (vI (if x5 = 0 then (M_2.1 3 0 56) else (if x5 = 1 then (M_2.1 3 0 57) else (if x5 = 2 then (M_2.1 3 0 58) else (if x5 = 3 then (M_2.1 3 0 59) else (M_2.1 3 0 60) : Int) : Int) : Int) : Int)) ∧ M' = M_2) ∧ (¬ (0 ≤ x5 ∧ x5 ≤ 4) → r = some (vI (-2)) ∧ M' = M)))) : Cl l G (d + 3) mX12_ends [vR (some (3, 0)), vI x1, vI x2, vI x3, vI x4, vI x5] M r M' := by
  show Ex l G (d + 3) mX12_ends 0 [some (vR (some (3, 0))), some (vI x1), some (vI x2), some (vI x3), some (vI x4), some (vI x5)] [] M r M'
  obtain ⟨o_1, h⟩ := h
  refine r_aload_n 1 dX12_ends_0 rfl rfl ?_
  refine r_iload_n 2 dX12_ends_1 rfl rfl ?_
  refine r_iload_n 3 dX12_ends_2 rfl rfl ?_
  refine r_iload_n 4 dX12_ends_3 rfl rfl ?_
  refine r_iload 6 dX12_ends_4 rfl rfl ?_
  refine v_1 (ci := 12) (C := (RX12, TX12, 68)) [vI x1, vI x2, vI x3, vI x4] [] 9 dX12_ends_6 rfl rfl rfl rfl rfl mo_X12_isLetter ml_12_416 rfl rfl (KX12_isLetter hS o_1) ?_
  refine r_if_eq 12 25 dX12_ends_9 rfl rfl (fun c => ?_) (fun c => ?_)
  · have h := h.1 (b2_0.mp c)
    refine r_bipush 27 dX12_ends_25 rfl rfl ?_
    exact r_iret dX12_ends_27 rfl (.inl rfl) h.1 h.2
  · have h := h.2 (b2_1.mp c)
    refine r_iload 14 dX12_ends_12 rfl rfl ?_
    refine r_i2l 15 dX12_ends_14 rfl ?_
    refine r_lconst (x := 0) 16 dX12_ends_15 rfl (by decide +kernel) (InR_of rfl) ?_
    refine r_ldc2 (n := 4) 19 dX12_ends_16 rfl (inT7 (List.mem_of_getElem? (i := 119) rfl) rfl) (by decide +kernel) (InR_of rfl) ?_
    refine c_1 [vL x5, vL 0, vL 4] [] 22 dX12_ends_19 rfl rfl mo_X12_in ml_12_154 rfl rfl (KX12_in) ?_
    refine r_if_ne 25 28 dX12_ends_22 rfl rfl (fun c => ?_) (fun c => ?_)
    · have h := h.1 (b2_1.mp c)
      refine r_aload_n 29 dX12_ends_28 rfl rfl ?_
      refine r_iload_n 30 dX12_ends_29 rfl rfl ?_
      refine r_iload_n 31 dX12_ends_30 rfl rfl ?_
      refine r_iload_n 32 dX12_ends_31 rfl rfl ?_
      refine r_iload 34 dX12_ends_32 rfl rfl ?_
      obtain ⟨M_2, hc_3, h⟩ := h
      refine v_0 (ci := 12) (C := (RX12, TX12, 68)) [vI x1, vI x2, vI x3, vI x4] [] 37 dX12_ends_34 rfl rfl rfl rfl rfl mo_X12_endsFrom ml_12_420 rfl rfl hc_3 ?_
      refine r_iload 39 dX12_ends_37 rfl rfl ?_
      have hJ_4 : Ex l G (d + 3) mX12_ends 92 [some (vR (some (3, 0))), some (vI x1), some (vI x2), some (vI x3), some (vI x4), some (vI x5)] [vI (if x5 = 0 then (M_2.1 3 0 56) else (if x5 = 1 then (M_2.1 3 0 57) else (if x5 = 2 then (M_2.1 3 0 58) else (if x5 = 3 then (M_2.1 3 0 59) else (M_2.1 3 0 60) : Int) : Int) : Int) : Int)] M_2 r M' := by
        exact r_iret dX12_ends_92 rfl (.inl rfl) h.1 h.2
      refine r_if_ne 42 49 dX12_ends_39 rfl rfl (fun c => ?_) (fun c => ?_)
      · have c_5 := c
        refine r_iload 51 dX12_ends_49 rfl rfl ?_
        refine r_iconst 52 dX12_ends_51 rfl (InR_of rfl) ?_
        refine r_icmp_ne 55 62 dX12_ends_52 rfl rfl (fun c => ?_) (fun c => ?_)
        · have c_6 := c
          refine r_iload 64 dX12_ends_62 rfl rfl ?_
          refine r_iconst 65 dX12_ends_64 rfl (InR_of rfl) ?_
          refine r_icmp_ne 68 75 dX12_ends_65 rfl rfl (fun c => ?_) (fun c => ?_)
          · have c_7 := c
            refine r_iload 77 dX12_ends_75 rfl rfl ?_
            refine r_iconst 78 dX12_ends_77 rfl (InR_of rfl) ?_
            refine r_icmp_ne 81 88 dX12_ends_78 rfl rfl (fun c => ?_) (fun c => ?_)
            · have c_8 := c
              refine r_aload_n 89 dX12_ends_88 rfl rfl ?_
              refine g_I 92 dX12_ends_89 rfl rfl rfl fi_12_413 rfl ?_
              exact (Ex.at hJ_4 rfl (show [vI (M_2.1 3 0 60)] = [vI (if x5 = 0 then (M_2.1 3 0 56) else (if x5 = 1 then (M_2.1 3 0 57) else (if x5 = 2 then (M_2.1 3 0 58) else (if x5 = 3 then (M_2.1 3 0 59) else (M_2.1 3 0 60) : Int) : Int) : Int) : Int)] by simp only [if_neg c_5, if_neg c_6, if_neg c_7, if_neg c_8]) rfl)
            · have c_8 := Decidable.not_not.mp c
              refine r_aload_n 82 dX12_ends_81 rfl rfl ?_
              refine g_I 85 dX12_ends_82 rfl rfl rfl fi_12_410 rfl ?_
              refine r_goto 92 dX12_ends_85 rfl ?_
              exact (Ex.at hJ_4 rfl (show [vI (M_2.1 3 0 59)] = [vI (if x5 = 0 then (M_2.1 3 0 56) else (if x5 = 1 then (M_2.1 3 0 57) else (if x5 = 2 then (M_2.1 3 0 58) else (if x5 = 3 then (M_2.1 3 0 59) else (M_2.1 3 0 60) : Int) : Int) : Int) : Int)] by simp only [if_neg c_5, if_neg c_6, if_neg c_7, if_pos c_8]) rfl)
          · have c_7 := Decidable.not_not.mp c
            refine r_aload_n 69 dX12_ends_68 rfl rfl ?_
            refine g_I 72 dX12_ends_69 rfl rfl rfl fi_12_407 rfl ?_
            refine r_goto 92 dX12_ends_72 rfl ?_
            exact (Ex.at hJ_4 rfl (show [vI (M_2.1 3 0 58)] = [vI (if x5 = 0 then (M_2.1 3 0 56) else (if x5 = 1 then (M_2.1 3 0 57) else (if x5 = 2 then (M_2.1 3 0 58) else (if x5 = 3 then (M_2.1 3 0 59) else (M_2.1 3 0 60) : Int) : Int) : Int) : Int)] by simp only [if_neg c_5, if_neg c_6, if_pos c_7]) rfl)
        · have c_6 := Decidable.not_not.mp c
          refine r_aload_n 56 dX12_ends_55 rfl rfl ?_
          refine g_I 59 dX12_ends_56 rfl rfl rfl fi_12_404 rfl ?_
          refine r_goto 92 dX12_ends_59 rfl ?_
          exact (Ex.at hJ_4 rfl (show [vI (M_2.1 3 0 57)] = [vI (if x5 = 0 then (M_2.1 3 0 56) else (if x5 = 1 then (M_2.1 3 0 57) else (if x5 = 2 then (M_2.1 3 0 58) else (if x5 = 3 then (M_2.1 3 0 59) else (M_2.1 3 0 60) : Int) : Int) : Int) : Int)] by simp only [if_neg c_5, if_pos c_6]) rfl)
      · have c_5 := Decidable.not_not.mp c
        refine r_aload_n 43 dX12_ends_42 rfl rfl ?_
        refine g_I 46 dX12_ends_43 rfl rfl rfl fi_12_401 rfl ?_
        refine r_goto 92 dX12_ends_46 rfl ?_
        exact (Ex.at hJ_4 rfl (show [vI (M_2.1 3 0 56)] = [vI (if x5 = 0 then (M_2.1 3 0 56) else (if x5 = 1 then (M_2.1 3 0 57) else (if x5 = 2 then (M_2.1 3 0 58) else (if x5 = 3 then (M_2.1 3 0 59) else (M_2.1 3 0 60) : Int) : Int) : Int) : Int)] by simp only [if_pos c_5]) rfl)
    · have h := h.2 (b2_0.mp (Decidable.not_not.mp c))
      refine r_bipush 27 dX12_ends_25 rfl rfl ?_
      exact r_iret dX12_ends_27 rfl (.inl rfl) h.1 h.2

set_option maxRecDepth 4000 in
theorem xX11_dayRight_0 {l : Launch} {G : Gt} {d : Nat} {M M' : Mem} {r : Option Vl} {k1 : Nat} {x2 : Int} {x3 : Int} {x4 : Int} {x5 : Int} (hS : Sh M.2.1) (h : 
    ∃ (M_1 : Mem), Cl l G d mX5_begin [vR (some (5, 8)), vR (some (13, k1)), vI x2, vI x3, vI x4, vI x5] M none M_1 ∧ Sh M_1.2.1 ∧ (∃ (M_3 : Mem), Cl l G d mX0_goToEnd [vR (some (9, 0)), vR (some (5, 8))] M_1 none M_3 ∧ Sh M_3.2.1 ∧ r = some (vI (if (M_3.1 5 8 5) = 1 ∧ (M_3.1 5 8 8) = (M_3.1 5 8 2) then (M_3.1 5 8 7) else (-2) : Int)) ∧ M' = M_3)) : Cl l G (d + 1) mX11_dayRight [vR (some (2, 0)), vR (some (13, k1)), vI x2, vI x3, vI x4, vI x5] M r M' := by
  show Ex l G (d + 1) mX11_dayRight 0 [some (vR (some (2, 0))), some (vR (some (13, k1))), some (vI x2), some (vI x3), some (vI x4), some (vI x5)] [] M r M'
  refine r_aload_n 1 dX11_dayRight_0 rfl rfl ?_
  refine g_R 4 dX11_dayRight_1 rfl rfl rfl fr_11_72 (sh_11_8 hS) ?_
  refine r_aload_n 5 dX11_dayRight_4 rfl rfl ?_
  refine r_iload_n 6 dX11_dayRight_5 rfl rfl ?_
  refine r_iload_n 7 dX11_dayRight_6 rfl rfl ?_
  refine r_iload 9 dX11_dayRight_7 rfl rfl ?_
  refine r_iload 11 dX11_dayRight_9 rfl rfl ?_
  obtain ⟨M_1, hc_2, hS, h⟩ := h
  refine v_0 (ci := 5) (C := (RX5, TX5, 12)) [vR (some (13, k1)), vI x2, vI x3, vI x4, vI x5] [] 14 dX11_dayRight_11 rfl rfl rfl rfl rfl mo_X5_begin ml_11_234 rfl rfl hc_2 ?_
  refine r_aload_n 15 dX11_dayRight_14 rfl rfl ?_
  refine g_R 18 dX11_dayRight_15 rfl rfl rfl fr_11_44 (sh_11_4 hS) ?_
  refine r_aload_n 19 dX11_dayRight_18 rfl rfl ?_
  refine g_R 22 dX11_dayRight_19 rfl rfl rfl fr_11_72 (sh_11_8 hS) ?_
  obtain ⟨M_3, hc_4, hS, h⟩ := h
  refine v_0 (ci := 0) (C := (RX0, TX0, 13)) [vR (some (5, 8))] [] 25 dX11_dayRight_22 rfl rfl rfl rfl rfl mo_X0_goToEnd ml_11_297 rfl rfl hc_4 ?_
  refine r_aload_n 26 dX11_dayRight_25 rfl rfl ?_
  refine g_R 29 dX11_dayRight_26 rfl rfl rfl fr_11_72 (sh_11_8 hS) ?_
  refine v_1 (ci := 5) (C := (RX5, TX5, 12)) [] [] 32 dX11_dayRight_29 rfl rfl rfl rfl rfl mo_X5_isRight ml_11_255 rfl rfl (KX5_isRight) ?_
  have hJ_5 : Ex l G (d + 1) mX11_dayRight 47 [some (vR (some (2, 0))), some (vR (some (13, k1))), some (vI x2), some (vI x3), some (vI x4), some (vI x5)] [vI (if (M_3.1 5 8 5) = 1 ∧ (M_3.1 5 8 8) = (M_3.1 5 8 2) then (M_3.1 5 8 7) else (-2) : Int)] M_3 r M' := by
    exact r_iret dX11_dayRight_47 rfl (.inl rfl) h.1 h.2
  refine r_if_eq 35 45 dX11_dayRight_32 rfl rfl (fun c => ?_) (fun c => ?_)
  · have c_6 := b2_0.mp c
    refine r_bipush 47 dX11_dayRight_45 rfl rfl ?_
    exact (Ex.at hJ_5 rfl (show [vI (-2)] = [vI (if (M_3.1 5 8 5) = 1 ∧ (M_3.1 5 8 8) = (M_3.1 5 8 2) then (M_3.1 5 8 7) else (-2) : Int)] by simp only [if_neg c_6]) rfl)
  · have c_6 := b2_1.mp c
    refine r_aload_n 36 dX11_dayRight_35 rfl rfl ?_
    refine g_R 39 dX11_dayRight_36 rfl rfl rfl fr_11_72 (sh_11_8 hS) ?_
    refine g_I 42 dX11_dayRight_39 rfl rfl rfl fi_11_249 rfl ?_
    refine r_goto 47 dX11_dayRight_42 rfl ?_
    exact (Ex.at hJ_5 rfl (show [vI (M_3.1 5 8 7)] = [vI (if (M_3.1 5 8 5) = 1 ∧ (M_3.1 5 8 8) = (M_3.1 5 8 2) then (M_3.1 5 8 7) else (-2) : Int)] by simp only [if_pos c_6]) rfl)

set_option maxRecDepth 4000 in
theorem xX11_copies_0 {l : Launch} {G : Gt} {d : Nat} {M M' : Mem} {r : Option Vl} {x1 : Int} {x2 : Int} {x3 : Int} {x4 : Int} {x5 : Int} {x6 : Int} {x7 : Int} (h : 
    ∃ (o_3 : Option Nm) (M_1 : Mem), Cl l G (d + 1) mX11_coverOf [vR (some (2, 0)), vI x2] M (some (vR o_3)) M_1 ∧ Sh M_1.2.1 ∧ ((o_3 = none → r = some (vI (-1)) ∧ M' = M_1) ∧ (¬ (o_3 = none) → (¬ ((0 ≤ x1 ∧ x1 < (M_1.1 4 0 0)) ∧ (0 ≤ x3 ∧ x3 < (M_1.1 4 0 0)) ∧ ¬ x1 = x3) → r = some (vI (-1)) ∧ M' = M_1) ∧ ((0 ≤ x1 ∧ x1 < (M_1.1 4 0 0)) ∧ (0 ≤ x3 ∧ x3 < (M_1.1 4 0 0)) ∧ ¬ x1 = x3 → (¬ (0 ≤ x4 ∧ x4 < 8) → r = some (vI (-1)) ∧ M' = M_1) ∧ (0 ≤ x4 ∧ x4 < 8 → (0 ≤ x5 ∧ x5 < 8 → (¬ (0 ≤ x6 ∧ x6 ≤ 999) → r = some (vI (-1)) ∧ M' = M_1) ∧ (0 ≤ x6 ∧ x6 ≤ 999 → (x7 < 0 → r = some (vI (-1)) ∧ M' = M_1) ∧ (¬ (x7 < 0) → (x7 ≤ 1 → ∃ k_4 : Nat, o_3 = some (13, k_4) ∧ (∃ (r_8 : Int) (M_6 : Mem), Cl l G (d + 1) mX11_dayRight [vR (some (2, 0)), vR (some (13, k_4)), vI x1, vI x3, vI x4, vI x6] M_1 (some (vI r_8)) M_6 ∧ (∃ (r_11 : Int) (M_9 : Mem), Cl l G (d + 1) mX11_dayRight [vR (some (2, 0)), vR (some (13, k_4)), vI x1, vI x3, vI x5, vI x6] M_6 (some (vI r_11)) M_9 ∧ ((¬ (r_8 = (-2)) → (¬ (x7 = 0) → r = some (vI (if (if r_8 = r_11 then 2 else (if r_11 = (-2) then 0 else (if r_8 = (-2) then 1 else (if r_11 ≤ r_8 then 1 else 0 : Int) : Int) : Int) : Int) = 1 then r_11 else r_8 : Int)) ∧ M' = M_9) ∧ (x7 = 0 → r = some (vI (if r_8 = r_11 then 2 else (if r_11 = (-2) then 0 else (if r_8 = (-2) then 1 else (if r_11 ≤ r_8 then 1 else 0 : Int) : Int) : Int) : Int)) ∧ M' = M_9)) ∧ (r_8 = (-2) → (¬ (r_11 = (-2)) → (¬ (x7 = 0) → r = some (vI (if (if r_8 = r_11 then 2 else (if r_11 = (-2) then 0 else (if r_8 = (-2) then 1 else (if r_11 ≤ r_8 then 1 else 0 : Int) : Int) : Int) : Int) = 1 then r_11 else r_8 : Int)) ∧ M' = M_9) ∧ (x7 = 0 → r = some (vI (if r_8 = r_11 then 2 else (if r_11 = (-2) then 0 else (if r_8 = (-2) then 1 else (if r_11 ≤ r_8 then 1 else 0 : Int) : Int) : Int) : Int)) ∧ M' = M_9)) ∧ (r_11 = (-2) → r = some (vI (-2)) ∧ M' = M_9)))))) ∧ (¬ (x7 ≤ 1) → r = some (vI (-1)) ∧ M' = M_1)))) ∧ (¬ (0 ≤ x5 ∧ x5 < 8) → r = some (vI (-1)) ∧ M' = M_1)))))) : Cl l G (d + 2) mX11_copies [vR (some (2, 0)), vI x1, vI x2, vI x3, vI x4, vI x5, vI x6, vI x7] M r M' := by
  show Ex l G (d + 2) mX11_copies 0 [some (vR (some (2, 0))), some (vI x1), some (vI x2), some (vI x3), some (vI x4), some (vI x5), some (vI x6), some (vI x7), none, none, none, none] [] M r M'
  refine r_aload_n 1 dX11_copies_0 rfl rfl ?_
  refine r_iload_n 2 dX11_copies_1 rfl rfl ?_
  obtain ⟨o_3, M_1, hc_2, hS, h⟩ := h
  refine v_1 (ci := 11) (C := (RX11, TX11, 16)) [vI x2] [] 5 dX11_copies_2 rfl rfl rfl rfl rfl mo_X11_coverOf ml_11_187 rfl rfl hc_2 ?_
  refine r_astore (ls' := [some (vR (some (2, 0))), some (vI x1), some (vI x2), some (vI x3), some (vI x4), some (vI x5), some (vI x6), some (vI x7), some (vR o_3), none, none, none]) 7 dX11_copies_5 rfl rfl rfl rfl ?_
  refine r_aload 9 dX11_copies_7 rfl rfl ?_
  refine r_ifnull 12 37 dX11_copies_9 rfl rfl (fun c => ?_) (fun c => ?_)
  · have h := h.1 (c)
    refine r_iconst 38 dX11_copies_37 rfl (InR_of rfl) ?_
    exact r_iret dX11_copies_38 rfl (.inl rfl) h.1 h.2
  · have h := h.2 (c)
    refine r_aload_n 13 dX11_copies_12 rfl rfl ?_
    refine r_iload_n 14 dX11_copies_13 rfl rfl ?_
    refine r_iload_n 15 dX11_copies_14 rfl rfl ?_
    refine v_1 (ci := 11) (C := (RX11, TX11, 16)) [vI x1, vI x3] [] 18 dX11_copies_15 rfl rfl rfl rfl rfl mo_X11_areTwo ml_11_130 rfl rfl (KX11_areTwo hS) ?_
    refine r_if_eq 21 37 dX11_copies_18 rfl rfl (fun c => ?_) (fun c => ?_)
    · have h := h.1 (b2_0.mp c)
      refine r_iconst 38 dX11_copies_37 rfl (InR_of rfl) ?_
      exact r_iret dX11_copies_38 rfl (.inl rfl) h.1 h.2
    · have h := h.2 (b2_1.mp c)
      refine r_iload 23 dX11_copies_21 rfl rfl ?_
      refine c_1 [vI x4] [] 26 dX11_copies_23 rfl rfl mo_X11_isPlace ml_11_96 rfl rfl (KX11_isPlace) ?_
      refine r_if_eq 29 37 dX11_copies_26 rfl rfl (fun c => ?_) (fun c => ?_)
      · have h := h.1 (b2_0.mp c)
        refine r_iconst 38 dX11_copies_37 rfl (InR_of rfl) ?_
        exact r_iret dX11_copies_38 rfl (.inl rfl) h.1 h.2
      · have h := h.2 (b2_1.mp c)
        refine r_iload 31 dX11_copies_29 rfl rfl ?_
        refine c_1 [vI x5] [] 34 dX11_copies_31 rfl rfl mo_X11_isPlace ml_11_96 rfl rfl (KX11_isPlace) ?_
        refine r_if_ne 37 39 dX11_copies_34 rfl rfl (fun c => ?_) (fun c => ?_)
        · have h := h.1 (b2_1.mp c)
          refine r_iload 41 dX11_copies_39 rfl rfl ?_
          refine c_1 [vI x6] [] 44 dX11_copies_41 rfl rfl mo_X11_isDay ml_11_124 rfl rfl (KX11_isDay) ?_
          refine r_if_eq 47 58 dX11_copies_44 rfl rfl (fun c => ?_) (fun c => ?_)
          · have h := h.1 (b2_0.mp c)
            refine r_iconst 59 dX11_copies_58 rfl (InR_of rfl) ?_
            exact r_iret dX11_copies_59 rfl (.inl rfl) h.1 h.2
          · have h := h.2 (b2_1.mp c)
            refine r_iload 49 dX11_copies_47 rfl rfl ?_
            refine r_if_lt 52 58 dX11_copies_49 rfl rfl (fun c => ?_) (fun c => ?_)
            · have h := h.1 (c)
              refine r_iconst 59 dX11_copies_58 rfl (InR_of rfl) ?_
              exact r_iret dX11_copies_59 rfl (.inl rfl) h.1 h.2
            · have h := h.2 (c)
              refine r_iload 54 dX11_copies_52 rfl rfl ?_
              refine r_iconst 55 dX11_copies_54 rfl (InR_of rfl) ?_
              refine r_icmp_le 58 60 dX11_copies_55 rfl rfl (fun c => ?_) (fun c => ?_)
              · have h := h.1 (c)
                refine r_aload_n 61 dX11_copies_60 rfl rfl ?_
                refine r_aload 63 dX11_copies_61 rfl rfl ?_
                refine r_iload_n 64 dX11_copies_63 rfl rfl ?_
                refine r_iload_n 65 dX11_copies_64 rfl rfl ?_
                refine r_iload 67 dX11_copies_65 rfl rfl ?_
                refine r_iload 69 dX11_copies_67 rfl rfl ?_
                obtain ⟨k_4, e_5, h⟩ := h
                refine Ex.at (st2 := [vI x6, vI x4, vI x3, vI x1, vR (some (13, k_4)), vR (some (2, 0))]) ?_ rfl (show [vI x6, vI x4, vI x3, vI x1, vR o_3, vR (some (2, 0))] = [vI x6, vI x4, vI x3, vI x1, vR (some (13, k_4)), vR (some (2, 0))] by rw [e_5]) rfl
                obtain ⟨r_8, M_6, hc_7, h⟩ := h
                refine v_1 (ci := 11) (C := (RX11, TX11, 16)) [vR (some (13, k_4)), vI x1, vI x3, vI x4, vI x6] [] 72 dX11_copies_69 rfl rfl rfl rfl rfl mo_X11_dayRight ml_11_313 rfl rfl hc_7 ?_
                refine r_istore (ls' := [some (vR (some (2, 0))), some (vI x1), some (vI x2), some (vI x3), some (vI x4), some (vI x5), some (vI x6), some (vI x7), some (vR o_3), some (vI r_8), none, none]) 74 dX11_copies_72 rfl rfl rfl rfl ?_
                refine r_aload_n 75 dX11_copies_74 rfl rfl ?_
                refine r_aload 77 dX11_copies_75 rfl rfl ?_
                refine r_iload_n 78 dX11_copies_77 rfl rfl ?_
                refine r_iload_n 79 dX11_copies_78 rfl rfl ?_
                refine r_iload 81 dX11_copies_79 rfl rfl ?_
                refine r_iload 83 dX11_copies_81 rfl rfl ?_
                refine Ex.at (st2 := [vI x6, vI x5, vI x3, vI x1, vR (some (13, k_4)), vR (some (2, 0))]) ?_ rfl (show [vI x6, vI x5, vI x3, vI x1, vR o_3, vR (some (2, 0))] = [vI x6, vI x5, vI x3, vI x1, vR (some (13, k_4)), vR (some (2, 0))] by rw [e_5]) rfl
                obtain ⟨r_11, M_9, hc_10, h⟩ := h
                refine v_1 (ci := 11) (C := (RX11, TX11, 16)) [vR (some (13, k_4)), vI x1, vI x3, vI x5, vI x6] [] 86 dX11_copies_83 rfl rfl rfl rfl rfl mo_X11_dayRight ml_11_313 rfl rfl hc_10 ?_
                refine r_istore (ls' := [some (vR (some (2, 0))), some (vI x1), some (vI x2), some (vI x3), some (vI x4), some (vI x5), some (vI x6), some (vI x7), some (vR o_3), some (vI r_8), some (vI r_11), none]) 88 dX11_copies_86 rfl rfl rfl rfl ?_
                refine r_iload 90 dX11_copies_88 rfl rfl ?_
                refine r_bipush 92 dX11_copies_90 rfl rfl ?_
                refine r_icmp_ne 95 105 dX11_copies_92 rfl rfl (fun c => ?_) (fun c => ?_)
                · have h := h.1 (c)
                  refine r_iload 107 dX11_copies_105 rfl rfl ?_
                  refine r_iload 109 dX11_copies_107 rfl rfl ?_
                  have hJ_12 : Ex l G (d + 2) mX11_copies 146 [some (vR (some (2, 0))), some (vI x1), some (vI x2), some (vI x3), some (vI x4), some (vI x5), some (vI x6), some (vI x7), some (vR o_3), some (vI r_8), some (vI r_11), some (vI (if r_8 = r_11 then 2 else (if r_11 = (-2) then 0 else (if r_8 = (-2) then 1 else (if r_11 ≤ r_8 then 1 else 0 : Int) : Int) : Int) : Int))] [] M_9 r M' := by
                    refine r_iload 148 dX11_copies_146 rfl rfl ?_
                    refine r_if_ne 151 154 dX11_copies_148 rfl rfl (fun c => ?_) (fun c => ?_)
                    · have h := h.1 (c)
                      refine r_iload 156 dX11_copies_154 rfl rfl ?_
                      refine r_iconst 157 dX11_copies_156 rfl (InR_of rfl) ?_
                      have hJ_17 : Ex l G (d + 2) mX11_copies 167 [some (vR (some (2, 0))), some (vI x1), some (vI x2), some (vI x3), some (vI x4), some (vI x5), some (vI x6), some (vI x7), some (vR o_3), some (vI r_8), some (vI r_11), some (vI (if r_8 = r_11 then 2 else (if r_11 = (-2) then 0 else (if r_8 = (-2) then 1 else (if r_11 ≤ r_8 then 1 else 0 : Int) : Int) : Int) : Int))] [vI (if (if r_8 = r_11 then 2 else (if r_11 = (-2) then 0 else (if r_8 = (-2) then 1 else (if r_11 ≤ r_8 then 1 else 0 : Int) : Int) : Int) : Int) = 1 then r_11 else r_8 : Int)] M_9 r M' := by
                        exact r_iret dX11_copies_167 rfl (.inl rfl) h.1 h.2
                      refine r_icmp_ne 160 165 dX11_copies_157 rfl rfl (fun c => ?_) (fun c => ?_)
                      · have c_18 := c
                        refine r_iload 167 dX11_copies_165 rfl rfl ?_
                        exact (Ex.at hJ_17 rfl (show [vI r_8] = [vI (if (if r_8 = r_11 then 2 else (if r_11 = (-2) then 0 else (if r_8 = (-2) then 1 else (if r_11 ≤ r_8 then 1 else 0 : Int) : Int) : Int) : Int) = 1 then r_11 else r_8 : Int)] by simp only [if_neg c_18]) rfl)
                      · have c_18 := Decidable.not_not.mp c
                        refine r_iload 162 dX11_copies_160 rfl rfl ?_
                        refine r_goto 167 dX11_copies_162 rfl ?_
                        exact (Ex.at hJ_17 rfl (show [vI r_11] = [vI (if (if r_8 = r_11 then 2 else (if r_11 = (-2) then 0 else (if r_8 = (-2) then 1 else (if r_11 ≤ r_8 then 1 else 0 : Int) : Int) : Int) : Int) = 1 then r_11 else r_8 : Int)] by simp only [if_pos c_18]) rfl)
                    · have h := h.2 (Decidable.not_not.mp c)
                      refine r_iload 153 dX11_copies_151 rfl rfl ?_
                      exact r_iret dX11_copies_153 rfl (.inl rfl) h.1 h.2
                  refine r_icmp_ne 112 118 dX11_copies_109 rfl rfl (fun c => ?_) (fun c => ?_)
                  · have c_13 := c
                    refine r_iload 120 dX11_copies_118 rfl rfl ?_
                    refine r_bipush 122 dX11_copies_120 rfl rfl ?_
                    refine r_icmp_eq 125 139 dX11_copies_122 rfl rfl (fun c => ?_) (fun c => ?_)
                    · have c_14 := c
                      refine r_iconst 140 dX11_copies_139 rfl (InR_of rfl) ?_
                      refine r_goto 144 dX11_copies_140 rfl ?_
                      refine r_istore (ls' := [some (vR (some (2, 0))), some (vI x1), some (vI x2), some (vI x3), some (vI x4), some (vI x5), some (vI x6), some (vI x7), some (vR o_3), some (vI r_8), some (vI r_11), some (vI 0)]) 146 dX11_copies_144 rfl rfl rfl rfl ?_
                      exact (Ex.at hJ_12 (show [some (vR (some (2, 0))), some (vI x1), some (vI x2), some (vI x3), some (vI x4), some (vI x5), some (vI x6), some (vI x7), some (vR o_3), some (vI r_8), some (vI r_11), some (vI 0)] = [some (vR (some (2, 0))), some (vI x1), some (vI x2), some (vI x3), some (vI x4), some (vI x5), some (vI x6), some (vI x7), some (vR o_3), some (vI r_8), some (vI r_11), some (vI (if r_8 = r_11 then 2 else (if r_11 = (-2) then 0 else (if r_8 = (-2) then 1 else (if r_11 ≤ r_8 then 1 else 0 : Int) : Int) : Int) : Int))] by simp only [if_neg c_13, if_pos c_14]) rfl rfl)
                    · have c_14 := c
                      refine r_iload 127 dX11_copies_125 rfl rfl ?_
                      refine r_bipush 129 dX11_copies_127 rfl rfl ?_
                      refine r_icmp_eq 132 143 dX11_copies_129 rfl rfl (fun c => ?_) (fun c => ?_)
                      · have c_15 := c
                        refine r_iconst 144 dX11_copies_143 rfl (InR_of rfl) ?_
                        refine r_istore (ls' := [some (vR (some (2, 0))), some (vI x1), some (vI x2), some (vI x3), some (vI x4), some (vI x5), some (vI x6), some (vI x7), some (vR o_3), some (vI r_8), some (vI r_11), some (vI 1)]) 146 dX11_copies_144 rfl rfl rfl rfl ?_
                        exact (Ex.at hJ_12 (show [some (vR (some (2, 0))), some (vI x1), some (vI x2), some (vI x3), some (vI x4), some (vI x5), some (vI x6), some (vI x7), some (vR o_3), some (vI r_8), some (vI r_11), some (vI 1)] = [some (vR (some (2, 0))), some (vI x1), some (vI x2), some (vI x3), some (vI x4), some (vI x5), some (vI x6), some (vI x7), some (vR o_3), some (vI r_8), some (vI r_11), some (vI (if r_8 = r_11 then 2 else (if r_11 = (-2) then 0 else (if r_8 = (-2) then 1 else (if r_11 ≤ r_8 then 1 else 0 : Int) : Int) : Int) : Int))] by simp only [if_neg c_13, if_neg c_14, if_pos c_15]) rfl rfl)
                      · have c_15 := c
                        refine r_iload 134 dX11_copies_132 rfl rfl ?_
                        refine r_iload 136 dX11_copies_134 rfl rfl ?_
                        refine r_icmp_ge 139 143 dX11_copies_136 rfl rfl (fun c => ?_) (fun c => ?_)
                        · have c_16 := c
                          refine r_iconst 144 dX11_copies_143 rfl (InR_of rfl) ?_
                          refine r_istore (ls' := [some (vR (some (2, 0))), some (vI x1), some (vI x2), some (vI x3), some (vI x4), some (vI x5), some (vI x6), some (vI x7), some (vR o_3), some (vI r_8), some (vI r_11), some (vI 1)]) 146 dX11_copies_144 rfl rfl rfl rfl ?_
                          exact (Ex.at hJ_12 (show [some (vR (some (2, 0))), some (vI x1), some (vI x2), some (vI x3), some (vI x4), some (vI x5), some (vI x6), some (vI x7), some (vR o_3), some (vI r_8), some (vI r_11), some (vI 1)] = [some (vR (some (2, 0))), some (vI x1), some (vI x2), some (vI x3), some (vI x4), some (vI x5), some (vI x6), some (vI x7), some (vR o_3), some (vI r_8), some (vI r_11), some (vI (if r_8 = r_11 then 2 else (if r_11 = (-2) then 0 else (if r_8 = (-2) then 1 else (if r_11 ≤ r_8 then 1 else 0 : Int) : Int) : Int) : Int))] by simp only [if_neg c_13, if_neg c_14, if_neg c_15, if_pos c_16]) rfl rfl)
                        · have c_16 := c
                          refine r_iconst 140 dX11_copies_139 rfl (InR_of rfl) ?_
                          refine r_goto 144 dX11_copies_140 rfl ?_
                          refine r_istore (ls' := [some (vR (some (2, 0))), some (vI x1), some (vI x2), some (vI x3), some (vI x4), some (vI x5), some (vI x6), some (vI x7), some (vR o_3), some (vI r_8), some (vI r_11), some (vI 0)]) 146 dX11_copies_144 rfl rfl rfl rfl ?_
                          exact (Ex.at hJ_12 (show [some (vR (some (2, 0))), some (vI x1), some (vI x2), some (vI x3), some (vI x4), some (vI x5), some (vI x6), some (vI x7), some (vR o_3), some (vI r_8), some (vI r_11), some (vI 0)] = [some (vR (some (2, 0))), some (vI x1), some (vI x2), some (vI x3), some (vI x4), some (vI x5), some (vI x6), some (vI x7), some (vR o_3), some (vI r_8), some (vI r_11), some (vI (if r_8 = r_11 then 2 else (if r_11 = (-2) then 0 else (if r_8 = (-2) then 1 else (if r_11 ≤ r_8 then 1 else 0 : Int) : Int) : Int) : Int))] by simp only [if_neg c_13, if_neg c_14, if_neg c_15, if_neg c_16]) rfl rfl)
                  · have c_13 := Decidable.not_not.mp c
                    refine r_iconst 113 dX11_copies_112 rfl (InR_of rfl) ?_
                    refine r_istore (ls' := [some (vR (some (2, 0))), some (vI x1), some (vI x2), some (vI x3), some (vI x4), some (vI x5), some (vI x6), some (vI x7), some (vR o_3), some (vI r_8), some (vI r_11), some (vI 2)]) 115 dX11_copies_113 rfl rfl rfl rfl ?_
                    refine r_goto 146 dX11_copies_115 rfl ?_
                    exact (Ex.at hJ_12 (show [some (vR (some (2, 0))), some (vI x1), some (vI x2), some (vI x3), some (vI x4), some (vI x5), some (vI x6), some (vI x7), some (vR o_3), some (vI r_8), some (vI r_11), some (vI 2)] = [some (vR (some (2, 0))), some (vI x1), some (vI x2), some (vI x3), some (vI x4), some (vI x5), some (vI x6), some (vI x7), some (vR o_3), some (vI r_8), some (vI r_11), some (vI (if r_8 = r_11 then 2 else (if r_11 = (-2) then 0 else (if r_8 = (-2) then 1 else (if r_11 ≤ r_8 then 1 else 0 : Int) : Int) : Int) : Int))] by simp only [if_pos c_13]) rfl rfl)
                · have h := h.2 (Decidable.not_not.mp c)
                  refine r_iload 97 dX11_copies_95 rfl rfl ?_
                  refine r_bipush 99 dX11_copies_97 rfl rfl ?_
                  refine r_icmp_ne 102 105 dX11_copies_99 rfl rfl (fun c => ?_) (fun c => ?_)
                  · have h := h.1 (c)
                    refine r_iload 107 dX11_copies_105 rfl rfl ?_
                    refine r_iload 109 dX11_copies_107 rfl rfl ?_
                    have hJ_19 : Ex l G (d + 2) mX11_copies 146 [some (vR (some (2, 0))), some (vI x1), some (vI x2), some (vI x3), some (vI x4), some (vI x5), some (vI x6), some (vI x7), some (vR o_3), some (vI r_8), some (vI r_11), some (vI (if r_8 = r_11 then 2 else (if r_11 = (-2) then 0 else (if r_8 = (-2) then 1 else (if r_11 ≤ r_8 then 1 else 0 : Int) : Int) : Int) : Int))] [] M_9 r M' := by
                      refine r_iload 148 dX11_copies_146 rfl rfl ?_
                      refine r_if_ne 151 154 dX11_copies_148 rfl rfl (fun c => ?_) (fun c => ?_)
                      · have h := h.1 (c)
                        refine r_iload 156 dX11_copies_154 rfl rfl ?_
                        refine r_iconst 157 dX11_copies_156 rfl (InR_of rfl) ?_
                        have hJ_24 : Ex l G (d + 2) mX11_copies 167 [some (vR (some (2, 0))), some (vI x1), some (vI x2), some (vI x3), some (vI x4), some (vI x5), some (vI x6), some (vI x7), some (vR o_3), some (vI r_8), some (vI r_11), some (vI (if r_8 = r_11 then 2 else (if r_11 = (-2) then 0 else (if r_8 = (-2) then 1 else (if r_11 ≤ r_8 then 1 else 0 : Int) : Int) : Int) : Int))] [vI (if (if r_8 = r_11 then 2 else (if r_11 = (-2) then 0 else (if r_8 = (-2) then 1 else (if r_11 ≤ r_8 then 1 else 0 : Int) : Int) : Int) : Int) = 1 then r_11 else r_8 : Int)] M_9 r M' := by
                          exact r_iret dX11_copies_167 rfl (.inl rfl) h.1 h.2
                        refine r_icmp_ne 160 165 dX11_copies_157 rfl rfl (fun c => ?_) (fun c => ?_)
                        · have c_25 := c
                          refine r_iload 167 dX11_copies_165 rfl rfl ?_
                          exact (Ex.at hJ_24 rfl (show [vI r_8] = [vI (if (if r_8 = r_11 then 2 else (if r_11 = (-2) then 0 else (if r_8 = (-2) then 1 else (if r_11 ≤ r_8 then 1 else 0 : Int) : Int) : Int) : Int) = 1 then r_11 else r_8 : Int)] by simp only [if_neg c_25]) rfl)
                        · have c_25 := Decidable.not_not.mp c
                          refine r_iload 162 dX11_copies_160 rfl rfl ?_
                          refine r_goto 167 dX11_copies_162 rfl ?_
                          exact (Ex.at hJ_24 rfl (show [vI r_11] = [vI (if (if r_8 = r_11 then 2 else (if r_11 = (-2) then 0 else (if r_8 = (-2) then 1 else (if r_11 ≤ r_8 then 1 else 0 : Int) : Int) : Int) : Int) = 1 then r_11 else r_8 : Int)] by simp only [if_pos c_25]) rfl)
                      · have h := h.2 (Decidable.not_not.mp c)
                        refine r_iload 153 dX11_copies_151 rfl rfl ?_
                        exact r_iret dX11_copies_153 rfl (.inl rfl) h.1 h.2
                    refine r_icmp_ne 112 118 dX11_copies_109 rfl rfl (fun c => ?_) (fun c => ?_)
                    · have c_20 := c
                      refine r_iload 120 dX11_copies_118 rfl rfl ?_
                      refine r_bipush 122 dX11_copies_120 rfl rfl ?_
                      refine r_icmp_eq 125 139 dX11_copies_122 rfl rfl (fun c => ?_) (fun c => ?_)
                      · have c_21 := c
                        refine r_iconst 140 dX11_copies_139 rfl (InR_of rfl) ?_
                        refine r_goto 144 dX11_copies_140 rfl ?_
                        refine r_istore (ls' := [some (vR (some (2, 0))), some (vI x1), some (vI x2), some (vI x3), some (vI x4), some (vI x5), some (vI x6), some (vI x7), some (vR o_3), some (vI r_8), some (vI r_11), some (vI 0)]) 146 dX11_copies_144 rfl rfl rfl rfl ?_
                        exact (Ex.at hJ_19 (show [some (vR (some (2, 0))), some (vI x1), some (vI x2), some (vI x3), some (vI x4), some (vI x5), some (vI x6), some (vI x7), some (vR o_3), some (vI r_8), some (vI r_11), some (vI 0)] = [some (vR (some (2, 0))), some (vI x1), some (vI x2), some (vI x3), some (vI x4), some (vI x5), some (vI x6), some (vI x7), some (vR o_3), some (vI r_8), some (vI r_11), some (vI (if r_8 = r_11 then 2 else (if r_11 = (-2) then 0 else (if r_8 = (-2) then 1 else (if r_11 ≤ r_8 then 1 else 0 : Int) : Int) : Int) : Int))] by simp only [if_neg c_20, if_pos c_21]) rfl rfl)
                      · have c_21 := c
                        refine r_iload 127 dX11_copies_125 rfl rfl ?_
                        refine r_bipush 129 dX11_copies_127 rfl rfl ?_
                        refine r_icmp_eq 132 143 dX11_copies_129 rfl rfl (fun c => ?_) (fun c => ?_)
                        · have c_22 := c
                          refine r_iconst 144 dX11_copies_143 rfl (InR_of rfl) ?_
                          refine r_istore (ls' := [some (vR (some (2, 0))), some (vI x1), some (vI x2), some (vI x3), some (vI x4), some (vI x5), some (vI x6), some (vI x7), some (vR o_3), some (vI r_8), some (vI r_11), some (vI 1)]) 146 dX11_copies_144 rfl rfl rfl rfl ?_
                          exact (Ex.at hJ_19 (show [some (vR (some (2, 0))), some (vI x1), some (vI x2), some (vI x3), some (vI x4), some (vI x5), some (vI x6), some (vI x7), some (vR o_3), some (vI r_8), some (vI r_11), some (vI 1)] = [some (vR (some (2, 0))), some (vI x1), some (vI x2), some (vI x3), some (vI x4), some (vI x5), some (vI x6), some (vI x7), some (vR o_3), some (vI r_8), some (vI r_11), some (vI (if r_8 = r_11 then 2 else (if r_11 = (-2) then 0 else (if r_8 = (-2) then 1 else (if r_11 ≤ r_8 then 1 else 0 : Int) : Int) : Int) : Int))] by simp only [if_neg c_20, if_neg c_21, if_pos c_22]) rfl rfl)
                        · have c_22 := c
                          refine r_iload 134 dX11_copies_132 rfl rfl ?_
                          refine r_iload 136 dX11_copies_134 rfl rfl ?_
                          refine r_icmp_ge 139 143 dX11_copies_136 rfl rfl (fun c => ?_) (fun c => ?_)
                          · have c_23 := c
                            refine r_iconst 144 dX11_copies_143 rfl (InR_of rfl) ?_
                            refine r_istore (ls' := [some (vR (some (2, 0))), some (vI x1), some (vI x2), some (vI x3), some (vI x4), some (vI x5), some (vI x6), some (vI x7), some (vR o_3), some (vI r_8), some (vI r_11), some (vI 1)]) 146 dX11_copies_144 rfl rfl rfl rfl ?_
                            exact (Ex.at hJ_19 (show [some (vR (some (2, 0))), some (vI x1), some (vI x2), some (vI x3), some (vI x4), some (vI x5), some (vI x6), some (vI x7), some (vR o_3), some (vI r_8), some (vI r_11), some (vI 1)] = [some (vR (some (2, 0))), some (vI x1), some (vI x2), some (vI x3), some (vI x4), some (vI x5), some (vI x6), some (vI x7), some (vR o_3), some (vI r_8), some (vI r_11), some (vI (if r_8 = r_11 then 2 else (if r_11 = (-2) then 0 else (if r_8 = (-2) then 1 else (if r_11 ≤ r_8 then 1 else 0 : Int) : Int) : Int) : Int))] by simp only [if_neg c_20, if_neg c_21, if_neg c_22, if_pos c_23]) rfl rfl)
                          · have c_23 := c
                            refine r_iconst 140 dX11_copies_139 rfl (InR_of rfl) ?_
                            refine r_goto 144 dX11_copies_140 rfl ?_
                            refine r_istore (ls' := [some (vR (some (2, 0))), some (vI x1), some (vI x2), some (vI x3), some (vI x4), some (vI x5), some (vI x6), some (vI x7), some (vR o_3), some (vI r_8), some (vI r_11), some (vI 0)]) 146 dX11_copies_144 rfl rfl rfl rfl ?_
                            exact (Ex.at hJ_19 (show [some (vR (some (2, 0))), some (vI x1), some (vI x2), some (vI x3), some (vI x4), some (vI x5), some (vI x6), some (vI x7), some (vR o_3), some (vI r_8), some (vI r_11), some (vI 0)] = [some (vR (some (2, 0))), some (vI x1), some (vI x2), some (vI x3), some (vI x4), some (vI x5), some (vI x6), some (vI x7), some (vR o_3), some (vI r_8), some (vI r_11), some (vI (if r_8 = r_11 then 2 else (if r_11 = (-2) then 0 else (if r_8 = (-2) then 1 else (if r_11 ≤ r_8 then 1 else 0 : Int) : Int) : Int) : Int))] by simp only [if_neg c_20, if_neg c_21, if_neg c_22, if_neg c_23]) rfl rfl)
                    · have c_20 := Decidable.not_not.mp c
                      refine r_iconst 113 dX11_copies_112 rfl (InR_of rfl) ?_
                      refine r_istore (ls' := [some (vR (some (2, 0))), some (vI x1), some (vI x2), some (vI x3), some (vI x4), some (vI x5), some (vI x6), some (vI x7), some (vR o_3), some (vI r_8), some (vI r_11), some (vI 2)]) 115 dX11_copies_113 rfl rfl rfl rfl ?_
                      refine r_goto 146 dX11_copies_115 rfl ?_
                      exact (Ex.at hJ_19 (show [some (vR (some (2, 0))), some (vI x1), some (vI x2), some (vI x3), some (vI x4), some (vI x5), some (vI x6), some (vI x7), some (vR o_3), some (vI r_8), some (vI r_11), some (vI 2)] = [some (vR (some (2, 0))), some (vI x1), some (vI x2), some (vI x3), some (vI x4), some (vI x5), some (vI x6), some (vI x7), some (vR o_3), some (vI r_8), some (vI r_11), some (vI (if r_8 = r_11 then 2 else (if r_11 = (-2) then 0 else (if r_8 = (-2) then 1 else (if r_11 ≤ r_8 then 1 else 0 : Int) : Int) : Int) : Int))] by simp only [if_pos c_20]) rfl rfl)
                  · have h := h.2 (Decidable.not_not.mp c)
                    refine r_bipush 104 dX11_copies_102 rfl rfl ?_
                    exact r_iret dX11_copies_104 rfl (.inl rfl) h.1 h.2
              · have h := h.2 (c)
                refine r_iconst 59 dX11_copies_58 rfl (InR_of rfl) ?_
                exact r_iret dX11_copies_59 rfl (.inl rfl) h.1 h.2
        · have h := h.2 (b2_0.mp (Decidable.not_not.mp c))
          refine r_iconst 38 dX11_copies_37 rfl (InR_of rfl) ?_
          exact r_iret dX11_copies_38 rfl (.inl rfl) h.1 h.2

set_option maxRecDepth 4000 in
theorem xX12_copies_0 {l : Launch} {G : Gt} {d : Nat} {M M' : Mem} {r : Option Vl} {x1 : Int} {x2 : Int} {x3 : Int} {x4 : Int} {x5 : Int} {x6 : Int} {x7 : Int} (hS : Sh M.2.1) (h : 
    ((InR ((M.1 3 0 33) - 1) ∧ InR ((M.1 48 0 0) - 1))) ∧ ((¬ ((0 ≤ x1 ∧ x1 < (M.1 48 0 0)) ∧ (0 ≤ x2 ∧ x2 < (M.1 3 0 33)) ∧ (0 ≤ x4 ∧ x4 < 8) ∧ (0 ≤ x6 ∧ x6 ≤ 999)) → r = some (vI (-1)) ∧ M' = M) ∧ ((0 ≤ x1 ∧ x1 < (M.1 48 0 0)) ∧ (0 ≤ x2 ∧ x2 < (M.1 3 0 33)) ∧ (0 ≤ x4 ∧ x4 < 8) ∧ (0 ≤ x6 ∧ x6 ≤ 999) → (¬ (0 ≤ x5 ∧ x5 < 8) → r = some (vI (-1)) ∧ M' = M) ∧ (0 ≤ x5 ∧ x5 < 8 → (InR ((M.1 48 0 0) - 1)) ∧ ((¬ (0 ≤ x3 ∧ x3 < (M.1 48 0 0)) → r = some (vI (-1)) ∧ M' = M) ∧ (0 ≤ x3 ∧ x3 < (M.1 48 0 0) → (x3 = x1 → r = some (vI (-1)) ∧ M' = M) ∧ (¬ (x3 = x1) → (0 ≤ x7 ∧ x7 ≤ 1 → ∃ (r_5 : Int) (M_3 : Mem), Cl l G (d + 2) mX12_endsRight [vR (some (3, 0)), vI x1, vI x2, vI x3, vI x4, vI x6] M (some (vI r_5)) M_3 ∧ (∃ (r_10 : Int) (M_8 : Mem), Cl l G (d + 2) mX12_endsRight [vR (some (3, 0)), vI x1, vI x2, vI x3, vI x5, vI x6] M_3 (some (vI r_10)) M_8 ∧ (((if (if r_10 = 0 then 1000 else (M_8.1 3 0 58) : Int) ≤ (if r_5 = 0 then 1000 else (M_3.1 3 0 58) : Int) then (if r_10 = 0 then 1000 else (M_8.1 3 0 58) : Int) else (if r_5 = 0 then 1000 else (M_3.1 3 0 58) : Int) : Int) ≤ 999 → r = some (vI (if x7 = 1 then (if (if r_10 = 0 then 1000 else (M_8.1 3 0 58) : Int) ≤ (if r_5 = 0 then 1000 else (M_3.1 3 0 58) : Int) then (if r_10 = 0 then 1000 else (M_8.1 3 0 58) : Int) else (if r_5 = 0 then 1000 else (M_3.1 3 0 58) : Int) : Int) else (if (if r_5 = 0 then 1000 else (M_3.1 3 0 58) : Int) = (if r_10 = 0 then 1000 else (M_8.1 3 0 58) : Int) then 2 else (if (if r_10 = 0 then 1000 else (M_8.1 3 0 58) : Int) ≤ (if r_5 = 0 then 1000 else (M_3.1 3 0 58) : Int) then 1 else 0 : Int) : Int) : Int)) ∧ M' = M_8) ∧ (¬ ((if (if r_10 = 0 then 1000 else (M_8.1 3 0 58) : Int) ≤ (if r_5 = 0 then 1000 else (M_3.1 3 0 58) : Int) then (if r_10 = 0 then 1000 else (M_8.1 3 0 58) : Int) else (if r_5 = 0 then 1000 else (M_3.1 3 0 58) : Int) : Int) ≤ 999) → r = some (vI (-2)) ∧ M' = M_8)))) ∧ (¬ (0 ≤ x7 ∧ x7 ≤ 1) → r = some (vI (-1)) ∧ M' = M)))))))) : Cl l G (d + 3) mX12_copies [vR (some (3, 0)), vI x1, vI x2, vI x3, vI x4, vI x5, vI x6, vI x7] M r M' := by
  show Ex l G (d + 3) mX12_copies 0 [some (vR (some (3, 0))), some (vI x1), some (vI x2), some (vI x3), some (vI x4), some (vI x5), some (vI x6), some (vI x7), none, none, none] [] M r M'
  obtain ⟨o_1, h⟩ := h
  refine r_aload_n 1 dX12_copies_0 rfl rfl ?_
  refine r_iload_n 2 dX12_copies_1 rfl rfl ?_
  refine r_iload_n 3 dX12_copies_2 rfl rfl ?_
  refine r_iload 5 dX12_copies_3 rfl rfl ?_
  refine r_iload 7 dX12_copies_5 rfl rfl ?_
  refine v_1 (ci := 12) (C := (RX12, TX12, 68)) [vI x1, vI x2, vI x4, vI x6] [] 10 dX12_copies_7 rfl rfl rfl rfl rfl mo_X12_isLetter ml_12_416 rfl rfl (KX12_isLetter hS o_1) ?_
  refine r_if_eq 13 45 dX12_copies_10 rfl rfl (fun c => ?_) (fun c => ?_)
  · have h := h.1 (b2_0.mp c)
    refine r_iconst 46 dX12_copies_45 rfl (InR_of rfl) ?_
    exact r_iret dX12_copies_46 rfl (.inl rfl) h.1 h.2
  · have h := h.2 (b2_1.mp c)
    refine r_iload 15 dX12_copies_13 rfl rfl ?_
    refine c_1 [vI x5] [] 18 dX12_copies_15 rfl rfl mo_X12_isPlace ml_12_160 rfl rfl (KX12_isPlace) ?_
    refine r_if_eq 21 45 dX12_copies_18 rfl rfl (fun c => ?_) (fun c => ?_)
    · have h := h.1 (b2_0.mp c)
      refine r_iconst 46 dX12_copies_45 rfl (InR_of rfl) ?_
      exact r_iret dX12_copies_46 rfl (.inl rfl) h.1 h.2
    · have h := h.2 (b2_1.mp c)
      obtain ⟨o_2, h⟩ := h
      refine r_aload_n 22 dX12_copies_21 rfl rfl ?_
      refine r_iload_n 23 dX12_copies_22 rfl rfl ?_
      refine v_1 (ci := 12) (C := (RX12, TX12, 68)) [vI x3] [] 26 dX12_copies_23 rfl rfl rfl rfl rfl mo_X12_isPerson ml_12_175 rfl rfl (KX12_isPerson hS o_2) ?_
      refine r_if_eq 29 45 dX12_copies_26 rfl rfl (fun c => ?_) (fun c => ?_)
      · have h := h.1 (b2_0.mp c)
        refine r_iconst 46 dX12_copies_45 rfl (InR_of rfl) ?_
        exact r_iret dX12_copies_46 rfl (.inl rfl) h.1 h.2
      · have h := h.2 (b2_1.mp c)
        refine r_iload_n 30 dX12_copies_29 rfl rfl ?_
        refine r_iload_n 31 dX12_copies_30 rfl rfl ?_
        refine r_icmp_eq 34 45 dX12_copies_31 rfl rfl (fun c => ?_) (fun c => ?_)
        · have h := h.1 (c)
          refine r_iconst 46 dX12_copies_45 rfl (InR_of rfl) ?_
          exact r_iret dX12_copies_46 rfl (.inl rfl) h.1 h.2
        · have h := h.2 (c)
          refine r_iload 36 dX12_copies_34 rfl rfl ?_
          refine r_i2l 37 dX12_copies_36 rfl ?_
          refine r_lconst (x := 0) 38 dX12_copies_37 rfl (by decide +kernel) (InR_of rfl) ?_
          refine r_lconst (x := 1) 39 dX12_copies_38 rfl (by decide +kernel) (InR_of rfl) ?_
          refine c_1 [vL x7, vL 0, vL 1] [] 42 dX12_copies_39 rfl rfl mo_X12_in ml_12_154 rfl rfl (KX12_in) ?_
          refine r_if_ne 45 47 dX12_copies_42 rfl rfl (fun c => ?_) (fun c => ?_)
          · have h := h.1 (b2_1.mp c)
            refine r_aload_n 48 dX12_copies_47 rfl rfl ?_
            refine r_iload_n 49 dX12_copies_48 rfl rfl ?_
            refine r_iload_n 50 dX12_copies_49 rfl rfl ?_
            refine r_iload_n 51 dX12_copies_50 rfl rfl ?_
            refine r_iload 53 dX12_copies_51 rfl rfl ?_
            refine r_iload 55 dX12_copies_53 rfl rfl ?_
            obtain ⟨r_5, M_3, hc_4, h⟩ := h
            refine v_1 (ci := 12) (C := (RX12, TX12, 68)) [vI x1, vI x2, vI x3, vI x4, vI x6] [] 58 dX12_copies_55 rfl rfl rfl rfl rfl mo_X12_endsRight ml_12_433 rfl rfl hc_4 ?_
            have hJ_6 : Ex l G (d + 3) mX12_copies 71 [some (vR (some (3, 0))), some (vI x1), some (vI x2), some (vI x3), some (vI x4), some (vI x5), some (vI x6), some (vI x7), none, none, none] [vI (if r_5 = 0 then 1000 else (M_3.1 3 0 58) : Int)] M_3 r M' := by
              refine r_istore (ls' := [some (vR (some (3, 0))), some (vI x1), some (vI x2), some (vI x3), some (vI x4), some (vI x5), some (vI x6), some (vI x7), some (vI (if r_5 = 0 then 1000 else (M_3.1 3 0 58) : Int)), none, none]) 73 dX12_copies_71 rfl rfl rfl rfl ?_
              refine r_aload_n 74 dX12_copies_73 rfl rfl ?_
              refine r_iload_n 75 dX12_copies_74 rfl rfl ?_
              refine r_iload_n 76 dX12_copies_75 rfl rfl ?_
              refine r_iload_n 77 dX12_copies_76 rfl rfl ?_
              refine r_iload 79 dX12_copies_77 rfl rfl ?_
              refine r_iload 81 dX12_copies_79 rfl rfl ?_
              obtain ⟨r_10, M_8, hc_9, h⟩ := h
              refine v_1 (ci := 12) (C := (RX12, TX12, 68)) [vI x1, vI x2, vI x3, vI x5, vI x6] [] 84 dX12_copies_81 rfl rfl rfl rfl rfl mo_X12_endsRight ml_12_433 rfl rfl hc_9 ?_
              have hJ_11 : Ex l G (d + 3) mX12_copies 97 [some (vR (some (3, 0))), some (vI x1), some (vI x2), some (vI x3), some (vI x4), some (vI x5), some (vI x6), some (vI x7), some (vI (if r_5 = 0 then 1000 else (M_3.1 3 0 58) : Int)), none, none] [vI (if r_10 = 0 then 1000 else (M_8.1 3 0 58) : Int)] M_8 r M' := by
                refine r_istore (ls' := [some (vR (some (3, 0))), some (vI x1), some (vI x2), some (vI x3), some (vI x4), some (vI x5), some (vI x6), some (vI x7), some (vI (if r_5 = 0 then 1000 else (M_3.1 3 0 58) : Int)), some (vI (if r_10 = 0 then 1000 else (M_8.1 3 0 58) : Int)), none]) 99 dX12_copies_97 rfl rfl rfl rfl ?_
                refine r_iload 101 dX12_copies_99 rfl rfl ?_
                refine r_iload 103 dX12_copies_101 rfl rfl ?_
                have hJ_13 : Ex l G (d + 3) mX12_copies 113 [some (vR (some (3, 0))), some (vI x1), some (vI x2), some (vI x3), some (vI x4), some (vI x5), some (vI x6), some (vI x7), some (vI (if r_5 = 0 then 1000 else (M_3.1 3 0 58) : Int)), some (vI (if r_10 = 0 then 1000 else (M_8.1 3 0 58) : Int)), none] [vI (if (if r_10 = 0 then 1000 else (M_8.1 3 0 58) : Int) ≤ (if r_5 = 0 then 1000 else (M_3.1 3 0 58) : Int) then (if r_10 = 0 then 1000 else (M_8.1 3 0 58) : Int) else (if r_5 = 0 then 1000 else (M_3.1 3 0 58) : Int) : Int)] M_8 r M' := by
                  refine r_istore (ls' := [some (vR (some (3, 0))), some (vI x1), some (vI x2), some (vI x3), some (vI x4), some (vI x5), some (vI x6), some (vI x7), some (vI (if r_5 = 0 then 1000 else (M_3.1 3 0 58) : Int)), some (vI (if r_10 = 0 then 1000 else (M_8.1 3 0 58) : Int)), some (vI (if (if r_10 = 0 then 1000 else (M_8.1 3 0 58) : Int) ≤ (if r_5 = 0 then 1000 else (M_3.1 3 0 58) : Int) then (if r_10 = 0 then 1000 else (M_8.1 3 0 58) : Int) else (if r_5 = 0 then 1000 else (M_3.1 3 0 58) : Int) : Int))]) 115 dX12_copies_113 rfl rfl rfl rfl ?_
                  refine r_iload 117 dX12_copies_115 rfl rfl ?_
                  refine r_sipush 120 dX12_copies_117 rfl rfl ?_
                  refine r_icmp_le 123 126 dX12_copies_120 rfl rfl (fun c => ?_) (fun c => ?_)
                  · have h := h.1 (c)
                    refine r_iload 128 dX12_copies_126 rfl rfl ?_
                    refine r_iconst 129 dX12_copies_128 rfl (InR_of rfl) ?_
                    have hJ_15 : Ex l G (d + 3) mX12_copies 160 [some (vR (some (3, 0))), some (vI x1), some (vI x2), some (vI x3), some (vI x4), some (vI x5), some (vI x6), some (vI x7), some (vI (if r_5 = 0 then 1000 else (M_3.1 3 0 58) : Int)), some (vI (if r_10 = 0 then 1000 else (M_8.1 3 0 58) : Int)), some (vI (if (if r_10 = 0 then 1000 else (M_8.1 3 0 58) : Int) ≤ (if r_5 = 0 then 1000 else (M_3.1 3 0 58) : Int) then (if r_10 = 0 then 1000 else (M_8.1 3 0 58) : Int) else (if r_5 = 0 then 1000 else (M_3.1 3 0 58) : Int) : Int))] [vI (if x7 = 1 then (if (if r_10 = 0 then 1000 else (M_8.1 3 0 58) : Int) ≤ (if r_5 = 0 then 1000 else (M_3.1 3 0 58) : Int) then (if r_10 = 0 then 1000 else (M_8.1 3 0 58) : Int) else (if r_5 = 0 then 1000 else (M_3.1 3 0 58) : Int) : Int) else (if (if r_5 = 0 then 1000 else (M_3.1 3 0 58) : Int) = (if r_10 = 0 then 1000 else (M_8.1 3 0 58) : Int) then 2 else (if (if r_10 = 0 then 1000 else (M_8.1 3 0 58) : Int) ≤ (if r_5 = 0 then 1000 else (M_3.1 3 0 58) : Int) then 1 else 0 : Int) : Int) : Int)] M_8 r M' := by
                      exact r_iret dX12_copies_160 rfl (.inl rfl) h.1 h.2
                    refine r_icmp_ne 132 137 dX12_copies_129 rfl rfl (fun c => ?_) (fun c => ?_)
                    · have c_16 := c
                      refine r_iload 139 dX12_copies_137 rfl rfl ?_
                      refine r_iload 141 dX12_copies_139 rfl rfl ?_
                      refine r_icmp_ne 144 148 dX12_copies_141 rfl rfl (fun c => ?_) (fun c => ?_)
                      · have c_17 := c
                        refine r_iload 150 dX12_copies_148 rfl rfl ?_
                        refine r_iload 152 dX12_copies_150 rfl rfl ?_
                        refine r_icmp_ge 155 159 dX12_copies_152 rfl rfl (fun c => ?_) (fun c => ?_)
                        · have c_18 := c
                          refine r_iconst 160 dX12_copies_159 rfl (InR_of rfl) ?_
                          exact (Ex.at hJ_15 rfl (show [vI 1] = [vI (if x7 = 1 then (if (if r_10 = 0 then 1000 else (M_8.1 3 0 58) : Int) ≤ (if r_5 = 0 then 1000 else (M_3.1 3 0 58) : Int) then (if r_10 = 0 then 1000 else (M_8.1 3 0 58) : Int) else (if r_5 = 0 then 1000 else (M_3.1 3 0 58) : Int) : Int) else (if (if r_5 = 0 then 1000 else (M_3.1 3 0 58) : Int) = (if r_10 = 0 then 1000 else (M_8.1 3 0 58) : Int) then 2 else (if (if r_10 = 0 then 1000 else (M_8.1 3 0 58) : Int) ≤ (if r_5 = 0 then 1000 else (M_3.1 3 0 58) : Int) then 1 else 0 : Int) : Int) : Int)] by simp only [if_neg c_16, if_neg c_17, if_pos c_18]) rfl)
                        · have c_18 := c
                          refine r_iconst 156 dX12_copies_155 rfl (InR_of rfl) ?_
                          refine r_goto 160 dX12_copies_156 rfl ?_
                          exact (Ex.at hJ_15 rfl (show [vI 0] = [vI (if x7 = 1 then (if (if r_10 = 0 then 1000 else (M_8.1 3 0 58) : Int) ≤ (if r_5 = 0 then 1000 else (M_3.1 3 0 58) : Int) then (if r_10 = 0 then 1000 else (M_8.1 3 0 58) : Int) else (if r_5 = 0 then 1000 else (M_3.1 3 0 58) : Int) : Int) else (if (if r_5 = 0 then 1000 else (M_3.1 3 0 58) : Int) = (if r_10 = 0 then 1000 else (M_8.1 3 0 58) : Int) then 2 else (if (if r_10 = 0 then 1000 else (M_8.1 3 0 58) : Int) ≤ (if r_5 = 0 then 1000 else (M_3.1 3 0 58) : Int) then 1 else 0 : Int) : Int) : Int)] by simp only [if_neg c_16, if_neg c_17, if_neg c_18]) rfl)
                      · have c_17 := Decidable.not_not.mp c
                        refine r_iconst 145 dX12_copies_144 rfl (InR_of rfl) ?_
                        refine r_goto 160 dX12_copies_145 rfl ?_
                        exact (Ex.at hJ_15 rfl (show [vI 2] = [vI (if x7 = 1 then (if (if r_10 = 0 then 1000 else (M_8.1 3 0 58) : Int) ≤ (if r_5 = 0 then 1000 else (M_3.1 3 0 58) : Int) then (if r_10 = 0 then 1000 else (M_8.1 3 0 58) : Int) else (if r_5 = 0 then 1000 else (M_3.1 3 0 58) : Int) : Int) else (if (if r_5 = 0 then 1000 else (M_3.1 3 0 58) : Int) = (if r_10 = 0 then 1000 else (M_8.1 3 0 58) : Int) then 2 else (if (if r_10 = 0 then 1000 else (M_8.1 3 0 58) : Int) ≤ (if r_5 = 0 then 1000 else (M_3.1 3 0 58) : Int) then 1 else 0 : Int) : Int) : Int)] by simp only [if_neg c_16, if_pos c_17]) rfl)
                    · have c_16 := Decidable.not_not.mp c
                      refine r_iload 134 dX12_copies_132 rfl rfl ?_
                      refine r_goto 160 dX12_copies_134 rfl ?_
                      exact (Ex.at hJ_15 rfl (show [vI (if (if r_10 = 0 then 1000 else (M_8.1 3 0 58) : Int) ≤ (if r_5 = 0 then 1000 else (M_3.1 3 0 58) : Int) then (if r_10 = 0 then 1000 else (M_8.1 3 0 58) : Int) else (if r_5 = 0 then 1000 else (M_3.1 3 0 58) : Int) : Int)] = [vI (if x7 = 1 then (if (if r_10 = 0 then 1000 else (M_8.1 3 0 58) : Int) ≤ (if r_5 = 0 then 1000 else (M_3.1 3 0 58) : Int) then (if r_10 = 0 then 1000 else (M_8.1 3 0 58) : Int) else (if r_5 = 0 then 1000 else (M_3.1 3 0 58) : Int) : Int) else (if (if r_5 = 0 then 1000 else (M_3.1 3 0 58) : Int) = (if r_10 = 0 then 1000 else (M_8.1 3 0 58) : Int) then 2 else (if (if r_10 = 0 then 1000 else (M_8.1 3 0 58) : Int) ≤ (if r_5 = 0 then 1000 else (M_3.1 3 0 58) : Int) then 1 else 0 : Int) : Int) : Int)] by simp only [if_pos c_16]) rfl)
                  · have h := h.2 (c)
                    refine r_bipush 125 dX12_copies_123 rfl rfl ?_
                    exact r_iret dX12_copies_125 rfl (.inl rfl) h.1 h.2
                refine r_icmp_ge 106 111 dX12_copies_103 rfl rfl (fun c => ?_) (fun c => ?_)
                · have c_14 := c
                  refine r_iload 113 dX12_copies_111 rfl rfl ?_
                  exact (Ex.at hJ_13 rfl (show [vI (if r_10 = 0 then 1000 else (M_8.1 3 0 58) : Int)] = [vI (if (if r_10 = 0 then 1000 else (M_8.1 3 0 58) : Int) ≤ (if r_5 = 0 then 1000 else (M_3.1 3 0 58) : Int) then (if r_10 = 0 then 1000 else (M_8.1 3 0 58) : Int) else (if r_5 = 0 then 1000 else (M_3.1 3 0 58) : Int) : Int)] by simp only [if_pos c_14]) rfl)
                · have c_14 := c
                  refine r_iload 108 dX12_copies_106 rfl rfl ?_
                  refine r_goto 113 dX12_copies_108 rfl ?_
                  exact (Ex.at hJ_13 rfl (show [vI (if r_5 = 0 then 1000 else (M_3.1 3 0 58) : Int)] = [vI (if (if r_10 = 0 then 1000 else (M_8.1 3 0 58) : Int) ≤ (if r_5 = 0 then 1000 else (M_3.1 3 0 58) : Int) then (if r_10 = 0 then 1000 else (M_8.1 3 0 58) : Int) else (if r_5 = 0 then 1000 else (M_3.1 3 0 58) : Int) : Int)] by simp only [if_neg c_14]) rfl)
              refine r_if_eq 87 94 dX12_copies_84 rfl rfl (fun c => ?_) (fun c => ?_)
              · have c_12 := c
                refine r_sipush 97 dX12_copies_94 rfl rfl ?_
                exact (Ex.at hJ_11 rfl (show [vI 1000] = [vI (if r_10 = 0 then 1000 else (M_8.1 3 0 58) : Int)] by simp only [if_pos c_12]) rfl)
              · have c_12 := c
                refine r_aload_n 88 dX12_copies_87 rfl rfl ?_
                refine g_I 91 dX12_copies_88 rfl rfl rfl fi_12_407 rfl ?_
                refine r_goto 97 dX12_copies_91 rfl ?_
                exact (Ex.at hJ_11 rfl (show [vI (M_8.1 3 0 58)] = [vI (if r_10 = 0 then 1000 else (M_8.1 3 0 58) : Int)] by simp only [if_neg c_12]) rfl)
            refine r_if_eq 61 68 dX12_copies_58 rfl rfl (fun c => ?_) (fun c => ?_)
            · have c_7 := c
              refine r_sipush 71 dX12_copies_68 rfl rfl ?_
              exact (Ex.at hJ_6 rfl (show [vI 1000] = [vI (if r_5 = 0 then 1000 else (M_3.1 3 0 58) : Int)] by simp only [if_pos c_7]) rfl)
            · have c_7 := c
              refine r_aload_n 62 dX12_copies_61 rfl rfl ?_
              refine g_I 65 dX12_copies_62 rfl rfl rfl fi_12_407 rfl ?_
              refine r_goto 71 dX12_copies_65 rfl ?_
              exact (Ex.at hJ_6 rfl (show [vI (M_3.1 3 0 58)] = [vI (if r_5 = 0 then 1000 else (M_3.1 3 0 58) : Int)] by simp only [if_neg c_7]) rfl)
          · have h := h.2 (b2_0.mp (Decidable.not_not.mp c))
            refine r_iconst 46 dX12_copies_45 rfl (InR_of rfl) ?_
            exact r_iret dX12_copies_46 rfl (.inl rfl) h.1 h.2

def begL (g : Nat → Int) (s p pl day : Int) : Nat → Int := fun i => if i = 1 then s else if i = 2 then p else if i = 3 then pl else if i = 4 then day else if i = 5 then 0 else if i = 6 then pl else if i = 7 then day else if i = 8 then -1 else if i = 9 then aShl 1 pl else if i = 10 then 0 else if i = 11 then 0 else g i
theorem begL_WL {Q : QT} {g : Nat → Int} {s p pl day : Int} (h1 : 0 ≤ s ∧ s < nPp Q) (h2 : 0 ≤ pl ∧ pl < 8) (h3 : 0 ≤ day ∧ day ≤ 999) : WL Q (begL g s p pl day) := by
  refine ⟨h1, h2, ?_, ⟨h3.1, by show day ≤ 2000; omega⟩, ⟨by show (0 : Int) ≤ 0; omega, h3.1⟩⟩
  show aShl 1 pl = bI 8 (fun i => tb (aShl 1 pl) (i : Int))
  have e : aShl 1 pl = bI 8 (fun i => decide (i = pl.toNat)) := by
    have := bI_one (n := 8) (s := pl.toNat) (by omega) (by omega)
    rwa [show ((pl.toNat : Nat) : Int) = pl by omega] at this
  rw [e]
  refine bI_ext fun i hi => ?_
  rw [tb_bI (by omega)]
  simp [hi]
/-- what a letter's end hangs on -/
def eqL (L L' : Nat → Int) : Prop := ∀ i, ¬ (i = 0 ∨ i = 2 ∨ i = 3 ∨ 11 ≤ i) → L i = L' i
theorem stpL_ext {Q : QT} {cv : Nat} {L L' : Nat → Int} (h : eqL L L') : stpL Q cv L = stpL Q cv L' := by
  unfold stpL
  rw [h 1 (by omega), h 4 (by omega), h 7 (by omega), h 6 (by omega), show lw L = lw L' by unfold lw; rw [h 9 (by omega)]]
theorem endL_ext {Q : QT} {cv : Nat} : ∀ {n : Nat} {L L' : Nat → Int}, eqL L L' → eqL (endL Q cv n L) (endL Q cv n L') := by
  intro n
  induction n with
  | zero => intro L L' h; exact h
  | succ n ih =>
    intro L L' h
    have ha : eqL (askL (stpL Q cv L) (bI 12 (akL Q cv L)) L) (askL (stpL Q cv L') (bI 12 (akL Q cv L')) L') := fun i hi => by
      unfold askL
      rw [if_neg (by omega), if_neg (show ¬ i = 11 by omega), stpL_ext h, h 5 (by omega), h 8 (by omega), h i hi]
    unfold endL
    rw [stpL_ext h, h 7 (by omega), h 6 (by omega)]
    split
    · refine ih fun i hi => ?_
      have e7 := ha 7 (by omega)
      have e6 := ha 6 (by omega)
      have e9 := ha 9 (by omega)
      have e10 := ha 10 (by omega)
      have ei := ha i hi
      rw [stpL_ext h] at e7 e6 e9 e10 ei
      unfold goL
      rw [e7, e6, e9, e10, ei]
    · have := ha
      rw [stpL_ext h] at this
      exact this
theorem endL_2 {Q : QT} {cv : Nat} : ∀ {n : Nat} {L : Nat → Int}, endL Q cv n L 2 = L 2 := by
  intro n
  induction n with
  | zero => intro L; rfl
  | succ n ih =>
    intro L
    unfold endL
    split
    · rw [ih]; rfl
    · rfl
def endV (Q : QT) (c s pl day : Int) : Nat → Int := endL Q c.toNat 100 (begL (fun _ => 0) s (-1) pl day)
theorem endV_eq {Q : QT} {c s pl day p : Int} {g : Nat → Int} : eqL (endL Q c.toNat 100 (begL g s p pl day)) (endV Q c s pl day) := endL_ext fun i hi => by unfold begL; ((repeat' split) <;> first | rfl | (exfalso; omega) | (congr 1; omega) | congr 1)
def endsV (Q : QT) (s c pl day what : Int) : Int := if (0 ≤ s ∧ s < nPp Q) ∧ (0 ≤ c ∧ c < nCv Q) ∧ (0 ≤ pl ∧ pl < 8) ∧ (0 ≤ day ∧ day ≤ 999) ∧ (0 ≤ what ∧ what ≤ 4) then
  (if what = 0 then endV Q c s pl day 5 else if what = 1 then endV Q c s pl day 8 else if what = 2 then endV Q c s pl day 7 else if what = 3 then endV Q c s pl day 6 else endV Q c s pl day 10) else -2
section EN2
variable {l : Launch} {G : Gt} {d : Nat} {Q : QT} {M : Mem}
theorem KX12_endsFrom {s c pl day : Int} (hS : Sh M.2.1) (hq : WFQ Q) (hH : HoldsM Q M.1) (h1 : 0 ≤ s ∧ s < nPp Q) (h2 : 0 ≤ c ∧ c < nCv Q) (h3 : 0 ≤ pl ∧ pl < 8) (h4 : 0 ≤ day ∧ day ≤ 999) : ∃ I', Cl l G (d + 4) mX12_endsFrom [vR (some (3, 0)), vI s, vI c, vI pl, vI day] M none (I', M.2.1, M.2.2) ∧ frE M.1 I' ∧ EndP (endV Q c s pl day) I' := by
  obtain ⟨I1, c1, s1, L1⟩ := KX12_lays (l := l) (G := G) (d := d + 1) (row := 0) (x2 := day) hS hq.1 hH.1 (by omega)
  have f2 : frE M.1 (upI (upI (upI (upI (upI I1 3 0 56 0) 3 0 57 (-1)) 3 0 58 day) 3 0 59 pl) 3 0 60 0) := (((((frE.ll s1).tr (frE.md (by omega))).tr (frE.md (by omega))).tr (frE.md (by omega))).tr (frE.md (by omega))).tr (frE.md (by omega))
  obtain ⟨I', x1, x2, x3⟩ := ends_41 (l := l) (G := G) (d := d) (M := M) (cv := c.toNat) (x3 := pl) (x4 := day) (sent := day) hS hq (by omega) 100 (by omega) _ (begL (fun _ => 0) s (-1) pl day) (hH.fr f2.m) (L1.md.md.md.md.md) rfl (begL_WL h1 h3 h4) h4.2 rfl rfl rfl (by
    refine ⟨?_, ?_, ?_, ?_, ?_⟩
    · rw [upI_i (by omega), upI_i (by omega), upI_i (by omega), upI_i (by omega), upI_s]; rfl
    · rw [upI_i (by omega), upI_i (by omega), upI_i (by omega), upI_s]; rfl
    · rw [upI_i (by omega), upI_i (by omega), upI_s]; rfl
    · rw [upI_i (by omega), upI_s]; rfl
    · rw [upI_s]; rfl)
  rw [show ((c.toNat : Nat) : Int) = c by omega] at x1
  exact ⟨I', xX12_endsFrom_0 ⟨_, c1, by omega, x1⟩, f2.tr x2, x3⟩
theorem KX12_ends {s c pl day what : Int} (hS : Sh M.2.1) (hq : WFQ Q) (hH : HoldsM Q M.1) : ∃ I', Cl l G (d + 5) mX12_ends [vR (some (3, 0)), vI s, vI c, vI pl, vI day, vI what] M (some (vI (endsV Q s c pl day what))) (I', M.2.1, M.2.2) ∧ frM M.1 I' := by
  have h12 := nPp_le hq.1
  have e1 := mppl_eq hq.1 hH
  have e2 : M.1 3 0 33 = (nCv Q : Int) := by rw [hH.2.2.2.1]; have := hq.2.2.2.2.1; unfold nCv; omega
  have hn8 : nCv Q ≤ 8 := by have := hq.2.2.2.2.1; unfold nCv; omega
  by_cases g : (0 ≤ s ∧ s < nPp Q) ∧ (0 ≤ c ∧ c < nCv Q) ∧ (0 ≤ pl ∧ pl < 8) ∧ (0 ≤ day ∧ day ≤ 999) ∧ (0 ≤ what ∧ what ≤ 4)
  · obtain ⟨g1, g2, g3, g4, g5⟩ := g
    obtain ⟨I', x1, x2, x3⟩ := KX12_endsFrom (l := l) (G := G) (d := d) (s := s) (c := c) (pl := pl) (day := day) hS hq hH g1 g2 g3 g4
    refine ⟨I', xX12_ends_0 hS ?_, x2.m⟩
    rw [e1, e2]
    refine ⟨⟨by unfold InR; omega, by unfold InR; omega⟩, fun a => absurd ⟨g1, g2, g3, g4⟩ a, fun _ => ⟨fun _ => ⟨_, x1, ?_, rfl⟩, fun a => absurd g5 a⟩⟩
    unfold endsV
    rw [if_pos ⟨g1, g2, g3, g4, g5⟩]
    dsimp only
    rw [x3.1, x3.2.1, x3.2.2.1, x3.2.2.2.1, x3.2.2.2.2]
  · refine ⟨M.1, xX12_ends_0 hS ?_, frM.rf⟩
    have ev : endsV Q s c pl day what = -2 := by unfold endsV; rw [if_neg g]
    rw [e1, e2, ev]
    exact ⟨⟨by unfold InR; omega, by unfold InR; omega⟩, fun _ => ⟨rfl, rfl⟩, fun g1 => ⟨fun g2 => absurd ⟨g1.1, g1.2.1, g1.2.2.1, g1.2.2.2, g2⟩ g, fun _ => ⟨rfl, rfl⟩⟩⟩
/-! the class -/
theorem KX5_begin {k0 cv : Nat} {s p pl day : Int} (hpl : 0 ≤ pl ∧ pl < 8) : Cl l G (d + 1) mX5_begin [vR (some (5, k0)), vR (some (13, cv)), vI s, vI p, vI pl, vI day] M none (seI M.1 5 k0 (begL (M.1 5 k0) s p pl day), upR M.2.1 5 k0 0 (some (13, cv)), M.2.2) := by
  refine xX5_begin_0 ⟨_, xX5_beginAgain_0 ⟨?_, rfl, rfl⟩, rfl, ?_⟩
  · dsimp only
    rw [upI_i (by omega), upI_s]
    omega
  · dsimp only
    rw [upI_eq (I := M.1), upI_seI, upI_seI, upI_seI, upI_seI, upI_seI, upI_seI, upI_seI, upI_seI, upI_seI, upI_seI]
    refine congrArg (fun x => (x, upR M.2.1 5 k0 0 (some (13, cv)), M.2.2)) (congrArg (seI M.1 5 k0) (funext fun j => ?_))
    rw [seI_s]
    unfold begL
    by_cases h1 : j = 1
    · subst h1; rfl
    by_cases h2 : j = 2
    · subst h2; rfl
    by_cases h3 : j = 3
    · subst h3; rfl
    by_cases h4 : j = 4
    · subst h4; rfl
    by_cases h5 : j = 5
    · subst h5; rfl
    by_cases h6 : j = 6
    · subst h6; rfl
    by_cases h7 : j = 7
    · subst h7; rfl
    by_cases h8 : j = 8
    · subst h8; rfl
    by_cases h9 : j = 9
    · subst h9; rfl
    by_cases h10 : j = 10
    · subst h10; rfl
    by_cases h11 : j = 11
    · subst h11; rfl
    simp only [h1, h2, h3, h4, h5, h6, h7, h8, h9, h10, h11, if_false]
theorem RelB.beg {k0 cv : Nat} {g : Nat → Int} (h : RelB Q M) : RelB Q (seI M.1 5 k0 g, upR M.2.1 5 k0 0 (some (13, cv)), M.2.2) := by
  have hne : ∀ f i, shp f i = true → ¬ f = 5 := fun f i e c => by
    subst c
    unfold shp at e
    have h2 := List.contains_iff_mem.mp e
    have h3 : ∀ q ∈ ([(9, 0), (9, 1), (9, 2), (9, 3), (9, 12), (13, 1), (12, 8), (8, 0), (8, 1), (8, 2), (11, 0), (11, 2), (6, 0), (6, 1), (14, 1), (14, 2), (14, 3), (14, 4), (4, 1), (4, 3), (4, 5), (4, 6), (4, 7), (4, 9), (4, 12), (10, 0), (10, 1), (10, 2), (10, 3), (10, 4), (7, 0), (7, 1), (2, 0), (2, 1), (2, 2), (2, 3), (2, 4), (2, 5), (2, 6), (2, 7), (2, 8), (2, 9), (2, 11), (2, 13), (2, 14), (2, 15), (3, 1), (3, 2), (3, 3), (3, 4), (3, 5), (3, 6), (3, 7), (3, 8), (3, 9), (3, 10), (3, 11), (3, 12), (3, 13), (3, 14), (3, 15), (3, 16), (3, 17), (3, 18), (3, 19), (3, 20), (3, 21), (3, 22), (3, 23), (3, 24), (3, 25), (3, 26), (3, 27), (3, 28), (3, 39), (3, 40), (3, 41), (3, 42), (3, 43), (3, 44), (3, 45), (3, 46), (3, 47), (3, 51), (3, 52), (3, 53), (3, 54), (3, 55), (3, 64), (3, 65)] : List (Nat × Nat)), ¬ q.1 = 5 := by decide
    exact h3 (5, i) h2 rfl
  have h' : RelB Q (seI M.1 5 k0 g, M.2.1, M.2.2) := h.lt
  refine ⟨h'.1.oth (fun _ _ _ _ => rfl) (fun f k i hr => ?_) (fun _ _ => rfl) (CLe.rf _), h'.2.1, h'.2.2⟩
  dsimp only
  rw [upR_o (fun e => ?_)]
  rcases hr with hr | hr | hr
  · omega
  · omega
  · exact hne f i hr e.1
theorem frB.beg {cv : Nat} {g : Nat → Int} : frB M (seI M.1 5 8 g, upR M.2.1 5 8 0 (some (13, cv)), M.2.2) := by
  refine ⟨fun f k i hn => ?_, fun f k i hn => ?_, fun _ _ => rfl, CLe.rf _, rfl, rfl⟩
  · dsimp only
    rw [seI_o (fun e => hn (by unfold scC; omega))]
  · dsimp only
    by_cases e : f = 5 ∧ k = 8
    · obtain ⟨rfl, rfl⟩ := e
      rw [upR_i (fun e => hn (by unfold scR; omega))]
    · rw [upR_o e]
/-- a letter begun and gone to its end -/
theorem trip_end {s p c pl day : Int} (hR : RelB Q M) (hq : WFQ Q) (h1 : 0 ≤ s ∧ s < nPp Q) (h2 : 0 ≤ c ∧ c < nCv Q) (h3 : 0 ≤ pl ∧ pl < 8) (h4 : 0 ≤ day ∧ day ≤ 999) : ∃ M1 M', Cl l G (d + 5) mX5_begin [vR (some (5, 8)), vR (some (13, c.toNat)), vI s, vI p, vI pl, vI day] M none M1 ∧ RelB Q M1 ∧ Cl l G (d + 5) mX0_goToEnd [vR (some (9, 0)), vR (some (5, 8))] M1 none M' ∧ RelB Q M' ∧ frB M M' ∧ eqL (M'.1 5 8) (endV Q c s pl day) ∧ M'.1 5 8 2 = p := by
  have b := KX5_begin (l := l) (G := G) (d := d + 4) (M := M) (k0 := 8) (cv := c.toNat) (s := s) (p := p) (pl := pl) (day := day) h3
  have R1 : RelB Q (seI M.1 5 8 (begL (M.1 5 8) s p pl day), upR M.2.1 5 8 0 (some (13, c.toNat)), M.2.2) := hR.beg
  obtain ⟨M', k1, k2, k3, k4⟩ := KX0_goToEnd (l := l) (G := G) (d := d) (k1 := 8) (cv := c.toNat) (L := begL (M.1 5 8) s p pl day) R1 hq (by dsimp only; rw [upR_s]) (by omega) (by dsimp only; rw [seI_s]) (begL_WL h1 h3 h4) h4.2
  refine ⟨_, M', b, R1, k1, k2, frB.beg.tr (k3.b fun _ _ _ => scL.c), ?_, ?_⟩
  · rw [k4]; exact endV_eq
  · rw [k4, endL_2]; rfl
theorem KX11_ends {s c pl day what : Int} (hR : RelB Q M) (hq : WFQ Q) : ∃ M', Cl l G (d + 6) mX11_ends [vR (some (2, 0)), vI s, vI c, vI pl, vI day, vI what] M (some (vI (endsV Q s c pl day what))) M' ∧ RelB Q M' ∧ frB M M' := by
  have h12 := nPp_le hq.1
  have e1 := cppl_eq hq.1 hR.1
  have hco := KX11_coverOf (l := l) (G := G) (d := d + 5) (c := c) hR.1 hq.2.2.2.2
  by_cases g : (0 ≤ s ∧ s < nPp Q) ∧ (0 ≤ c ∧ c < nCv Q) ∧ (0 ≤ pl ∧ pl < 8) ∧ (0 ≤ day ∧ day ≤ 999) ∧ (0 ≤ what ∧ what ≤ 4)
  · obtain ⟨g1, g2, g3, g4, g5⟩ := g
    rw [if_pos g2] at hco
    obtain ⟨M1, M', b, R1, k1, k2, k3, k4, _⟩ := trip_end (l := l) (G := G) (d := d) (s := s) (p := -1) (c := c) (pl := pl) (day := day) hR hq g1 g2 g3 g4
    have ev : endsV Q s c pl day what = if what = 0 then endV Q c s pl day 5 else if what = 1 then endV Q c s pl day 8 else if what = 2 then endV Q c s pl day 7 else if what = 3 then endV Q c s pl day 6 else endV Q c s pl day 10 := by unfold endsV; rw [if_pos ⟨g1, g2, g3, g4, g5⟩]
    rw [ev, ← k4 5 (by omega), ← k4 8 (by omega), ← k4 7 (by omega), ← k4 6 (by omega), ← k4 10 (by omega)]
    refine ⟨M', xX11_ends_0 ⟨_, M, hco, hR.1.1, fun a => absurd a (by simp), fun _ => ?_⟩, k2, k3⟩
    rw [e1]
    refine ⟨fun a => absurd g1 a, fun _ => ⟨fun a => absurd g3 a, fun _ => ⟨fun _ => ⟨fun a => by omega, fun _ => ⟨fun _ => ⟨c.toNat, rfl, M1, b, R1.1.1, M', k1, k2.1.1, fun w => ⟨?_, rfl⟩, fun w => ⟨?_, rfl⟩, fun w => ⟨?_, rfl⟩, fun w => ⟨?_, rfl⟩, fun w => ⟨?_, rfl⟩⟩, fun a => by omega⟩⟩, fun a => absurd g4 a⟩⟩⟩
    · rw [if_neg (by omega), if_neg (by omega), if_neg (by omega), if_neg (by omega)]
    · rw [if_pos w]
    · rw [if_neg (by omega), if_pos w]
    · rw [if_neg (by omega), if_neg (by omega), if_pos w]
    · rw [if_neg (by omega), if_neg (by omega), if_neg (by omega), if_pos w]
  · have ev : endsV Q s c pl day what = -2 := by unfold endsV; rw [if_neg g]
    rw [ev]
    refine ⟨M, xX11_ends_0 ⟨_, M, hco, hR.1.1, fun _ => ⟨rfl, rfl⟩, fun a => ?_⟩, hR, frB.rf⟩
    rw [e1]
    have g2 : 0 ≤ c ∧ c < nCv Q := by
      by_cases g2 : 0 ≤ c ∧ c < nCv Q
      · exact g2
      · rw [if_neg g2] at a; exact absurd rfl a
    exact ⟨fun _ => ⟨rfl, rfl⟩, fun g1 => ⟨fun _ => ⟨rfl, rfl⟩, fun g3 => ⟨fun g4 => ⟨fun _ => ⟨rfl, rfl⟩, fun g5 => ⟨fun g6 => absurd ⟨g1, g2, g3, g4, by omega⟩ g, fun _ => ⟨rfl, rfl⟩⟩⟩, fun _ => ⟨rfl, rfl⟩⟩⟩⟩
end EN2
