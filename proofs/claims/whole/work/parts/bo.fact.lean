/-! readFact and readNested on the class -/
section CW7
variable {l : Launch} {G : Gt} {x : Nat} {M : Mem} {r : Option Vl} {M' : Mem} {t : Tp} {n p st sp fa : Nat} {I I' I'' : IM} {c c' : Cf} {S0 o : List (Int × Int)} {dp ti : Nat}
set_option maxRecDepth 4000 in
theorem xX2_readFact_0 {l : Launch} {G : Gt} {d : Nat} {M M' : Mem} {r : Option Vl} {x1 : Int} {x2 : Int} (h : 
    ((M.1 12 0 4) = 0 → ∃ (r_3 : Int) (M_1 : Mem), Cl l G d mX2_look [vR (some (12, 0))] M (some (vI r_3)) M_1 ∧ ((r_3 < 10 → ∃ (M_4 : Mem), Cl l G d mX2_countFact [vR (some (12, 0))] M_1 none M_4 ∧ (∃ (M_6 : Mem), Cl l G d mX2_put [vR (some (12, 0)), vI r_3] M_4 none M_6 ∧ r = none ∧ M' = M_6)) ∧ (¬ (r_3 < 10) → (¬ (r_3 = 24) → (16 ≤ r_3 → (¬ (r_3 = 16) → (r_3 = 25 → (x1 < 10 → (InR (x1 + 1)) ∧ (∃ (M_9 : Mem), Cl l G d mX2_readNested [vR (some (12, 0)), vI r_3, vI (x1 + 1), vI x2] M_1 none M_9 ∧ r = none ∧ M' = M_9)) ∧ (¬ (x1 < 10) → ∃ (M_11 : Mem), Cl l G d mX2_fail [vR (some (12, 0)), vI 2] M_1 none M_11 ∧ r = none ∧ M' = M_11)) ∧ (¬ (r_3 = 25) → (¬ (r_3 = 28) → ∃ (M_13 : Mem), Cl l G d mX2_fail [vR (some (12, 0)), vI 0] M_1 none M_13 ∧ r = none ∧ M' = M_13) ∧ (r_3 = 28 → (x1 < 10 → (InR (x1 + 1)) ∧ (∃ (M_16 : Mem), Cl l G d mX2_readNested [vR (some (12, 0)), vI r_3, vI (x1 + 1), vI x2] M_1 none M_16 ∧ r = none ∧ M' = M_16)) ∧ (¬ (x1 < 10) → ∃ (M_18 : Mem), Cl l G d mX2_fail [vR (some (12, 0)), vI 2] M_1 none M_18 ∧ r = none ∧ M' = M_18)))) ∧ (r_3 = 16 → ∃ (M_20 : Mem), Cl l G d mX2_countFact [vR (some (12, 0))] M_1 none M_20 ∧ (∃ (M_22 : Mem), Cl l G d mX2_readPlace [vR (some (12, 0))] M_20 none M_22 ∧ r = none ∧ M' = M_22))) ∧ (¬ (16 ≤ r_3) → (x2 < 4 → (InR (x2 + 1)) ∧ (∃ (M_25 : Mem), Cl l G d mX2_readFact [vR (some (12, 0)), vI x1, vI (x2 + 1)] M_1 none M_25 ∧ (∃ (M_27 : Mem), Cl l G d mX2_put [vR (some (12, 0)), vI r_3] M_25 none M_27 ∧ r = none ∧ M' = M_27))) ∧ (¬ (x2 < 4) → ∃ (M_29 : Mem), Cl l G d mX2_fail [vR (some (12, 0)), vI 2] M_1 none M_29 ∧ r = none ∧ M' = M_29))) ∧ (r_3 = 24 → ∃ (M_31 : Mem), Cl l G d mX2_countFact [vR (some (12, 0))] M_1 none M_31 ∧ (∃ (M_33 : Mem), Cl l G d mX2_put [vR (some (12, 0)), vI r_3] M_31 none M_33 ∧ r = none ∧ M' = M_33))))) ∧ (¬ ((M.1 12 0 4) = 0) → r = none ∧ M' = M)) : Cl l G (d + 1) mX2_readFact [vR (some (12, 0)), vI x1, vI x2] M r M' := by
  show Ex l G (d + 1) mX2_readFact 0 [some (vR (some (12, 0))), some (vI x1), some (vI x2), none] [] M r M'
  refine r_aload_n 1 dX2_readFact_0 rfl rfl ?_
  refine g_I 4 dX2_readFact_1 rfl rfl rfl fi_2_31 rfl ?_
  refine r_if_eq 7 8 dX2_readFact_4 rfl rfl (fun c => ?_) (fun c => ?_)
  · have h := h.1 (c)
    refine r_aload_n 9 dX2_readFact_8 rfl rfl ?_
    obtain ⟨r_3, M_1, hc_2, h⟩ := h
    refine v_1 (ci := 2) (C := (RX2, TX2, 10)) [] [] 12 dX2_readFact_9 rfl rfl rfl rfl rfl mo_X2_look ml_2_54 rfl rfl hc_2 ?_
    refine r_istore_n (ls' := [some (vR (some (12, 0))), some (vI x1), some (vI x2), some (vI r_3)]) 13 dX2_readFact_12 rfl rfl rfl rfl ?_
    refine r_iload_n 14 dX2_readFact_13 rfl rfl ?_
    refine r_bipush 16 dX2_readFact_14 rfl rfl ?_
    refine r_icmp_lt 19 25 dX2_readFact_16 rfl rfl (fun c => ?_) (fun c => ?_)
    · have h := h.1 (c)
      refine r_aload_n 26 dX2_readFact_25 rfl rfl ?_
      obtain ⟨M_4, hc_5, h⟩ := h
      refine v_0 (ci := 2) (C := (RX2, TX2, 10)) [] [] 29 dX2_readFact_26 rfl rfl rfl rfl rfl mo_X2_countFact ml_2_88 rfl rfl hc_5 ?_
      refine r_aload_n 30 dX2_readFact_29 rfl rfl ?_
      refine r_iload_n 31 dX2_readFact_30 rfl rfl ?_
      obtain ⟨M_6, hc_7, h⟩ := h
      refine v_0 (ci := 2) (C := (RX2, TX2, 10)) [vI r_3] [] 34 dX2_readFact_31 rfl rfl rfl rfl rfl mo_X2_put ml_2_82 rfl rfl hc_7 ?_
      refine r_goto 128 dX2_readFact_34 rfl ?_
      exact r_vret dX2_readFact_128 rfl h.1 h.2
    · have h := h.2 (c)
      refine r_iload_n 20 dX2_readFact_19 rfl rfl ?_
      refine r_bipush 22 dX2_readFact_20 rfl rfl ?_
      refine r_icmp_ne 25 37 dX2_readFact_22 rfl rfl (fun c => ?_) (fun c => ?_)
      · have h := h.1 (c)
        refine r_iload_n 38 dX2_readFact_37 rfl rfl ?_
        refine r_bipush 40 dX2_readFact_38 rfl rfl ?_
        refine r_icmp_ge 43 70 dX2_readFact_40 rfl rfl (fun c => ?_) (fun c => ?_)
        · have h := h.1 (c)
          refine r_iload_n 71 dX2_readFact_70 rfl rfl ?_
          refine r_bipush 73 dX2_readFact_71 rfl rfl ?_
          refine r_icmp_ne 76 87 dX2_readFact_73 rfl rfl (fun c => ?_) (fun c => ?_)
          · have h := h.1 (c)
            refine r_iload_n 88 dX2_readFact_87 rfl rfl ?_
            refine r_bipush 90 dX2_readFact_88 rfl rfl ?_
            refine r_icmp_eq 93 99 dX2_readFact_90 rfl rfl (fun c => ?_) (fun c => ?_)
            · have h := h.1 (c)
              refine r_iload_n 100 dX2_readFact_99 rfl rfl ?_
              refine r_bipush 102 dX2_readFact_100 rfl rfl ?_
              refine r_icmp_lt 105 111 dX2_readFact_102 rfl rfl (fun c => ?_) (fun c => ?_)
              · have h := h.1 (c)
                obtain ⟨o_8, h⟩ := h
                refine r_aload_n 112 dX2_readFact_111 rfl rfl ?_
                refine r_iload_n 113 dX2_readFact_112 rfl rfl ?_
                refine r_iload_n 114 dX2_readFact_113 rfl rfl ?_
                refine r_iconst 115 dX2_readFact_114 rfl (InR_of rfl) ?_
                refine r_iadd 116 dX2_readFact_115 rfl o_8 ?_
                refine r_iload_n 117 dX2_readFact_116 rfl rfl ?_
                obtain ⟨M_9, hc_10, h⟩ := h
                refine v_0 (ci := 2) (C := (RX2, TX2, 10)) [vI r_3, vI (x1 + 1), vI x2] [] 120 dX2_readFact_117 rfl rfl rfl rfl rfl mo_X2_readNested ml_2_94 rfl rfl hc_10 ?_
                refine r_goto 128 dX2_readFact_120 rfl ?_
                exact r_vret dX2_readFact_128 rfl h.1 h.2
              · have h := h.2 (c)
                refine r_aload_n 106 dX2_readFact_105 rfl rfl ?_
                refine r_iconst 107 dX2_readFact_106 rfl (InR_of rfl) ?_
                obtain ⟨M_11, hc_12, h⟩ := h
                refine v_0 (ci := 2) (C := (RX2, TX2, 10)) [vI 2] [] 110 dX2_readFact_107 rfl rfl rfl rfl rfl mo_X2_fail ml_2_61 rfl rfl hc_12 ?_
                exact r_vret dX2_readFact_110 rfl h.1 h.2
            · have h := h.2 (c)
              refine r_iload_n 94 dX2_readFact_93 rfl rfl ?_
              refine r_bipush 96 dX2_readFact_94 rfl rfl ?_
              refine r_icmp_ne 99 123 dX2_readFact_96 rfl rfl (fun c => ?_) (fun c => ?_)
              · have h := h.1 (c)
                refine r_aload_n 124 dX2_readFact_123 rfl rfl ?_
                refine r_iconst 125 dX2_readFact_124 rfl (InR_of rfl) ?_
                obtain ⟨M_13, hc_14, h⟩ := h
                refine v_0 (ci := 2) (C := (RX2, TX2, 10)) [vI 0] [] 128 dX2_readFact_125 rfl rfl rfl rfl rfl mo_X2_fail ml_2_61 rfl rfl hc_14 ?_
                exact r_vret dX2_readFact_128 rfl h.1 h.2
              · have h := h.2 (Decidable.not_not.mp c)
                refine r_iload_n 100 dX2_readFact_99 rfl rfl ?_
                refine r_bipush 102 dX2_readFact_100 rfl rfl ?_
                refine r_icmp_lt 105 111 dX2_readFact_102 rfl rfl (fun c => ?_) (fun c => ?_)
                · have h := h.1 (c)
                  obtain ⟨o_15, h⟩ := h
                  refine r_aload_n 112 dX2_readFact_111 rfl rfl ?_
                  refine r_iload_n 113 dX2_readFact_112 rfl rfl ?_
                  refine r_iload_n 114 dX2_readFact_113 rfl rfl ?_
                  refine r_iconst 115 dX2_readFact_114 rfl (InR_of rfl) ?_
                  refine r_iadd 116 dX2_readFact_115 rfl o_15 ?_
                  refine r_iload_n 117 dX2_readFact_116 rfl rfl ?_
                  obtain ⟨M_16, hc_17, h⟩ := h
                  refine v_0 (ci := 2) (C := (RX2, TX2, 10)) [vI r_3, vI (x1 + 1), vI x2] [] 120 dX2_readFact_117 rfl rfl rfl rfl rfl mo_X2_readNested ml_2_94 rfl rfl hc_17 ?_
                  refine r_goto 128 dX2_readFact_120 rfl ?_
                  exact r_vret dX2_readFact_128 rfl h.1 h.2
                · have h := h.2 (c)
                  refine r_aload_n 106 dX2_readFact_105 rfl rfl ?_
                  refine r_iconst 107 dX2_readFact_106 rfl (InR_of rfl) ?_
                  obtain ⟨M_18, hc_19, h⟩ := h
                  refine v_0 (ci := 2) (C := (RX2, TX2, 10)) [vI 2] [] 110 dX2_readFact_107 rfl rfl rfl rfl rfl mo_X2_fail ml_2_61 rfl rfl hc_19 ?_
                  exact r_vret dX2_readFact_110 rfl h.1 h.2
          · have h := h.2 (Decidable.not_not.mp c)
            refine r_aload_n 77 dX2_readFact_76 rfl rfl ?_
            obtain ⟨M_20, hc_21, h⟩ := h
            refine v_0 (ci := 2) (C := (RX2, TX2, 10)) [] [] 80 dX2_readFact_77 rfl rfl rfl rfl rfl mo_X2_countFact ml_2_88 rfl rfl hc_21 ?_
            refine r_aload_n 81 dX2_readFact_80 rfl rfl ?_
            obtain ⟨M_22, hc_23, h⟩ := h
            refine v_0 (ci := 2) (C := (RX2, TX2, 10)) [] [] 84 dX2_readFact_81 rfl rfl rfl rfl rfl mo_X2_readPlace ml_2_91 rfl rfl hc_23 ?_
            refine r_goto 128 dX2_readFact_84 rfl ?_
            exact r_vret dX2_readFact_128 rfl h.1 h.2
        · have h := h.2 (c)
          refine r_iload_n 44 dX2_readFact_43 rfl rfl ?_
          refine r_iconst 45 dX2_readFact_44 rfl (InR_of rfl) ?_
          refine r_icmp_lt 48 54 dX2_readFact_45 rfl rfl (fun c => ?_) (fun c => ?_)
          · have h := h.1 (c)
            obtain ⟨o_24, h⟩ := h
            refine r_aload_n 55 dX2_readFact_54 rfl rfl ?_
            refine r_iload_n 56 dX2_readFact_55 rfl rfl ?_
            refine r_iload_n 57 dX2_readFact_56 rfl rfl ?_
            refine r_iconst 58 dX2_readFact_57 rfl (InR_of rfl) ?_
            refine r_iadd 59 dX2_readFact_58 rfl o_24 ?_
            obtain ⟨M_25, hc_26, h⟩ := h
            refine v_0 (ci := 2) (C := (RX2, TX2, 10)) [vI x1, vI (x2 + 1)] [] 62 dX2_readFact_59 rfl rfl rfl rfl rfl mo_X2_readFact ml_2_85 rfl rfl hc_26 ?_
            refine r_aload_n 63 dX2_readFact_62 rfl rfl ?_
            refine r_iload_n 64 dX2_readFact_63 rfl rfl ?_
            obtain ⟨M_27, hc_28, h⟩ := h
            refine v_0 (ci := 2) (C := (RX2, TX2, 10)) [vI r_3] [] 67 dX2_readFact_64 rfl rfl rfl rfl rfl mo_X2_put ml_2_82 rfl rfl hc_28 ?_
            refine r_goto 128 dX2_readFact_67 rfl ?_
            exact r_vret dX2_readFact_128 rfl h.1 h.2
          · have h := h.2 (c)
            refine r_aload_n 49 dX2_readFact_48 rfl rfl ?_
            refine r_iconst 50 dX2_readFact_49 rfl (InR_of rfl) ?_
            obtain ⟨M_29, hc_30, h⟩ := h
            refine v_0 (ci := 2) (C := (RX2, TX2, 10)) [vI 2] [] 53 dX2_readFact_50 rfl rfl rfl rfl rfl mo_X2_fail ml_2_61 rfl rfl hc_30 ?_
            exact r_vret dX2_readFact_53 rfl h.1 h.2
      · have h := h.2 (Decidable.not_not.mp c)
        refine r_aload_n 26 dX2_readFact_25 rfl rfl ?_
        obtain ⟨M_31, hc_32, h⟩ := h
        refine v_0 (ci := 2) (C := (RX2, TX2, 10)) [] [] 29 dX2_readFact_26 rfl rfl rfl rfl rfl mo_X2_countFact ml_2_88 rfl rfl hc_32 ?_
        refine r_aload_n 30 dX2_readFact_29 rfl rfl ?_
        refine r_iload_n 31 dX2_readFact_30 rfl rfl ?_
        obtain ⟨M_33, hc_34, h⟩ := h
        refine v_0 (ci := 2) (C := (RX2, TX2, 10)) [vI r_3] [] 34 dX2_readFact_31 rfl rfl rfl rfl rfl mo_X2_put ml_2_82 rfl rfl hc_34 ?_
        refine r_goto 128 dX2_readFact_34 rfl ?_
        exact r_vret dX2_readFact_128 rfl h.1 h.2
  · have h := h.2 (c)
    exact r_vret dX2_readFact_7 rfl h.1 h.2

set_option maxRecDepth 4000 in
theorem xX2_readNested_0 {l : Launch} {G : Gt} {d : Nat} {M M' : Mem} {r : Option Vl} {x1 : Int} {x2 : Int} {x3 : Int} (h : 
    (¬ (x1 = 25) → ∃ (M_1 : Mem), Cl l G d mX2_readTest [vR (some (12, 0)), vI x2, vI x3] M none M_1 ∧ ((¬ ((M_1.1 12 0 4) = 0) → r = none ∧ M' = M_1) ∧ ((M_1.1 12 0 4) = 0 → ∃ (r_5 : Int) (M_3 : Mem), Cl l G d mX2_look [vR (some (12, 0))] M_1 (some (vI r_5)) M_3 ∧ ((r_5 = 29 → r = none ∧ M' = M_3) ∧ (¬ (r_5 = 29) → ∃ (M_6 : Mem), Cl l G d mX2_fail [vR (some (12, 0)), vI 0] M_3 none M_6 ∧ r = none ∧ M' = M_6))))) ∧ (x1 = 25 → ∃ (M_8 : Mem), Cl l G d mX2_readFact [vR (some (12, 0)), vI x2, vI x3] M none M_8 ∧ (∃ (M_10 : Mem), Cl l G d mX2_put [vR (some (12, 0)), vI 25] M_8 none M_10 ∧ r = none ∧ M' = M_10))) : Cl l G (d + 1) mX2_readNested [vR (some (12, 0)), vI x1, vI x2, vI x3] M r M' := by
  show Ex l G (d + 1) mX2_readNested 0 [some (vR (some (12, 0))), some (vI x1), some (vI x2), some (vI x3)] [] M r M'
  refine r_iload_n 1 dX2_readNested_0 rfl rfl ?_
  refine r_bipush 3 dX2_readNested_1 rfl rfl ?_
  refine r_icmp_ne 6 19 dX2_readNested_3 rfl rfl (fun c => ?_) (fun c => ?_)
  · have h := h.1 (c)
    refine r_aload_n 20 dX2_readNested_19 rfl rfl ?_
    refine r_iload_n 21 dX2_readNested_20 rfl rfl ?_
    refine r_iload_n 22 dX2_readNested_21 rfl rfl ?_
    obtain ⟨M_1, hc_2, h⟩ := h
    refine v_0 (ci := 2) (C := (RX2, TX2, 10)) [vI x2, vI x3] [] 25 dX2_readNested_22 rfl rfl rfl rfl rfl mo_X2_readTest ml_2_50 rfl rfl hc_2 ?_
    refine r_aload_n 26 dX2_readNested_25 rfl rfl ?_
    refine g_I 29 dX2_readNested_26 rfl rfl rfl fi_2_31 rfl ?_
    refine r_if_ne 32 46 dX2_readNested_29 rfl rfl (fun c => ?_) (fun c => ?_)
    · have h := h.1 (c)
      exact r_vret dX2_readNested_46 rfl h.1 h.2
    · have h := h.2 (Decidable.not_not.mp c)
      refine r_aload_n 33 dX2_readNested_32 rfl rfl ?_
      obtain ⟨r_5, M_3, hc_4, h⟩ := h
      refine v_1 (ci := 2) (C := (RX2, TX2, 10)) [] [] 36 dX2_readNested_33 rfl rfl rfl rfl rfl mo_X2_look ml_2_54 rfl rfl hc_4 ?_
      refine r_bipush 38 dX2_readNested_36 rfl rfl ?_
      refine r_icmp_eq 41 46 dX2_readNested_38 rfl rfl (fun c => ?_) (fun c => ?_)
      · have h := h.1 (c)
        exact r_vret dX2_readNested_46 rfl h.1 h.2
      · have h := h.2 (c)
        refine r_aload_n 42 dX2_readNested_41 rfl rfl ?_
        refine r_iconst 43 dX2_readNested_42 rfl (InR_of rfl) ?_
        obtain ⟨M_6, hc_7, h⟩ := h
        refine v_0 (ci := 2) (C := (RX2, TX2, 10)) [vI 0] [] 46 dX2_readNested_43 rfl rfl rfl rfl rfl mo_X2_fail ml_2_61 rfl rfl hc_7 ?_
        exact r_vret dX2_readNested_46 rfl h.1 h.2
  · have h := h.2 (Decidable.not_not.mp c)
    refine r_aload_n 7 dX2_readNested_6 rfl rfl ?_
    refine r_iload_n 8 dX2_readNested_7 rfl rfl ?_
    refine r_iload_n 9 dX2_readNested_8 rfl rfl ?_
    obtain ⟨M_8, hc_9, h⟩ := h
    refine v_0 (ci := 2) (C := (RX2, TX2, 10)) [vI x2, vI x3] [] 12 dX2_readNested_9 rfl rfl rfl rfl rfl mo_X2_readFact ml_2_85 rfl rfl hc_9 ?_
    refine r_aload_n 13 dX2_readNested_12 rfl rfl ?_
    refine r_bipush 15 dX2_readNested_13 rfl rfl ?_
    obtain ⟨M_10, hc_11, h⟩ := h
    refine v_0 (ci := 2) (C := (RX2, TX2, 10)) [vI 25] [] 18 dX2_readNested_15 rfl rfl rfl rfl rfl mo_X2_put ml_2_82 rfl rfl hc_11 ?_
    exact r_vret dX2_readNested_18 rfl h.1 h.2

theorem lk_b (h : p < n ∧ t p = 91) : lkS t n p = 28 ∧ lkE t n p = p + 1 := by
  have c1 : ¬ n ≤ p := by omega
  have c2 : ¬ (97 ≤ t p ∧ t p ≤ 122) := by omega
  exact ⟨by unfold lkS; rw [if_neg c1, if_pos c2, if_pos h.2], by unfold lkE; rw [if_neg c1, if_pos c2]⟩
theorem lk_c (h : p < n ∧ t p = 93) : lkS t n p = 29 ∧ lkE t n p = p + 1 := by
  have c1 : ¬ n ≤ p := by omega
  have c2 : ¬ (97 ≤ t p ∧ t p ≤ 122) := by omega
  have c3 : ¬ t p = 91 := by omega
  exact ⟨by unfold lkS; rw [if_neg c1, if_pos c2, if_neg c3, if_pos h.2], by unfold lkE; rw [if_neg c1, if_pos c2]⟩
theorem lk_l (hp : p ≤ n) (h : we t n p = p + 1) : lkS t n p = ltS (t p) ∧ lkE t n p = p + 1 := by
  have a := we_1 hp h
  have c1 : ¬ n ≤ p := by omega
  have c2 : ¬ ¬ (97 ≤ t p ∧ t p ≤ 122) := fun x => x a.2
  exact ⟨by unfold lkS; rw [if_neg c1, if_neg c2, if_pos h], by unfold lkE; rw [if_neg c1, if_neg c2]; exact h⟩
/-- NOT and a bracket -/
theorem nest_c {k : Int} (h7 : RFact l G (x + 7) t n (dp + 1) ti) (h9 : RFact l G (x + 9) t n (dp + 1) ti) (hk : k = 3 ∨ k = 7) (hS : Sh M.2.1) (hX : M.2.1 12 0 0 = some (16, 0)) (hStr : cCnt M.2.2 1 = 28) (hi : InvD n c) (hm : cM c = 0) (he : cE c = 0) (hs : cS c = (k, 0) :: S0) (hdp : dpN S0 = dp) (hti : tiN S0 = ti) (hW : Wm t n c [] M.1) : ∃ I' c', Cl l G (x + 10) mX2_readNested [vR (some (12, 0)), vI (if k = 3 then 25 else 28), vI ((dp : Int) + 1), vI (ti : Int)] M none (I', M.2.1, M.2.2) ∧ frY M.1 I' ∧ Rn t n c c' ∧ ((cM c' = 1 ∧ cE c' = 0 ∧ cS c' = S0 ∧ cP c < cP c' ∧ Wm t n c' [] I') ∨ FlC t n c' I') := by
  have ed : dpN (cS c) = dp + 1 := by rw [hs, dp_c, if_pos (by dsimp only; omega)]; omega
  have et : tiN (cS c) = ti := by rw [hs, ti_c, if_neg (by dsimp only; omega)]; omega
  have ec : (dp : Int) + 1 = ((dp + 1 : Nat) : Int) := by omega
  rw [ec]
  rcases hk with rfl | rfl
  · rw [if_pos rfl]
    obtain ⟨I1, c1, j1, j2, j3, j4⟩ := h9 hS hX hStr hi hm he ed et hW
    have hi1 := InvD_run j3 hi
    rcases j4 with ⟨m4, e4, s4, p4, st4, sp4, hc4, hsp4, hb4⟩ | fl
    · obtain ⟨q1, q2, -⟩ := hi1.1 e4
      have hn := hc4.1.2.1
      rw [hs] at s4
      rw [List.append_nil] at hc4
      have hl : (cO c1).length < 400 := by rw [s4] at q2; simp only [List.length_cons] at q2; omega
      obtain ⟨I2, v1, v2, v3⟩ := KX2_put (l := l) (G := G) (d := x + 9) (M := (I1, M.2.1, M.2.2)) (x1 := 25) (x := (3, 0)) hS hc4 hl (by decide)
      have run : Rn t n c1 (1, cP c1, cE c1, cO c1 ++ [(3, 0)], cC c1, S0) := by
        refine Rn.one ((step_1 m4).trans ?_)
        unfold stC
        rw [s4]
        show (if (3 : Int) = 3 ∨ (3 : Int) = 4 then (cM c1, cP c1, cE c1, cO c1 ++ [(3, 0)], cC c1, S0) else _) = _
        rw [if_pos (.inl rfl), m4]
      exact ⟨I2, _, xX2_readNested_0 ⟨fun c => absurd rfl c, fun _ => ⟨_, j1, _, v1, rfl, rfl⟩⟩, j2.tr v3, j3.tr run, .inl ⟨rfl, e4, rfl, p4, st4, sp4, by show Cg t n _ _ 0 (cC c1) ((cO c1 ++ [(3, 0)]) ++ []) I2; rw [List.append_nil]; exact v2, hsp4, hb4⟩⟩
    · have fl' := fl
      obtain ⟨m4, e4, st4, sp4, fa4, o4, hc4⟩ := fl
      have pn := put_no (l := l) (G := G) (d := x + 9) (M := (I1, M.2.1, M.2.2)) (x1 := 25) hS hc4 e4
      exact ⟨I1, c1, xX2_readNested_0 ⟨fun c => absurd rfl c, fun _ => ⟨_, j1, _, pn, rfl, rfl⟩⟩, j2, j3, .inr fl'⟩
  · rw [if_neg (show ¬ (7 : Int) = 3 by omega)]
    obtain ⟨I1, c1, j1, j2, j3, j4⟩ := KX2_readTest (l := l) (G := G) (d := x + 1) h7 (.inr ⟨(7, 0), S0, hs, rfl⟩) ed et hS hX hStr hi hm he hW
    have hi1 := InvD_run j3 hi
    rcases j4 with ⟨m4, e4, p4, ⟨n3, n4⟩, w, gO, gS, st4, sp4, hc4, hsp4, hb4⟩ | fl
    · obtain ⟨q1, q2, -⟩ := hi1.1 e4
      have hn := hc4.1.2.1
      obtain ⟨b1, b2⟩ := rn_ge (fun i => decide (t i = 32)) n (cP c1) q1
      have b1 : cP c1 ≤ bl t n (cP c1) := b1
      have b2 : bl t n (cP c1) ≤ n := b2
      have h4 : I1 12 0 4 = 0 := hc4.2.2.2.1
      rw [hs] at gS
      obtain ⟨I2, k1, k2, k3⟩ := look_g (l := l) (G := G) (d := x + 3) (M := (I1, M.2.1, M.2.2)) hX hStr hc4 hsp4
      rw [hb4] at k1 k2
      by_cases a : bl t n (cP c1) < n ∧ t (bl t n (cP c1)) = 93
      · obtain ⟨l1, l2⟩ := lk_c a
        rw [l2] at k2
        have run : Rn t n c1 (1, bl t n (cP c1) + 1, 0, cO c1 ++ w, cC c1, S0) := by
          refine Rn.one ((step_2 m4).trans ?_)
          unfold stF
          rw [if_pos a, gS, gO, e4]
        exact ⟨I2, _, xX2_readNested_0 ⟨fun _ => ⟨_, j1, fun c => absurd h4 c, fun _ => ⟨_, _, k1, fun _ => ⟨rfl, rfl⟩, fun c => absurd l1 c⟩⟩, fun c => by omega⟩, j2.tr k3, j3.tr run, .inl ⟨rfl, rfl, rfl, by show cP c < bl t n (cP c1) + 1; omega, bl t n (cP c1), bl t n (cP c1) + 1, by show Cg t n _ _ 0 (cC c1) ((cO c1 ++ w) ++ []) I2; rw [List.append_nil]; exact k2, by omega, rfl⟩⟩
      · have l1 : ¬ lkS t n (bl t n (cP c1)) = 29 := by
          intro h
          rcases lk_sp t n _ b2 with g | ⟨g, -, -⟩ | ⟨-, g1, g2⟩ | ⟨g1, g2, g⟩ | ⟨g1, g2, g⟩ | ⟨j, hj, g1, g⟩
          · omega
          · omega
          · exact a ⟨g1, g2⟩
          · have := we_1 b2 g1; omega
          · have := we_1 b2 g1; omega
          · have := cdW_v j hj; omega
        obtain ⟨I3, v1, v2, v3⟩ := KX2_fail (l := l) (G := G) (d := x + 9) (M := (I2, M.2.1, M.2.2)) (x1 := 0) k2 (by omega) (by omega)
        rw [if_pos rfl] at v2
        have run : Rn t n c1 (flC c1 (bl t n (cP c1)) 0) := by
          refine Rn.one ((step_2 m4).trans ?_)
          unfold stF
          rw [if_neg a]
          by_cases a2 : n ≤ bl t n (cP c1)
          · rw [if_pos a2, if_neg (by rw [gS]; intro h; cases h)]
          · rw [if_neg a2, if_neg n3, if_neg n4]
        exact ⟨I3, _, xX2_readNested_0 ⟨fun _ => ⟨_, j1, fun c => absurd h4 c, fun _ => ⟨_, _, k1, fun c => absurd c l1, fun _ => ⟨_, v1, rfl, rfl⟩⟩⟩, fun c => by omega⟩, (j2.tr k3).tr v3, j3.tr run, .inr ⟨rfl, by show ¬ (1 + 8 * ((bl t n (cP c1) : Nat) : Int) + ((0 : Nat) : Int)) = 0; omega, _, _, _, _, v2⟩⟩
    · have fl' := fl
      obtain ⟨m4, e4, st4, sp4, fa4, o4, hc4⟩ := fl
      have h44 : ¬ I1 12 0 4 = 0 := by rw [hc4.2.2.2.1]; exact e4
      exact ⟨I1, c1, xX2_readNested_0 ⟨fun _ => ⟨_, j1, fun _ => ⟨rfl, rfl⟩, fun c => absurd c h44⟩, fun c => by omega⟩, j2, j3, .inr fl'⟩
end CW7
