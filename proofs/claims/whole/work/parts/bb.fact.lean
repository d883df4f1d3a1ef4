/-! A FACT on the reference: atPlace, fact -/
section RW4
variable {l : Launch} {G : Gt} {d : Nat} {M : Mem} {r : Option Vl} {M' : Mem} {t : Tp} {n sl q : Nat} {e dp ti cn : Int} {o s : List (Int × Int)} {I I' I'' : IM}
set_option maxRecDepth 4000 in
theorem xX12_atPlace_0 {l : Launch} {G : Gt} {d : Nat} {M M' : Mem} {r : Option Vl}  (h : 
    (InR ((M.1 3 0 30) + 2)) ∧ (∃ (M_2 : Mem), Cl l G d mX12_blanks [vR (some (3, 0))] ((upI M.1 3 0 30 ((M.1 3 0 30) + 2)), M.2.1, M.2.2) none M_2 ∧ Ex l G (d + 1) mX12_atPlace 23 [some (vR (some (3, 0))), some (vI (M_2.1 3 0 30)), some (vI 0), some (vI 0)] [] M_2 r M')) : Cl l G (d + 1) mX12_atPlace [vR (some (3, 0))] M r M' := by
  show Ex l G (d + 1) mX12_atPlace 0 [some (vR (some (3, 0))), none, none, none] [] M r M'
  obtain ⟨o_1, h⟩ := h
  refine r_aload_n 1 dX12_atPlace_0 rfl rfl ?_
  refine r_dup 2 dX12_atPlace_1 rfl rfl ?_
  refine g_I 5 dX12_atPlace_2 rfl rfl rfl fi_12_218 rfl ?_
  refine r_iconst 6 dX12_atPlace_5 rfl (InR_of rfl) ?_
  refine r_iadd 7 dX12_atPlace_6 rfl o_1 ?_
  refine p_I 10 dX12_atPlace_7 rfl rfl rfl rfl pf_12_218 (.inl rfl) rfl ?_
  refine r_aload_n 11 dX12_atPlace_10 rfl rfl ?_
  obtain ⟨M_2, hc_3, h⟩ := h
  refine v_0 (ci := 12) (C := (RX12, TX12, 68)) [] [] 14 dX12_atPlace_11 rfl rfl rfl rfl rfl mo_X12_blanks ml_12_256 rfl rfl hc_3 ?_
  refine r_aload_n 15 dX12_atPlace_14 rfl rfl ?_
  refine g_I 18 dX12_atPlace_15 rfl rfl rfl fi_12_218 rfl ?_
  refine r_istore_n (ls' := [some (vR (some (3, 0))), some (vI (M_2.1 3 0 30)), none, none]) 19 dX12_atPlace_18 rfl rfl rfl rfl ?_
  refine r_iconst 20 dX12_atPlace_19 rfl (InR_of rfl) ?_
  refine r_istore_n (ls' := [some (vR (some (3, 0))), some (vI (M_2.1 3 0 30)), some (vI 0), none]) 21 dX12_atPlace_20 rfl rfl rfl rfl ?_
  refine r_iconst 22 dX12_atPlace_21 rfl (InR_of rfl) ?_
  refine r_istore_n (ls' := [some (vR (some (3, 0))), some (vI (M_2.1 3 0 30)), some (vI 0), some (vI 0)]) 23 dX12_atPlace_22 rfl rfl rfl rfl ?_
  exact h
set_option maxRecDepth 4000 in
theorem xX12_atPlace_23 {l : Launch} {G : Gt} {d : Nat} {M M' : Mem} {r : Option Vl} {x1 : Int} {x2 : Int} {x3 : Int} (hS : Sh M.2.1) (h : 
    ((M.1 3 0 29) ≤ (M.1 3 0 30) → Ex l G (d + 1) mX12_atPlace 93 [some (vR (some (3, 0))), some (vI x1), some (vI x2), some (vI x3)] [] M r M') ∧ (¬ ((M.1 3 0 29) ≤ (M.1 3 0 30)) → ((0 ≤ (M.1 3 0 30) ∧ (M.1 3 0 30) < 400)) ∧ ((¬ (48 ≤ (M.1 76 0 (M.1 3 0 30).toNat) ∧ (M.1 76 0 (M.1 3 0 30).toNat) ≤ 57) → Ex l G (d + 1) mX12_atPlace 93 [some (vR (some (3, 0))), some (vI x1), some (vI x2), some (vI x3)] [] M r M') ∧ (48 ≤ (M.1 76 0 (M.1 3 0 30).toNat) ∧ (M.1 76 0 (M.1 3 0 30).toNat) ≤ 57 → ((x2 = 0 → ((0 ≤ (M.1 3 0 30) ∧ (M.1 3 0 30) < 400) ∧ InR ((M.1 76 0 (M.1 3 0 30).toNat) - 48)))) ∧ (InR (x2 + 1) ∧ InR ((M.1 3 0 30) + 1)) ∧ Ex l G (d + 1) mX12_atPlace 23 [some (vR (some (3, 0))), some (vI x1), some (vI (x2 + 1)), some (vI (if x2 = 0 then ((M.1 76 0 (M.1 3 0 30).toNat) - 48) else x3 : Int))] [] ((upI M.1 3 0 30 ((M.1 3 0 30) + 1)), M.2.1, M.2.2) r M')))) : Ex l G (d + 1) mX12_atPlace 23 [some (vR (some (3, 0))), some (vI x1), some (vI x2), some (vI x3)] [] M r M' := by
  refine r_aload_n 24 dX12_atPlace_23 rfl rfl ?_
  refine g_I 27 dX12_atPlace_24 rfl rfl rfl fi_12_218 rfl ?_
  refine r_aload_n 28 dX12_atPlace_27 rfl rfl ?_
  refine g_I 31 dX12_atPlace_28 rfl rfl rfl fi_12_209 rfl ?_
  refine r_icmp_ge 34 93 dX12_atPlace_31 rfl rfl (fun c => ?_) (fun c => ?_)
  · have h := h.1 (c)
    exact h
  · have h := h.2 (c)
    obtain ⟨o_1, h⟩ := h
    refine r_aload_n 35 dX12_atPlace_34 rfl rfl ?_
    refine g_R 38 dX12_atPlace_35 rfl rfl rfl fr_12_94 (sh_12_39 hS) ?_
    refine r_aload_n 39 dX12_atPlace_38 rfl rfl ?_
    refine g_I 42 dX12_atPlace_39 rfl rfl rfl fi_12_218 rfl ?_
    refine a_B 400 43 dX12_atPlace_42 rfl rfl rfl rfl o_1 rfl ?_
    refine r_i2l 44 dX12_atPlace_43 rfl ?_
    refine r_ldc2 (n := 48) 47 dX12_atPlace_44 rfl (inT6 (List.mem_of_getElem? (i := 239) rfl) rfl) (by decide +kernel) (InR_of rfl) ?_
    refine r_ldc2 (n := 57) 50 dX12_atPlace_47 rfl (inT7 (List.mem_of_getElem? (i := 0) rfl) rfl) (by decide +kernel) (InR_of rfl) ?_
    refine c_1 [vL (M.1 76 0 (M.1 3 0 30).toNat), vL 48, vL 57] [] 53 dX12_atPlace_50 rfl rfl mo_X12_in ml_12_154 rfl rfl (KX12_in) ?_
    refine r_if_eq 56 93 dX12_atPlace_53 rfl rfl (fun c => ?_) (fun c => ?_)
    · have h := h.1 (b2_0.mp c)
      exact h
    · have h := h.2 (b2_1.mp c)
      refine r_iload_n 57 dX12_atPlace_56 rfl rfl ?_
      obtain ⟨h0, h⟩ := h
      have hJ_2 : Ex l G (d + 1) mX12_atPlace 76 [some (vR (some (3, 0))), some (vI x1), some (vI x2), some (vI x3)] [vI (if x2 = 0 then ((M.1 76 0 (M.1 3 0 30).toNat) - 48) else x3 : Int)] M r M' := by
        obtain ⟨⟨o_6, o_7⟩, h⟩ := h
        refine r_istore_n (ls' := [some (vR (some (3, 0))), some (vI x1), some (vI x2), some (vI (if x2 = 0 then ((M.1 76 0 (M.1 3 0 30).toNat) - 48) else x3 : Int))]) 77 dX12_atPlace_76 rfl rfl rfl rfl ?_
        refine r_iinc (ls' := [some (vR (some (3, 0))), some (vI x1), some (vI (x2 + 1)), some (vI (if x2 = 0 then ((M.1 76 0 (M.1 3 0 30).toNat) - 48) else x3 : Int))]) 80 dX12_atPlace_77 rfl rfl rfl rfl o_6 rfl ?_
        refine r_aload_n 81 dX12_atPlace_80 rfl rfl ?_
        refine r_dup 82 dX12_atPlace_81 rfl rfl ?_
        refine g_I 85 dX12_atPlace_82 rfl rfl rfl fi_12_218 rfl ?_
        refine r_iconst 86 dX12_atPlace_85 rfl (InR_of rfl) ?_
        refine r_iadd 87 dX12_atPlace_86 rfl o_7 ?_
        refine p_I 90 dX12_atPlace_87 rfl rfl rfl rfl pf_12_218 (.inl rfl) rfl ?_
        refine r_goto 23 dX12_atPlace_90 rfl ?_
        exact h
      have h := h0
      refine r_if_ne 60 75 dX12_atPlace_57 rfl rfl (fun c => ?_) (fun c => ?_)
      · have c_3 := c
        refine r_iload_n 76 dX12_atPlace_75 rfl rfl ?_
        exact (Ex.at hJ_2 rfl (show [vI x3] = [vI (if x2 = 0 then ((M.1 76 0 (M.1 3 0 30).toNat) - 48) else x3 : Int)] by simp only [if_neg c_3]) rfl)
      · have c_3 := Decidable.not_not.mp c
        have h := h c_3
        obtain ⟨o_4, o_5⟩ := h
        refine r_aload_n 61 dX12_atPlace_60 rfl rfl ?_
        refine g_R 64 dX12_atPlace_61 rfl rfl rfl fr_12_94 (sh_12_39 hS) ?_
        refine r_aload_n 65 dX12_atPlace_64 rfl rfl ?_
        refine g_I 68 dX12_atPlace_65 rfl rfl rfl fi_12_218 rfl ?_
        refine a_B 400 69 dX12_atPlace_68 rfl rfl rfl rfl o_4 rfl ?_
        refine r_bipush 71 dX12_atPlace_69 rfl rfl ?_
        refine r_isub 72 dX12_atPlace_71 rfl o_5 ?_
        refine r_goto 76 dX12_atPlace_72 rfl ?_
        exact (Ex.at hJ_2 rfl (show [vI ((M.1 76 0 (M.1 3 0 30).toNat) - 48)] = [vI (if x2 = 0 then ((M.1 76 0 (M.1 3 0 30).toNat) - 48) else x3 : Int)] by simp only [if_pos c_3]) rfl)
set_option maxRecDepth 4000 in
theorem xX12_atPlace_93 {l : Launch} {G : Gt} {d : Nat} {M M' : Mem} {r : Option Vl} {x1 : Int} {x2 : Int} {x3 : Int} (h : 
    (¬ (x2 = 0) → (1 < x2 → ∃ (M_1 : Mem), Cl l G d mX12_fails [vR (some (3, 0)), vI 1, vI x1] M none M_1 ∧ Ex l G (d + 1) mX12_atPlace 123 [some (vR (some (3, 0))), some (vI x1), some (vI x2), some (vI x3)] [] M_1 r M') ∧ (¬ (1 < x2) → (x3 < 8 → Ex l G (d + 1) mX12_atPlace 123 [some (vR (some (3, 0))), some (vI x1), some (vI x2), some (vI x3)] [] M r M') ∧ (¬ (x3 < 8) → ∃ (M_3 : Mem), Cl l G d mX12_fails [vR (some (3, 0)), vI 1, vI x1] M none M_3 ∧ Ex l G (d + 1) mX12_atPlace 123 [some (vR (some (3, 0))), some (vI x1), some (vI x2), some (vI x3)] [] M_3 r M'))) ∧ (x2 = 0 → ∃ (M_5 : Mem), Cl l G d mX12_fails [vR (some (3, 0)), vI 0, vI x1] M none M_5 ∧ Ex l G (d + 1) mX12_atPlace 123 [some (vR (some (3, 0))), some (vI x1), some (vI x2), some (vI x3)] [] M_5 r M')) : Ex l G (d + 1) mX12_atPlace 93 [some (vR (some (3, 0))), some (vI x1), some (vI x2), some (vI x3)] [] M r M' := by
  refine r_iload_n 94 dX12_atPlace_93 rfl rfl ?_
  refine r_if_ne 97 106 dX12_atPlace_94 rfl rfl (fun c => ?_) (fun c => ?_)
  · have h := h.1 (c)
    refine r_iload_n 107 dX12_atPlace_106 rfl rfl ?_
    refine r_iconst 108 dX12_atPlace_107 rfl (InR_of rfl) ?_
    refine r_icmp_gt 111 117 dX12_atPlace_108 rfl rfl (fun c => ?_) (fun c => ?_)
    · have h := h.1 (c)
      refine r_aload_n 118 dX12_atPlace_117 rfl rfl ?_
      refine r_iconst 119 dX12_atPlace_118 rfl (InR_of rfl) ?_
      refine r_iload_n 120 dX12_atPlace_119 rfl rfl ?_
      obtain ⟨M_1, hc_2, h⟩ := h
      refine v_0 (ci := 12) (C := (RX12, TX12, 68)) [vI 1, vI x1] [] 123 dX12_atPlace_120 rfl rfl rfl rfl rfl mo_X12_fails ml_12_253 rfl rfl hc_2 ?_
      exact h
    · have h := h.2 (c)
      refine r_iload_n 112 dX12_atPlace_111 rfl rfl ?_
      refine r_bipush 114 dX12_atPlace_112 rfl rfl ?_
      refine r_icmp_lt 117 123 dX12_atPlace_114 rfl rfl (fun c => ?_) (fun c => ?_)
      · have h := h.1 (c)
        exact h
      · have h := h.2 (c)
        refine r_aload_n 118 dX12_atPlace_117 rfl rfl ?_
        refine r_iconst 119 dX12_atPlace_118 rfl (InR_of rfl) ?_
        refine r_iload_n 120 dX12_atPlace_119 rfl rfl ?_
        obtain ⟨M_3, hc_4, h⟩ := h
        refine v_0 (ci := 12) (C := (RX12, TX12, 68)) [vI 1, vI x1] [] 123 dX12_atPlace_120 rfl rfl rfl rfl rfl mo_X12_fails ml_12_253 rfl rfl hc_4 ?_
        exact h
  · have h := h.2 (Decidable.not_not.mp c)
    refine r_aload_n 98 dX12_atPlace_97 rfl rfl ?_
    refine r_iconst 99 dX12_atPlace_98 rfl (InR_of rfl) ?_
    refine r_iload_n 100 dX12_atPlace_99 rfl rfl ?_
    obtain ⟨M_5, hc_6, h⟩ := h
    refine v_0 (ci := 12) (C := (RX12, TX12, 68)) [vI 0, vI x1] [] 103 dX12_atPlace_100 rfl rfl rfl rfl rfl mo_X12_fails ml_12_253 rfl rfl hc_6 ?_
    refine r_goto 123 dX12_atPlace_103 rfl ?_
    exact h
set_option maxRecDepth 4000 in
theorem xX12_atPlace_123 {l : Launch} {G : Gt} {d : Nat} {M M' : Mem} {r : Option Vl} {x1 : Int} {x2 : Int} {x3 : Int} (h : 
    ∃ (M_1 : Mem), Cl l G d mX12_emits [vR (some (3, 0)), vI 1, vI x3] M none M_1 ∧ r = none ∧ M' = M_1) : Ex l G (d + 1) mX12_atPlace 123 [some (vR (some (3, 0))), some (vI x1), some (vI x2), some (vI x3)] [] M r M' := by
  refine r_aload_n 124 dX12_atPlace_123 rfl rfl ?_
  refine r_iconst 125 dX12_atPlace_124 rfl (InR_of rfl) ?_
  refine r_iload_n 126 dX12_atPlace_125 rfl rfl ?_
  obtain ⟨M_1, hc_2, h⟩ := h
  refine v_0 (ci := 12) (C := (RX12, TX12, 68)) [vI 1, vI x3] [] 129 dX12_atPlace_126 rfl rfl rfl rfl rfl mo_X12_emits ml_12_263 rfl rfl hc_2 ?_
  exact r_vret dX12_atPlace_129 rfl h.1 h.2

set_option maxRecDepth 4000 in
theorem xX12_fact_0 {l : Launch} {G : Gt} {d : Nat} {M M' : Mem} {r : Option Vl}  (h : 
    ∃ (M_1 : Mem), Cl l G d mX12_blanks [vR (some (3, 0))] M none M_1 ∧ Sh M_1.2.1 ∧ (((¬ ((M_1.1 3 0 29) ≤ (M_1.1 3 0 30)) → ((0 ≤ (M_1.1 3 0 30) ∧ (M_1.1 3 0 30) < 400)))) ∧ Ex l G (d + 1) mX12_fact 35 [some (vR (some (3, 0))), some (vI (if (M_1.1 3 0 29) ≤ (M_1.1 3 0 30) then 0 else (if (M_1.1 76 0 (M_1.1 3 0 30).toNat) = 91 then 1 else 0 : Int) : Int)), none] [] M_1 r M')) : Cl l G (d + 1) mX12_fact [vR (some (3, 0))] M r M' := by
  show Ex l G (d + 1) mX12_fact 0 [some (vR (some (3, 0))), none, none] [] M r M'
  refine r_aload_n 1 dX12_fact_0 rfl rfl ?_
  obtain ⟨M_1, hc_2, hS, h⟩ := h
  refine v_0 (ci := 12) (C := (RX12, TX12, 68)) [] [] 4 dX12_fact_1 rfl rfl rfl rfl rfl mo_X12_blanks ml_12_256 rfl rfl hc_2 ?_
  refine r_aload_n 5 dX12_fact_4 rfl rfl ?_
  refine g_I 8 dX12_fact_5 rfl rfl rfl fi_12_218 rfl ?_
  refine r_aload_n 9 dX12_fact_8 rfl rfl ?_
  refine g_I 12 dX12_fact_9 rfl rfl rfl fi_12_209 rfl ?_
  obtain ⟨h0, h⟩ := h
  have hJ_3 : Ex l G (d + 1) mX12_fact 34 [some (vR (some (3, 0))), none, none] [vI (if (M_1.1 3 0 29) ≤ (M_1.1 3 0 30) then 0 else (if (M_1.1 76 0 (M_1.1 3 0 30).toNat) = 91 then 1 else 0 : Int) : Int)] M_1 r M' := by
    refine r_istore_n (ls' := [some (vR (some (3, 0))), some (vI (if (M_1.1 3 0 29) ≤ (M_1.1 3 0 30) then 0 else (if (M_1.1 76 0 (M_1.1 3 0 30).toNat) = 91 then 1 else 0 : Int) : Int)), none]) 35 dX12_fact_34 rfl rfl rfl rfl ?_
    exact h
  have h := h0
  refine r_icmp_ge 15 33 dX12_fact_12 rfl rfl (fun c => ?_) (fun c => ?_)
  · have c_4 := c
    refine r_iconst 34 dX12_fact_33 rfl (InR_of rfl) ?_
    exact (Ex.at hJ_3 rfl (show [vI 0] = [vI (if (M_1.1 3 0 29) ≤ (M_1.1 3 0 30) then 0 else (if (M_1.1 76 0 (M_1.1 3 0 30).toNat) = 91 then 1 else 0 : Int) : Int)] by simp only [if_pos c_4]) rfl)
  · have c_4 := c
    have h := h c_4
    have o_5 := h
    refine r_aload_n 16 dX12_fact_15 rfl rfl ?_
    refine g_R 19 dX12_fact_16 rfl rfl rfl fr_12_94 (sh_12_39 hS) ?_
    refine r_aload_n 20 dX12_fact_19 rfl rfl ?_
    refine g_I 23 dX12_fact_20 rfl rfl rfl fi_12_218 rfl ?_
    refine a_B 400 24 dX12_fact_23 rfl rfl rfl rfl o_5 rfl ?_
    refine r_bipush 26 dX12_fact_24 rfl rfl ?_
    refine r_icmp_ne 29 33 dX12_fact_26 rfl rfl (fun c => ?_) (fun c => ?_)
    · have c_6 := c
      refine r_iconst 34 dX12_fact_33 rfl (InR_of rfl) ?_
      exact (Ex.at hJ_3 rfl (show [vI 0] = [vI (if (M_1.1 3 0 29) ≤ (M_1.1 3 0 30) then 0 else (if (M_1.1 76 0 (M_1.1 3 0 30).toNat) = 91 then 1 else 0 : Int) : Int)] by simp only [if_neg c_4, if_neg c_6]) rfl)
    · have c_6 := Decidable.not_not.mp c
      refine r_iconst 30 dX12_fact_29 rfl (InR_of rfl) ?_
      refine r_goto 34 dX12_fact_30 rfl ?_
      exact (Ex.at hJ_3 rfl (show [vI 1] = [vI (if (M_1.1 3 0 29) ≤ (M_1.1 3 0 30) then 0 else (if (M_1.1 76 0 (M_1.1 3 0 30).toNat) = 91 then 1 else 0 : Int) : Int)] by simp only [if_neg c_4, if_pos c_6]) rfl)
set_option maxRecDepth 4000 in
theorem xX12_fact_35 {l : Launch} {G : Gt} {d : Nat} {M M' : Mem} {r : Option Vl} {x1 : Int} (hStr : cCnt M.2.2 1 = 28) (h : 
    (¬ (x1 = 0) → Ex l G (d + 1) mX12_fact 49 [some (vR (some (3, 0))), some (vI x1), none] [] M r M') ∧ (x1 = 0 → ∃ (r_3 : Int) (M_1 : Mem), Cl l G d mX12_isWord [vR (some (3, 0)), vR (some (1, 9))] M (some (vI r_3)) M_1 ∧ ((r_3 = 0 → Ex l G (d + 1) mX12_fact 112 [some (vR (some (3, 0))), some (vI x1), none] [] M_1 r M') ∧ (¬ (r_3 = 0) → Ex l G (d + 1) mX12_fact 49 [some (vR (some (3, 0))), some (vI x1), none] [] M_1 r M')))) : Ex l G (d + 1) mX12_fact 35 [some (vR (some (3, 0))), some (vI x1), none] [] M r M' := by
  refine r_iload_n 36 dX12_fact_35 rfl rfl ?_
  refine r_if_ne 39 49 dX12_fact_36 rfl rfl (fun c => ?_) (fun c => ?_)
  · have h := h.1 (c)
    exact h
  · have h := h.2 (Decidable.not_not.mp c)
    refine r_aload_n 40 dX12_fact_39 rfl rfl ?_
    refine r_ldcwS (j := 9) 43 dX12_fact_40 rfl ⟨rfl, rfl⟩ rfl hStr ?_
    obtain ⟨r_3, M_1, hc_2, h⟩ := h
    refine v_1 (ci := 12) (C := (RX12, TX12, 68)) [vR (some (1, 9))] [] 46 dX12_fact_43 rfl rfl rfl rfl rfl mo_X12_isWord ml_12_268 rfl rfl hc_2 ?_
    refine r_if_eq 49 112 dX12_fact_46 rfl rfl (fun c => ?_) (fun c => ?_)
    · have h := h.1 (c)
      exact h
    · have h := h.2 (c)
      exact h
set_option maxRecDepth 4000 in
theorem xX12_fact_49 {l : Launch} {G : Gt} {d : Nat} {M M' : Mem} {r : Option Vl} {x1 : Int} (h : 
    (¬ ((M.1 3 0 35) = 10) → Ex l G (d + 1) mX12_fact 67 [some (vR (some (3, 0))), some (vI x1), none] [] M r M') ∧ ((M.1 3 0 35) = 10 → ∃ (M_1 : Mem), Cl l G d mX12_fails [vR (some (3, 0)), vI 2, vI (M.1 3 0 30)] M none M_1 ∧ Ex l G (d + 1) mX12_fact 67 [some (vR (some (3, 0))), some (vI x1), none] [] M_1 r M')) : Ex l G (d + 1) mX12_fact 49 [some (vR (some (3, 0))), some (vI x1), none] [] M r M' := by
  refine r_aload_n 50 dX12_fact_49 rfl rfl ?_
  refine g_I 53 dX12_fact_50 rfl rfl rfl fi_12_272 rfl ?_
  refine r_bipush 55 dX12_fact_53 rfl rfl ?_
  refine r_icmp_ne 58 67 dX12_fact_55 rfl rfl (fun c => ?_) (fun c => ?_)
  · have h := h.1 (c)
    exact h
  · have h := h.2 (Decidable.not_not.mp c)
    refine r_aload_n 59 dX12_fact_58 rfl rfl ?_
    refine r_iconst 60 dX12_fact_59 rfl (InR_of rfl) ?_
    refine r_aload_n 61 dX12_fact_60 rfl rfl ?_
    refine g_I 64 dX12_fact_61 rfl rfl rfl fi_12_218 rfl ?_
    obtain ⟨M_1, hc_2, h⟩ := h
    refine v_0 (ci := 12) (C := (RX12, TX12, 68)) [vI 2, vI (M.1 3 0 30)] [] 67 dX12_fact_64 rfl rfl rfl rfl rfl mo_X12_fails ml_12_253 rfl rfl hc_2 ?_
    exact h
set_option maxRecDepth 4000 in
theorem xX12_fact_67 {l : Launch} {G : Gt} {d : Nat} {M M' : Mem} {r : Option Vl} {x1 : Int} (h : 
    (InR ((M.1 3 0 35) + 1)) ∧ (∃ (M_4 : Mem), Cl l G d mX12_opens [vR (some (3, 0)), vI (if x1 = 0 then 3 else 7 : Int), vI 0] ((upI M.1 3 0 35 ((M.1 3 0 35) + 1)), M.2.1, M.2.2) none M_4 ∧ (InR ((M_4.1 3 0 30) + (if x1 = 0 then 3 else 1 : Int))) ∧ r = some (vI 0) ∧ M' = ((upI M_4.1 3 0 30 ((M_4.1 3 0 30) + (if x1 = 0 then 3 else 1 : Int))), M_4.2.1, M_4.2.2))) : Ex l G (d + 1) mX12_fact 67 [some (vR (some (3, 0))), some (vI x1), none] [] M r M' := by
  obtain ⟨o_1, h⟩ := h
  refine r_aload_n 68 dX12_fact_67 rfl rfl ?_
  refine r_dup 69 dX12_fact_68 rfl rfl ?_
  refine g_I 72 dX12_fact_69 rfl rfl rfl fi_12_272 rfl ?_
  refine r_iconst 73 dX12_fact_72 rfl (InR_of rfl) ?_
  refine r_iadd 74 dX12_fact_73 rfl o_1 ?_
  refine p_I 77 dX12_fact_74 rfl rfl rfl rfl pf_12_272 (.inl rfl) rfl ?_
  refine r_aload_n 78 dX12_fact_77 rfl rfl ?_
  refine r_iload_n 79 dX12_fact_78 rfl rfl ?_
  have hJ_2 : Ex l G (d + 1) mX12_fact 88 [some (vR (some (3, 0))), some (vI x1), none] [vI (if x1 = 0 then 3 else 7 : Int), vR (some (3, 0))] ((upI M.1 3 0 35 ((M.1 3 0 35) + 1)), M.2.1, M.2.2) r M' := by
    refine r_iconst 89 dX12_fact_88 rfl (InR_of rfl) ?_
    obtain ⟨M_4, hc_5, h⟩ := h
    refine v_0 (ci := 12) (C := (RX12, TX12, 68)) [vI (if x1 = 0 then 3 else 7 : Int), vI 0] [] 92 dX12_fact_89 rfl rfl rfl rfl rfl mo_X12_opens ml_12_275 rfl rfl hc_5 ?_
    refine r_aload_n 93 dX12_fact_92 rfl rfl ?_
    refine r_dup 94 dX12_fact_93 rfl rfl ?_
    refine g_I 97 dX12_fact_94 rfl rfl rfl fi_12_218 rfl ?_
    refine r_iload_n 98 dX12_fact_97 rfl rfl ?_
    have hJ_6 : Ex l G (d + 1) mX12_fact 106 [some (vR (some (3, 0))), some (vI x1), none] [vI (if x1 = 0 then 3 else 1 : Int), vI (M_4.1 3 0 30), vR (some (3, 0))] M_4 r M' := by
      obtain ⟨o_8, h⟩ := h
      refine r_iadd 107 dX12_fact_106 rfl o_8 ?_
      refine p_I 110 dX12_fact_107 rfl rfl rfl rfl pf_12_218 (.inl rfl) rfl ?_
      refine r_iconst 111 dX12_fact_110 rfl (InR_of rfl) ?_
      exact r_iret dX12_fact_111 rfl (.inr ⟨rfl, (.inl rfl)⟩) h.1 h.2
    refine r_if_eq 101 105 dX12_fact_98 rfl rfl (fun c => ?_) (fun c => ?_)
    · have c_7 := c
      refine r_iconst 106 dX12_fact_105 rfl (InR_of rfl) ?_
      exact (Ex.at hJ_6 rfl (show [vI 3, vI (M_4.1 3 0 30), vR (some (3, 0))] = [vI (if x1 = 0 then 3 else 1 : Int), vI (M_4.1 3 0 30), vR (some (3, 0))] by simp only [if_pos c_7]) rfl)
    · have c_7 := c
      refine r_iconst 102 dX12_fact_101 rfl (InR_of rfl) ?_
      refine r_goto 106 dX12_fact_102 rfl ?_
      exact (Ex.at hJ_6 rfl (show [vI 1, vI (M_4.1 3 0 30), vR (some (3, 0))] = [vI (if x1 = 0 then 3 else 1 : Int), vI (M_4.1 3 0 30), vR (some (3, 0))] by simp only [if_neg c_7]) rfl)
  refine r_if_eq 82 87 dX12_fact_79 rfl rfl (fun c => ?_) (fun c => ?_)
  · have c_3 := c
    refine r_iconst 88 dX12_fact_87 rfl (InR_of rfl) ?_
    exact (Ex.at hJ_2 rfl (show [vI 3, vR (some (3, 0))] = [vI (if x1 = 0 then 3 else 7 : Int), vR (some (3, 0))] by simp only [if_pos c_3]) rfl)
  · have c_3 := c
    refine r_bipush 84 dX12_fact_82 rfl rfl ?_
    refine r_goto 88 dX12_fact_84 rfl ?_
    exact (Ex.at hJ_2 rfl (show [vI 7, vR (some (3, 0))] = [vI (if x1 = 0 then 3 else 7 : Int), vR (some (3, 0))] by simp only [if_neg c_3]) rfl)
set_option maxRecDepth 4000 in
theorem xX12_fact_112 {l : Launch} {G : Gt} {d : Nat} {M M' : Mem} {r : Option Vl} {x1 : Int} (h : 
    ∃ (r_3 : Int) (M_1 : Mem), Cl l G d mX12_wordLong [vR (some (3, 0))] M (some (vI r_3)) M_1 ∧ Sh M_1.2.1 ∧ (((r_3 = 1 → ((0 ≤ (M_1.1 3 0 30) ∧ (M_1.1 3 0 30) < 400)))) ∧ Ex l G (d + 1) mX12_fact 134 [some (vR (some (3, 0))), some (vI x1), some (vI (if r_3 = 1 then (M_1.1 76 0 (M_1.1 3 0 30).toNat) else 0 : Int))] [] M_1 r M')) : Ex l G (d + 1) mX12_fact 112 [some (vR (some (3, 0))), some (vI x1), none] [] M r M' := by
  refine r_aload_n 113 dX12_fact_112 rfl rfl ?_
  obtain ⟨r_3, M_1, hc_2, hS, h⟩ := h
  refine v_1 (ci := 12) (C := (RX12, TX12, 68)) [] [] 116 dX12_fact_113 rfl rfl rfl rfl rfl mo_X12_wordLong ml_12_228 rfl rfl hc_2 ?_
  refine r_iconst 117 dX12_fact_116 rfl (InR_of rfl) ?_
  obtain ⟨h0, h⟩ := h
  have hJ_4 : Ex l G (d + 1) mX12_fact 133 [some (vR (some (3, 0))), some (vI x1), none] [vI (if r_3 = 1 then (M_1.1 76 0 (M_1.1 3 0 30).toNat) else 0 : Int)] M_1 r M' := by
    refine r_istore_n (ls' := [some (vR (some (3, 0))), some (vI x1), some (vI (if r_3 = 1 then (M_1.1 76 0 (M_1.1 3 0 30).toNat) else 0 : Int))]) 134 dX12_fact_133 rfl rfl rfl rfl ?_
    exact h
  have h := h0
  refine r_icmp_ne 120 132 dX12_fact_117 rfl rfl (fun c => ?_) (fun c => ?_)
  · have c_5 := c
    refine r_iconst 133 dX12_fact_132 rfl (InR_of rfl) ?_
    exact (Ex.at hJ_4 rfl (show [vI 0] = [vI (if r_3 = 1 then (M_1.1 76 0 (M_1.1 3 0 30).toNat) else 0 : Int)] by simp only [if_neg c_5]) rfl)
  · have c_5 := Decidable.not_not.mp c
    have h := h c_5
    have o_6 := h
    refine r_aload_n 121 dX12_fact_120 rfl rfl ?_
    refine g_R 124 dX12_fact_121 rfl rfl rfl fr_12_94 (sh_12_39 hS) ?_
    refine r_aload_n 125 dX12_fact_124 rfl rfl ?_
    refine g_I 128 dX12_fact_125 rfl rfl rfl fi_12_218 rfl ?_
    refine a_B 400 129 dX12_fact_128 rfl rfl rfl rfl o_6 rfl ?_
    refine r_goto 133 dX12_fact_129 rfl ?_
    exact (Ex.at hJ_4 rfl (show [vI (M_1.1 76 0 (M_1.1 3 0 30).toNat)] = [vI (if r_3 = 1 then (M_1.1 76 0 (M_1.1 3 0 30).toNat) else 0 : Int)] by simp only [if_pos c_5]) rfl)
set_option maxRecDepth 4000 in
theorem xX12_fact_134 {l : Launch} {G : Gt} {d : Nat} {M M' : Mem} {r : Option Vl} {x1 : Int} {x2 : Int} (h : 
    (¬ (117 ≤ x2 ∧ x2 ≤ 122) → Ex l G (d + 1) mX12_fact 196 [some (vR (some (3, 0))), some (vI x1), some (vI x2)] [] M r M') ∧ (117 ≤ x2 ∧ x2 ≤ 122 → (¬ ((M.1 3 0 36) = 4) → (InR ((M.1 3 0 36) + 1) ∧ InR (x2 - 117)) ∧ (∃ (M_3 : Mem), Cl l G d mX12_opens [vR (some (3, 0)), vI 4, vI (x2 - 117)] ((upI M.1 3 0 36 ((M.1 3 0 36) + 1)), M.2.1, M.2.2) none M_3 ∧ (InR ((M_3.1 3 0 30) + 1)) ∧ r = some (vI 0) ∧ M' = ((upI M_3.1 3 0 30 ((M_3.1 3 0 30) + 1)), M_3.2.1, M_3.2.2))) ∧ ((M.1 3 0 36) = 4 → ∃ (M_6 : Mem), Cl l G d mX12_fails [vR (some (3, 0)), vI 2, vI (M.1 3 0 30)] M none M_6 ∧ (InR ((M_6.1 3 0 36) + 1) ∧ InR (x2 - 117)) ∧ (∃ (M_10 : Mem), Cl l G d mX12_opens [vR (some (3, 0)), vI 4, vI (x2 - 117)] ((upI M_6.1 3 0 36 ((M_6.1 3 0 36) + 1)), M_6.2.1, M_6.2.2) none M_10 ∧ (InR ((M_10.1 3 0 30) + 1)) ∧ r = some (vI 0) ∧ M' = ((upI M_10.1 3 0 30 ((M_10.1 3 0 30) + 1)), M_10.2.1, M_10.2.2))))) : Ex l G (d + 1) mX12_fact 134 [some (vR (some (3, 0))), some (vI x1), some (vI x2)] [] M r M' := by
  refine r_iload_n 135 dX12_fact_134 rfl rfl ?_
  refine r_i2l 136 dX12_fact_135 rfl ?_
  refine r_ldc2 (n := 117) 139 dX12_fact_136 rfl (inT6 (List.mem_of_getElem? (i := 223) rfl) rfl) (by decide +kernel) (InR_of rfl) ?_
  refine r_ldc2 (n := 122) 142 dX12_fact_139 rfl (inT6 (List.mem_of_getElem? (i := 206) rfl) rfl) (by decide +kernel) (InR_of rfl) ?_
  refine c_1 [vL x2, vL 117, vL 122] [] 145 dX12_fact_142 rfl rfl mo_X12_in ml_12_154 rfl rfl (KX12_in) ?_
  refine r_if_eq 148 196 dX12_fact_145 rfl rfl (fun c => ?_) (fun c => ?_)
  · have h := h.1 (b2_0.mp c)
    exact h
  · have h := h.2 (b2_1.mp c)
    refine r_aload_n 149 dX12_fact_148 rfl rfl ?_
    refine g_I 152 dX12_fact_149 rfl rfl rfl fi_12_280 rfl ?_
    refine r_iconst 153 dX12_fact_152 rfl (InR_of rfl) ?_
    refine r_icmp_ne 156 165 dX12_fact_153 rfl rfl (fun c => ?_) (fun c => ?_)
    · have h := h.1 (c)
      obtain ⟨⟨o_1, o_2⟩, h⟩ := h
      refine r_aload_n 166 dX12_fact_165 rfl rfl ?_
      refine r_dup 167 dX12_fact_166 rfl rfl ?_
      refine g_I 170 dX12_fact_167 rfl rfl rfl fi_12_280 rfl ?_
      refine r_iconst 171 dX12_fact_170 rfl (InR_of rfl) ?_
      refine r_iadd 172 dX12_fact_171 rfl o_1 ?_
      refine p_I 175 dX12_fact_172 rfl rfl rfl rfl pf_12_280 (.inl rfl) rfl ?_
      refine r_aload_n 176 dX12_fact_175 rfl rfl ?_
      refine r_iconst 177 dX12_fact_176 rfl (InR_of rfl) ?_
      refine r_iload_n 178 dX12_fact_177 rfl rfl ?_
      refine r_bipush 180 dX12_fact_178 rfl rfl ?_
      refine r_isub 181 dX12_fact_180 rfl o_2 ?_
      obtain ⟨M_3, hc_4, h⟩ := h
      refine v_0 (ci := 12) (C := (RX12, TX12, 68)) [vI 4, vI (x2 - 117)] [] 184 dX12_fact_181 rfl rfl rfl rfl rfl mo_X12_opens ml_12_275 rfl rfl hc_4 ?_
      obtain ⟨o_5, h⟩ := h
      refine r_aload_n 185 dX12_fact_184 rfl rfl ?_
      refine r_dup 186 dX12_fact_185 rfl rfl ?_
      refine g_I 189 dX12_fact_186 rfl rfl rfl fi_12_218 rfl ?_
      refine r_iconst 190 dX12_fact_189 rfl (InR_of rfl) ?_
      refine r_iadd 191 dX12_fact_190 rfl o_5 ?_
      refine p_I 194 dX12_fact_191 rfl rfl rfl rfl pf_12_218 (.inl rfl) rfl ?_
      refine r_iconst 195 dX12_fact_194 rfl (InR_of rfl) ?_
      exact r_iret dX12_fact_195 rfl (.inr ⟨rfl, (.inl rfl)⟩) h.1 h.2
    · have h := h.2 (Decidable.not_not.mp c)
      refine r_aload_n 157 dX12_fact_156 rfl rfl ?_
      refine r_iconst 158 dX12_fact_157 rfl (InR_of rfl) ?_
      refine r_aload_n 159 dX12_fact_158 rfl rfl ?_
      refine g_I 162 dX12_fact_159 rfl rfl rfl fi_12_218 rfl ?_
      obtain ⟨M_6, hc_7, h⟩ := h
      refine v_0 (ci := 12) (C := (RX12, TX12, 68)) [vI 2, vI (M.1 3 0 30)] [] 165 dX12_fact_162 rfl rfl rfl rfl rfl mo_X12_fails ml_12_253 rfl rfl hc_7 ?_
      obtain ⟨⟨o_8, o_9⟩, h⟩ := h
      refine r_aload_n 166 dX12_fact_165 rfl rfl ?_
      refine r_dup 167 dX12_fact_166 rfl rfl ?_
      refine g_I 170 dX12_fact_167 rfl rfl rfl fi_12_280 rfl ?_
      refine r_iconst 171 dX12_fact_170 rfl (InR_of rfl) ?_
      refine r_iadd 172 dX12_fact_171 rfl o_8 ?_
      refine p_I 175 dX12_fact_172 rfl rfl rfl rfl pf_12_280 (.inl rfl) rfl ?_
      refine r_aload_n 176 dX12_fact_175 rfl rfl ?_
      refine r_iconst 177 dX12_fact_176 rfl (InR_of rfl) ?_
      refine r_iload_n 178 dX12_fact_177 rfl rfl ?_
      refine r_bipush 180 dX12_fact_178 rfl rfl ?_
      refine r_isub 181 dX12_fact_180 rfl o_9 ?_
      obtain ⟨M_10, hc_11, h⟩ := h
      refine v_0 (ci := 12) (C := (RX12, TX12, 68)) [vI 4, vI (x2 - 117)] [] 184 dX12_fact_181 rfl rfl rfl rfl rfl mo_X12_opens ml_12_275 rfl rfl hc_11 ?_
      obtain ⟨o_12, h⟩ := h
      refine r_aload_n 185 dX12_fact_184 rfl rfl ?_
      refine r_dup 186 dX12_fact_185 rfl rfl ?_
      refine g_I 189 dX12_fact_186 rfl rfl rfl fi_12_218 rfl ?_
      refine r_iconst 190 dX12_fact_189 rfl (InR_of rfl) ?_
      refine r_iadd 191 dX12_fact_190 rfl o_12 ?_
      refine p_I 194 dX12_fact_191 rfl rfl rfl rfl pf_12_218 (.inl rfl) rfl ?_
      refine r_iconst 195 dX12_fact_194 rfl (InR_of rfl) ?_
      exact r_iret dX12_fact_195 rfl (.inr ⟨rfl, (.inl rfl)⟩) h.1 h.2
set_option maxRecDepth 4000 in
theorem xX12_fact_196 {l : Launch} {G : Gt} {d : Nat} {M M' : Mem} {r : Option Vl} {x1 : Int} {x2 : Int} (h : 
    (¬ (97 ≤ x2 ∧ x2 ≤ 106) → Ex l G (d + 1) mX12_fact 236 [some (vR (some (3, 0))), some (vI x1), some (vI x2)] [] M r M') ∧ (97 ≤ x2 ∧ x2 ≤ 106 → ∃ (M_1 : Mem), Cl l G d mX12_counts [vR (some (3, 0))] M none M_1 ∧ (InR (x2 - 97)) ∧ (∃ (M_4 : Mem), Cl l G d mX12_emits [vR (some (3, 0)), vI 0, vI (x2 - 97)] M_1 none M_4 ∧ (InR ((M_4.1 3 0 30) + 1)) ∧ Ex l G (d + 1) mX12_fact 306 [some (vR (some (3, 0))), some (vI x1), some (vI x2)] [] ((upI M_4.1 3 0 30 ((M_4.1 3 0 30) + 1)), M_4.2.1, M_4.2.2) r M'))) : Ex l G (d + 1) mX12_fact 196 [some (vR (some (3, 0))), some (vI x1), some (vI x2)] [] M r M' := by
  refine r_iload_n 197 dX12_fact_196 rfl rfl ?_
  refine r_i2l 198 dX12_fact_197 rfl ?_
  refine r_ldc2 (n := 97) 201 dX12_fact_198 rfl (inT6 (List.mem_of_getElem? (i := 205) rfl) rfl) (by decide +kernel) (InR_of rfl) ?_
  refine r_ldc2 (n := 106) 204 dX12_fact_201 rfl (inT6 (List.mem_of_getElem? (i := 224) rfl) rfl) (by decide +kernel) (InR_of rfl) ?_
  refine c_1 [vL x2, vL 97, vL 106] [] 207 dX12_fact_204 rfl rfl mo_X12_in ml_12_154 rfl rfl (KX12_in) ?_
  refine r_if_eq 210 236 dX12_fact_207 rfl rfl (fun c => ?_) (fun c => ?_)
  · have h := h.1 (b2_0.mp c)
    exact h
  · have h := h.2 (b2_1.mp c)
    refine r_aload_n 211 dX12_fact_210 rfl rfl ?_
    obtain ⟨M_1, hc_2, h⟩ := h
    refine v_0 (ci := 12) (C := (RX12, TX12, 68)) [] [] 214 dX12_fact_211 rfl rfl rfl rfl rfl mo_X12_counts ml_12_285 rfl rfl hc_2 ?_
    obtain ⟨o_3, h⟩ := h
    refine r_aload_n 215 dX12_fact_214 rfl rfl ?_
    refine r_iconst 216 dX12_fact_215 rfl (InR_of rfl) ?_
    refine r_iload_n 217 dX12_fact_216 rfl rfl ?_
    refine r_bipush 219 dX12_fact_217 rfl rfl ?_
    refine r_isub 220 dX12_fact_219 rfl o_3 ?_
    obtain ⟨M_4, hc_5, h⟩ := h
    refine v_0 (ci := 12) (C := (RX12, TX12, 68)) [vI 0, vI (x2 - 97)] [] 223 dX12_fact_220 rfl rfl rfl rfl rfl mo_X12_emits ml_12_263 rfl rfl hc_5 ?_
    obtain ⟨o_6, h⟩ := h
    refine r_aload_n 224 dX12_fact_223 rfl rfl ?_
    refine r_dup 225 dX12_fact_224 rfl rfl ?_
    refine g_I 228 dX12_fact_225 rfl rfl rfl fi_12_218 rfl ?_
    refine r_iconst 229 dX12_fact_228 rfl (InR_of rfl) ?_
    refine r_iadd 230 dX12_fact_229 rfl o_6 ?_
    refine p_I 233 dX12_fact_230 rfl rfl rfl rfl pf_12_218 (.inl rfl) rfl ?_
    refine r_goto 306 dX12_fact_233 rfl ?_
    exact h
set_option maxRecDepth 4000 in
theorem xX12_fact_236 {l : Launch} {G : Gt} {d : Nat} {M M' : Mem} {r : Option Vl} {x1 : Int} {x2 : Int} (hStr : cCnt M.2.2 1 = 28) (h : 
    ∃ (r_3 : Int) (M_1 : Mem), Cl l G d mX12_isWord [vR (some (3, 0)), vR (some (1, 10))] M (some (vI r_3)) M_1 ∧ ((r_3 = 0 → Ex l G (d + 1) mX12_fact 269 [some (vR (some (3, 0))), some (vI x1), some (vI x2)] [] M_1 r M') ∧ (¬ (r_3 = 0) → ∃ (M_4 : Mem), Cl l G d mX12_counts [vR (some (3, 0))] M_1 none M_4 ∧ (∃ (M_6 : Mem), Cl l G d mX12_emits [vR (some (3, 0)), vI 2, vI 0] M_4 none M_6 ∧ (InR ((M_6.1 3 0 30) + 2)) ∧ Ex l G (d + 1) mX12_fact 306 [some (vR (some (3, 0))), some (vI x1), some (vI x2)] [] ((upI M_6.1 3 0 30 ((M_6.1 3 0 30) + 2)), M_6.2.1, M_6.2.2) r M')))) : Ex l G (d + 1) mX12_fact 236 [some (vR (some (3, 0))), some (vI x1), some (vI x2)] [] M r M' := by
  refine r_aload_n 237 dX12_fact_236 rfl rfl ?_
  refine r_ldcwS (j := 10) 240 dX12_fact_237 rfl ⟨rfl, rfl⟩ rfl hStr ?_
  obtain ⟨r_3, M_1, hc_2, h⟩ := h
  refine v_1 (ci := 12) (C := (RX12, TX12, 68)) [vR (some (1, 10))] [] 243 dX12_fact_240 rfl rfl rfl rfl rfl mo_X12_isWord ml_12_268 rfl rfl hc_2 ?_
  refine r_if_eq 246 269 dX12_fact_243 rfl rfl (fun c => ?_) (fun c => ?_)
  · have h := h.1 (c)
    exact h
  · have h := h.2 (c)
    refine r_aload_n 247 dX12_fact_246 rfl rfl ?_
    obtain ⟨M_4, hc_5, h⟩ := h
    refine v_0 (ci := 12) (C := (RX12, TX12, 68)) [] [] 250 dX12_fact_247 rfl rfl rfl rfl rfl mo_X12_counts ml_12_285 rfl rfl hc_5 ?_
    refine r_aload_n 251 dX12_fact_250 rfl rfl ?_
    refine r_iconst 252 dX12_fact_251 rfl (InR_of rfl) ?_
    refine r_iconst 253 dX12_fact_252 rfl (InR_of rfl) ?_
    obtain ⟨M_6, hc_7, h⟩ := h
    refine v_0 (ci := 12) (C := (RX12, TX12, 68)) [vI 2, vI 0] [] 256 dX12_fact_253 rfl rfl rfl rfl rfl mo_X12_emits ml_12_263 rfl rfl hc_7 ?_
    obtain ⟨o_8, h⟩ := h
    refine r_aload_n 257 dX12_fact_256 rfl rfl ?_
    refine r_dup 258 dX12_fact_257 rfl rfl ?_
    refine g_I 261 dX12_fact_258 rfl rfl rfl fi_12_218 rfl ?_
    refine r_iconst 262 dX12_fact_261 rfl (InR_of rfl) ?_
    refine r_iadd 263 dX12_fact_262 rfl o_8 ?_
    refine p_I 266 dX12_fact_263 rfl rfl rfl rfl pf_12_218 (.inl rfl) rfl ?_
    refine r_goto 306 dX12_fact_266 rfl ?_
    exact h
set_option maxRecDepth 4000 in
theorem xX12_fact_269 {l : Launch} {G : Gt} {d : Nat} {M M' : Mem} {r : Option Vl} {x1 : Int} {x2 : Int} (hStr : cCnt M.2.2 1 = 28) (h : 
    ∃ (r_3 : Int) (M_1 : Mem), Cl l G d mX12_isWord [vR (some (3, 0)), vR (some (1, 11))] M (some (vI r_3)) M_1 ∧ ((r_3 = 0 → ∃ (M_4 : Mem), Cl l G d mX12_fails [vR (some (3, 0)), vI 0, vI (M_1.1 3 0 30)] M_1 none M_4 ∧ Ex l G (d + 1) mX12_fact 306 [some (vR (some (3, 0))), some (vI x1), some (vI x2)] [] M_4 r M') ∧ (¬ (r_3 = 0) → ∃ (M_6 : Mem), Cl l G d mX12_counts [vR (some (3, 0))] M_1 none M_6 ∧ ((¬ ((M_6.1 3 0 31) = 0) → Ex l G (d + 1) mX12_fact 306 [some (vR (some (3, 0))), some (vI x1), some (vI x2)] [] M_6 r M') ∧ ((M_6.1 3 0 31) = 0 → ∃ (M_8 : Mem), Cl l G d mX12_atPlace [vR (some (3, 0))] M_6 none M_8 ∧ Ex l G (d + 1) mX12_fact 306 [some (vR (some (3, 0))), some (vI x1), some (vI x2)] [] M_8 r M'))))) : Ex l G (d + 1) mX12_fact 269 [some (vR (some (3, 0))), some (vI x1), some (vI x2)] [] M r M' := by
  refine r_aload_n 270 dX12_fact_269 rfl rfl ?_
  refine r_ldcwS (j := 11) 273 dX12_fact_270 rfl ⟨rfl, rfl⟩ rfl hStr ?_
  obtain ⟨r_3, M_1, hc_2, h⟩ := h
  refine v_1 (ci := 12) (C := (RX12, TX12, 68)) [vR (some (1, 11))] [] 276 dX12_fact_273 rfl rfl rfl rfl rfl mo_X12_isWord ml_12_268 rfl rfl hc_2 ?_
  refine r_if_eq 279 297 dX12_fact_276 rfl rfl (fun c => ?_) (fun c => ?_)
  · have h := h.1 (c)
    refine r_aload_n 298 dX12_fact_297 rfl rfl ?_
    refine r_iconst 299 dX12_fact_298 rfl (InR_of rfl) ?_
    refine r_aload_n 300 dX12_fact_299 rfl rfl ?_
    refine g_I 303 dX12_fact_300 rfl rfl rfl fi_12_218 rfl ?_
    obtain ⟨M_4, hc_5, h⟩ := h
    refine v_0 (ci := 12) (C := (RX12, TX12, 68)) [vI 0, vI (M_1.1 3 0 30)] [] 306 dX12_fact_303 rfl rfl rfl rfl rfl mo_X12_fails ml_12_253 rfl rfl hc_5 ?_
    exact h
  · have h := h.2 (c)
    refine r_aload_n 280 dX12_fact_279 rfl rfl ?_
    obtain ⟨M_6, hc_7, h⟩ := h
    refine v_0 (ci := 12) (C := (RX12, TX12, 68)) [] [] 283 dX12_fact_280 rfl rfl rfl rfl rfl mo_X12_counts ml_12_285 rfl rfl hc_7 ?_
    refine r_aload_n 284 dX12_fact_283 rfl rfl ?_
    refine g_I 287 dX12_fact_284 rfl rfl rfl fi_12_215 rfl ?_
    refine r_if_ne 290 306 dX12_fact_287 rfl rfl (fun c => ?_) (fun c => ?_)
    · have h := h.1 (c)
      exact h
    · have h := h.2 (Decidable.not_not.mp c)
      refine r_aload_n 291 dX12_fact_290 rfl rfl ?_
      obtain ⟨M_8, hc_9, h⟩ := h
      refine v_0 (ci := 12) (C := (RX12, TX12, 68)) [] [] 294 dX12_fact_291 rfl rfl rfl rfl rfl mo_X12_atPlace ml_12_292 rfl rfl hc_9 ?_
      refine r_goto 306 dX12_fact_294 rfl ?_
      exact h
set_option maxRecDepth 4000 in
theorem xX12_fact_306 {l : Launch} {G : Gt} {d : Nat} {M M' : Mem} {r : Option Vl} {x1 : Int} {x2 : Int} (h : 
    r = some (vI 1) ∧ M' = M) : Ex l G (d + 1) mX12_fact 306 [some (vR (some (3, 0))), some (vI x1), some (vI x2)] [] M r M' := by
  refine r_iconst 307 dX12_fact_306 rfl (InR_of rfl) ?_
  exact r_iret dX12_fact_307 rfl (.inr ⟨rfl, (.inr rfl)⟩) h.1 h.2

theorem Rg_bl (hS : Sh M.2.1) (h : Rg sl t n q e o dp ti cn s M.1) (hq : q ≤ n) : Cl l G d mX12_blanks [vR (some (3, 0))] M none (upI M.1 3 0 30 (bl t n q : Nat), M.2.1, M.2.2) ∧ Rg sl t n (bl t n q) e o dp ti cn s (upI M.1 3 0 30 (bl t n q : Nat)) ∧ frV sl M.1 (upI M.1 3 0 30 (bl t n q : Nat)) :=
  ⟨KX12_blanks _ rfl hS h.1 h.2.2.1 hq, h.md (by omega) (by rw [if_pos rfl]) rfl rfl rfl rfl, frV.md (by omega)⟩
theorem at_123 {x1 x2 x3 : Int} (hS : Sh M.2.1) (h : Rg sl t n q e o dp ti cn s M.1) (ho : o.length < 400) : ∃ I', Ex l G (d + 1) mX12_atPlace 123 [some (vR (some (3, 0))), some (vI x1), some (vI x2), some (vI x3)] [] M none (I', M.2.1, M.2.2) ∧ Rg sl t n q e (o ++ [(1, x3)]) dp ti cn s I' ∧ frV sl M.1 I' := by
  obtain ⟨I1, k1, k2, k3, -⟩ := KX12_emits (l := l) (G := G) (d := d) (x1 := 1) (x2 := x3) hS h ho
  exact ⟨I1, xX12_atPlace_123 ⟨_, k1, rfl, rfl⟩, k2, k3⟩
/-- behind the digits -/
theorem at_93 {b : Nat} {x2 x3 : Int} (hS : Sh M.2.1) (h : Rg sl t n q 0 o dp ti cn s M.1) (ho : o.length < 400) (hb : b ≤ 400) : ∃ I', Ex l G (d + 1) mX12_atPlace 93 [some (vR (some (3, 0))), some (vI (b : Int)), some (vI x2), some (vI x3)] [] M none (I', M.2.1, M.2.2) ∧ Rg sl t n q (if x2 = 0 then 1 + 8 * (b : Int) + 0 else if 1 < x2 ∨ 8 ≤ x3 then 1 + 8 * (b : Int) + 1 else 0) (o ++ [(1, x3)]) dp ti cn s I' ∧ frV sl M.1 I' := by
  by_cases c0 : x2 = 0
  · obtain ⟨I1, k1, k2, k3⟩ := KX12_fails (l := l) (G := G) (d := d) (x1 := 0) (x2 := (b : Int)) h (by omega) (by omega)
    obtain ⟨I2, j1, j2, j3⟩ := at_123 (l := l) (G := G) (d := d) (M := (I1, M.2.1, M.2.2)) (x1 := (b : Int)) (x2 := x2) (x3 := x3) hS k2 ho
    refine ⟨I2, xX12_atPlace_93 ⟨fun c => absurd c0 c, fun _ => ⟨_, k1, j1⟩⟩, ?_, k3.tr j3⟩
    rw [if_pos c0]; rw [if_pos rfl] at j2; exact j2
  · by_cases c1 : 1 < x2
    · obtain ⟨I1, k1, k2, k3⟩ := KX12_fails (l := l) (G := G) (d := d) (x1 := 1) (x2 := (b : Int)) h (by omega) (by omega)
      obtain ⟨I2, j1, j2, j3⟩ := at_123 (l := l) (G := G) (d := d) (M := (I1, M.2.1, M.2.2)) (x1 := (b : Int)) (x2 := x2) (x3 := x3) hS k2 ho
      refine ⟨I2, xX12_atPlace_93 ⟨fun _ => ⟨fun _ => ⟨_, k1, j1⟩, fun c => absurd c1 c⟩, fun c => absurd c c0⟩, ?_, k3.tr j3⟩
      rw [if_neg c0, if_pos (.inl c1)]; rw [if_pos rfl] at j2; exact j2
    · by_cases c2 : x3 < 8
      · obtain ⟨I2, j1, j2, j3⟩ := at_123 (l := l) (G := G) (d := d) (M := M) (x1 := (b : Int)) (x2 := x2) (x3 := x3) hS h ho
        refine ⟨I2, xX12_atPlace_93 ⟨fun _ => ⟨fun c => absurd c c1, fun _ => ⟨fun _ => j1, fun c => absurd c2 c⟩⟩, fun c => absurd c c0⟩, ?_, j3⟩
        rw [if_neg c0, if_neg (by omega)]; exact j2
      · obtain ⟨I1, k1, k2, k3⟩ := KX12_fails (l := l) (G := G) (d := d) (x1 := 1) (x2 := (b : Int)) h (by omega) (by omega)
        obtain ⟨I2, j1, j2, j3⟩ := at_123 (l := l) (G := G) (d := d) (M := (I1, M.2.1, M.2.2)) (x1 := (b : Int)) (x2 := x2) (x3 := x3) hS k2 ho
        refine ⟨I2, xX12_atPlace_93 ⟨fun _ => ⟨fun c => absurd c c1, fun _ => ⟨fun c => absurd c c2, fun _ => ⟨_, k1, j1⟩⟩⟩, fun c => absurd c c0⟩, ?_, k3.tr j3⟩
        rw [if_neg c0, if_pos (by omega)]; rw [if_pos rfl] at j2; exact j2
theorem at_23 {b : Nat} (ho : o.length < 400) (hb : b ≤ n) : ∀ (k : Nat) {M : Mem} {q : Nat}, n - q = k → Sh M.2.1 → Rg sl t n q 0 o dp ti cn s M.1 → b ≤ q → q ≤ n → (∀ i, b ≤ i → i < q → (48 ≤ t i ∧ t i ≤ 57)) → ∃ I', Ex l G (d + 1) mX12_atPlace 23 [some (vR (some (3, 0))), some (vI (b : Int)), some (vI ((q : Int) - b)), some (vI (if q = b then 0 else t b - 48 : Int))] [] M none (I', M.2.1, M.2.2) ∧ Rg sl t n (dg t n b) (if dg t n b = b then 1 + 8 * (b : Int) + 0 else if b + 1 < dg t n b ∨ 56 ≤ t b then 1 + 8 * (b : Int) + 1 else 0) (o ++ [(1, if dg t n b = b then 0 else t b - 48)]) dp ti cn s I' ∧ frV sl M.1 I' := by
  have fin : ∀ {M : Mem} {q : Nat}, Sh M.2.1 → Rg sl t n q 0 o dp ti cn s M.1 → b ≤ q → q ≤ n → dg t n b = q → ∃ I', Ex l G (d + 1) mX12_atPlace 93 [some (vR (some (3, 0))), some (vI (b : Int)), some (vI ((q : Int) - b)), some (vI (if q = b then 0 else t b - 48 : Int))] [] M none (I', M.2.1, M.2.2) ∧ Rg sl t n (dg t n b) (if dg t n b = b then 1 + 8 * (b : Int) + 0 else if b + 1 < dg t n b ∨ 56 ≤ t b then 1 + 8 * (b : Int) + 1 else 0) (o ++ [(1, if dg t n b = b then 0 else t b - 48)]) dp ti cn s I' ∧ frV sl M.1 I' := by
    intro M q hS h h1 h2 eq
    have hn := h.1.2.1
    obtain ⟨I1, k1, k2, k3⟩ := at_93 (l := l) (G := G) (d := d) (b := b) (x2 := (q : Int) - b) (x3 := (if q = b then 0 else t b - 48 : Int)) hS h ho (by omega)
    refine ⟨I1, k1, ?_, k3⟩
    rw [eq]
    have e1 : (if (q : Int) - b = 0 then 1 + 8 * (b : Int) + 0 else if 1 < (q : Int) - b ∨ 8 ≤ (if q = b then 0 else t b - 48 : Int) then 1 + 8 * (b : Int) + 1 else 0) = (if q = b then 1 + 8 * (b : Int) + 0 else if b + 1 < q ∨ 56 ≤ t b then 1 + 8 * (b : Int) + 1 else 0) := by
      by_cases c : q = b
      · rw [if_pos (show (q : Int) - b = 0 by omega), if_pos c]
      · rw [if_neg (show ¬ (q : Int) - b = 0 by omega), if_neg c, if_neg c]
        by_cases c2 : b + 1 < q ∨ 56 ≤ t b
        · rw [if_pos c2, if_pos (by omega)]
        · rw [if_neg c2, if_neg (by omega)]
    rw [← e1]
    exact k2
  intro k
  induction k with
  | zero =>
    intro M q hk hS h h1 h2 h3
    have eq : dg t n b = q := rn_eq h1 h2 (fun i a c => by simp; exact h3 i a c) (.inl (by omega))
    have h29 := h.1.1
    have h30 : M.1 3 0 30 = (q : Int) := h.2.2.1
    obtain ⟨I1, k1, k2⟩ := fin hS h h1 h2 eq
    exact ⟨I1, xX12_atPlace_23 hS ⟨fun _ => k1, fun c => by omega⟩, k2⟩
  | succ k ih =>
    intro M q hk hS h h1 h2 h3
    have h29 := h.1.1
    have h30 : M.1 3 0 30 = (q : Int) := h.2.2.1
    have hn := h.1.2.1
    obtain ⟨hr, ht⟩ := h.1.2.2 q (by omega)
    have eq : (M.1 3 0 30).toNat = q := by omega
    by_cases c : 48 ≤ t q ∧ t q ≤ 57
    · have hq : M.1 76 0 q = t q := by omega
      obtain ⟨I1, k1, k2, k3⟩ := ih (M := (upI M.1 3 0 30 (M.1 3 0 30 + 1), M.2.1, M.2.2)) (q := q + 1) (by omega) hS (h.md (by omega) (by rw [if_pos rfl]; omega) rfl rfl rfl rfl) (by omega) (by omega) (fun i a c' => by
        by_cases e2 : i = q
        · subst e2; exact c
        · exact h3 i a (by omega))
      refine ⟨I1, xX12_atPlace_23 hS ⟨fun c => by omega, fun _ => ⟨by omega, fun c' => absurd (by rw [eq, hq]; exact c) c', fun _ => ⟨fun _ => ⟨by omega, by rw [eq, hq]; unfold InR; omega⟩, ⟨by unfold InR; omega, by unfold InR; omega⟩, ?_⟩⟩⟩, k2, (frV.md (by omega)).tr k3⟩
      have e3 : (if (q : Int) - b = 0 then M.1 76 0 (M.1 3 0 30).toNat - 48 else (if q = b then 0 else t b - 48 : Int)) = (if q + 1 = b then 0 else t b - 48 : Int) := by
        rw [if_neg (show ¬ q + 1 = b by omega), eq, hq]
        by_cases c5 : q = b
        · rw [if_pos (by omega), c5]
        · rw [if_neg (show ¬ (q : Int) - b = 0 by omega), if_neg c5]
      rw [e3, show (q : Int) - b + 1 = ((q + 1 : Nat) : Int) - b by omega]
      exact k1
    · have eq' : dg t n b = q := rn_eq h1 h2 (fun i a c => by simp; exact h3 i a c) (.inr (by simp; intro h'; omega))
      obtain ⟨I1, k1, k2⟩ := fin hS h h1 h2 eq'
      refine ⟨I1, xX12_atPlace_23 hS ⟨fun _ => k1, fun _ => ⟨by omega, fun _ => k1, fun c' => absurd ?_ c⟩⟩, k2⟩
      rw [eq] at c'
      omega
theorem KX12_atPlace (hS : Sh M.2.1) (h : Rg sl t n q 0 o dp ti cn s M.1) (hq : q + 2 ≤ n) (ho : o.length < 400) : ∃ I', Cl l G (d + 1) mX12_atPlace [vR (some (3, 0))] M none (I', M.2.1, M.2.2) ∧ Rg sl t n (dg t n (bl t n (q + 2))) (if dg t n (bl t n (q + 2)) = bl t n (q + 2) then 1 + 8 * ((bl t n (q + 2) : Nat) : Int) + 0 else if bl t n (q + 2) + 1 < dg t n (bl t n (q + 2)) ∨ 56 ≤ t (bl t n (q + 2)) then 1 + 8 * ((bl t n (q + 2) : Nat) : Int) + 1 else 0) (o ++ [(1, if dg t n (bl t n (q + 2)) = bl t n (q + 2) then 0 else t (bl t n (q + 2)) - 48)]) dp ti cn s I' ∧ frV sl M.1 I' := by
  have h30 : M.1 3 0 30 = (q : Int) := h.2.2.1
  have hn := h.1.2.1
  obtain ⟨b1, b2, -, -⟩ := rn_sp (fun i => decide (t i = 32)) n (q + 2) hq
  have g1 : Rg sl t n (q + 2) 0 o dp ti cn s (upI M.1 3 0 30 (M.1 3 0 30 + 2)) := h.md (by omega) (by rw [if_pos rfl]; omega) rfl rfl rfl rfl
  obtain ⟨c1, c2, c3⟩ := Rg_bl (l := l) (G := G) (d := d) (M := (upI M.1 3 0 30 (M.1 3 0 30 + 2), M.2.1, M.2.2)) hS g1 hq
  obtain ⟨I1, k1, k2, k3⟩ := at_23 (l := l) (G := G) (d := d) (sl := sl) (t := t) (b := bl t n (q + 2)) (s := s) (dp := dp) (ti := ti) (cn := cn) ho b2 _ (M := (upI (upI M.1 3 0 30 (M.1 3 0 30 + 2)) 3 0 30 (bl t n (q + 2) : Nat), M.2.1, M.2.2)) (q := bl t n (q + 2)) rfl hS c2 (Nat.le_refl _) b2 (fun i _ _ => by omega)
  refine ⟨I1, xX12_atPlace_0 ⟨by unfold InR; omega, _, c1, ?_⟩, k2, ((frV.md (by omega)).tr c3).tr k3⟩
  dsimp only
  rw [upI_s]
  rw [if_pos rfl, show ((bl t n (q + 2) : Nat) : Int) - ((bl t n (q + 2) : Nat) : Int) = 0 by omega] at k1
  exact k1
end RW4
